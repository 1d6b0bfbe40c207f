/-! the stable matchings: the search -/
theorem T_back {t : Nat → Option Nat} {p q : Nat} (hp : t p = none) (hq : t q = none) : cs_up (cs_up (cs_up (cs_up t p (some q)) q (some p)) p none) q none = t := by
  funext a
  unfold cs_up
  by_cases e1 : a = q
  · rw [if_pos e1, e1, hq]
  · rw [if_neg e1]
    by_cases e2 : a = p
    · rw [if_pos e2, e2, hp]
    · rw [if_neg e2, if_neg e1, if_neg e2]
theorem cs_with_le {n : Nat} {rk : Nat → Nat → Nat} {p q N : Nat} {t : Nat → Option Nat} {go : (Nat → Option Nat) → rh_A → rh_A} (h : ∀ t A, (go t A).1 ≤ A.1 + N) (A : rh_A) : (cs_with n rk p t go A q).1 ≤ A.1 + N := by
  unfold cs_with
  split
  · omega
  · exact h _ _
theorem cs_fold_le {N : Nat} {t : Nat → Option Nat} {rk : Nat → Nat → Nat} {p : Nat} {f : rh_A → Nat → rh_A} (h : ∀ A q, (f A q).1 ≤ A.1 + N) : ∀ (l : List Nat) (A : rh_A), (l.foldl (fun A q => if t q = none ∧ rk p q < 8 then f A q else A) A).1 ≤ A.1 + l.length * N
  | [], A => by simp
  | q :: l, A => by
    rw [List.foldl_cons]
    have h1 := cs_fold_le (t := t) (rk := rk) (p := p) h l (if t q = none ∧ rk p q < 8 then f A q else A)
    have h2 : (if t q = none ∧ rk p q < 8 then f A q else A).1 ≤ A.1 + N := by
      split
      · exact h A q
      · omega
    rw [List.length_cons, Nat.succ_mul]
    omega
theorem cs_le {n : Nat} {L : Nat → List Nat} {rk : Nat → Nat → Nat} (hl : ∀ p, (L p).length ≤ 7) : ∀ (k p : Nat) (t : Nat → Option Nat) (A : rh_A), (cs_search n L rk k p t A).1 ≤ A.1 + 9 ^ k
  | 0, p, t, A => Nat.le_refl _
  | k + 1, p, t, A => by
    have e : 9 ^ (k + 1) = 9 * 9 ^ k := by rw [Nat.pow_succ, Nat.mul_comm]
    unfold cs_search
    split
    · have := cs_le (n := n) (rk := rk) hl k (p + 1) t A
      omega
    · have h1 := cs_with_le (n := n) (rk := rk) (p := p) (q := p) (t := t) (N := 9 ^ k) (go := cs_search n L rk k (p + 1)) (cs_le hl k (p + 1)) ((L p).foldl (fun A q => if t q = none ∧ rk p q < 8 then cs_with n rk p t (cs_search n L rk k (p + 1)) A q else A) A)
      have h2 := cs_fold_le (t := t) (rk := rk) (p := p) (N := 9 ^ k) (f := fun A q => cs_with n rk p t (cs_search n L rk k (p + 1)) A q) (fun A q => cs_with_le (cs_le hl k (p + 1)) A) (L p) A
      have h3 : (L p).length * 9 ^ k ≤ 7 * 9 ^ k := Nat.mul_le_mul_right _ (hl p)
      omega
def sr_ok (p : Nat) (t : Nat → Option Nat) : Prop := (∀ a, a < p → ∃ c, t a = some c) ∧ ∀ a c, t a = some c → c < 8
theorem wf_len {n : Nat} {L : Nat → List Nat} (hw : rh_wf n L) (p : Nat) : (L p).length ≤ 7 := by
  by_cases hp : p < n
  · exact wf_l hw hp
  · rw [hw.2.2 p (by omega)]; decide
theorem sr_next {p q : Nat} {t : Nat → Option Nat} (h : sr_ok p t) (hp : p < 8) (hq : q < 8) : sr_ok (p + 1) (cs_up (cs_up t p (some q)) q (some p)) := by
  refine ⟨fun a ha => ?_, fun a c hc => ?_⟩
  · unfold cs_up
    by_cases e1 : a = q
    · rw [if_pos e1]; exact ⟨p, rfl⟩
    · rw [if_neg e1]
      by_cases e2 : a = p
      · rw [if_pos e2]; exact ⟨q, rfl⟩
      · rw [if_neg e2]; exact h.1 a (by omega)
  · unfold cs_up at hc
    by_cases e1 : a = q
    · rw [if_pos e1] at hc; cases hc; exact hp
    · rw [if_neg e1] at hc
      by_cases e2 : a = p
      · rw [if_pos e2] at hc; cases hc; exact hq
      · rw [if_neg e2] at hc; exact h.2 a c hc
section S2
variable {b : pB} {g : pG} {τ : pJ} {n : Nat} {L : Nat → List Nat}
abbrev se_ (n : Nat) (L : Nat → List Nat) (t : Nat → Option Nat) (A' : rh_A) (σ : pI) (τ : pJ) : pE := pm_Wp (fun v σ' => v = none ∧ ci_T 33 t σ' ∧ ci_A n A' σ' ∧ st_fr σ σ') τ
theorem k_S_searchWith {d k p q : Nat} {t : Nat → Option Nat} {A : rh_A} {σ : pI} (hg : pm_gok 48 g) (hB : pm_base b) (hw : rh_wf n L) (hp : p < n) (hq : q < n) (hE : env_ n L σ) (ht : ci_T 33 t σ) (hA : ci_A n A σ) (hr : sr_ok p t) (htp : t p = none) (htq : t q = none) (hbd : A.1 + 9 ^ k ≤ 43046721)
    (hSr : ∀ (t : Nat → Option Nat) (A : rh_A) (σ : pI), env_ n L σ → ci_T 33 t σ → ci_A n A σ → sr_ok (p + 1) t → A.1 + 9 ^ k ≤ 43046721 → pm_C b (d + 1) km_S_search [pm_R 32, pm_I (nI (p + 1))] g σ τ 0 0 (se_ n L t (cs_search n L (rh_rk L) k (p + 1) t A) σ τ)) :
    pm_C b (d + 2) km_S_searchWith [pm_R 32, pm_I (nI p), pm_I (nI q)] g σ τ 0 0 (se_ n L t (cs_with n (rh_rk L) p t (cs_search n L (rh_rk L) k (p + 1)) A q) σ τ) := by
  have h8 := hw.1
  have hp8 : p < 8 := by omega
  have hq8 : q < 8 := by omega
  have hE2 : env_ n L (pm_up (pm_up σ 33 p (nI q)) 33 q (nI p)) := env_of hE (fun c x hc => by rw [pm_up_ne (by omega), pm_up_ne (by omega)])
  have hT2 : ci_T 33 (cs_up (cs_up t p (some q)) q (some p)) (pm_up (pm_up σ 33 p (nI q)) 33 q (nI p)) := T_up (T_up ht)
  have hA2 : ci_A n A (pm_up (pm_up σ 33 p (nI q)) 33 q (nI p)) := A_of hA (by rw [pm_up_ne (by omega), pm_up_ne (by omega)]) (fun c x h1 h2 => by rw [pm_up_ne (by omega), pm_up_ne (by omega)]) (fun x => by rw [pm_up_ne (by omega), pm_up_ne (by omega)])
  have hr2 := sr_next hr hp8 hq8
  have hxq : (cs_up (cs_up t p (some q)) q (some p)) q = some p := if_pos rfl
  have hxp : (cs_up (cs_up t p (some q)) q (some p)) p = some q := by
    unfold cs_up
    by_cases e : p = q
    · rw [if_pos e, e]
    · rw [if_neg e, if_pos rfl]
  show pm_Y b (d + 2) km_S_searchWith 0 false [some (pm_R 32), some (pm_I (nI p)), some (pm_I (nI q))] [] g σ τ 0 0 0 0 _
  refine pm_aload_n d_S_searchWith_0 rfl ?_
  refine pm_getr d_S_searchWith_1 hf_S_9 (hg.s rfl) (hg.i (by decide)) rfl (hg.r (by decide) rfl) ?_
  refine pm_iload_n d_S_searchWith_4 rfl ?_
  refine pm_iload_n d_S_searchWith_5 rfl ?_
  refine pm_iastore p d_S_searchWith_6 (hg.s rfl) (hg.i (by decide)) rfl hp8 (by decide) ?_
  refine pm_aload_n d_S_searchWith_7 rfl ?_
  refine pm_getr d_S_searchWith_8 hf_S_9 (hg.s rfl) (hg.i (by decide)) rfl (hg.r (by decide) rfl) ?_
  refine pm_iload_n d_S_searchWith_11 rfl ?_
  refine pm_iload_n d_S_searchWith_12 rfl ?_
  refine pm_iastore q d_S_searchWith_13 (hg.s rfl) (hg.i (by decide)) rfl hq8 (by decide) ?_
  refine pm_aload_n d_S_searchWith_14 rfl ?_
  refine pm_getr d_S_searchWith_15 hf_S_27 (hg.s rfl) (hg.i (by decide)) rfl (hg.r (by decide) rfl) ?_
  refine pm_iload_n d_S_searchWith_18 rfl ?_
  refine pm_aload_n d_S_searchWith_19 rfl ?_
  refine pm_getr d_S_searchWith_20 hf_S_9 (hg.s rfl) (hg.i (by decide)) rfl (hg.r (by decide) rfl) ?_
  refine pm_callR (i := 1) (ci := 1) (rest := []) [pm_I (nI p), pm_R 33] hB d_S_searchWith_23 hc_S_69 (k_W_wouldBlockWithAny (x := q) hg hB hw hE2.1 hE2.2.2 hp8 rfl (hg.i (by decide)) hT2 hr2.2 hxp) (hg.s rfl) (hg.i (by decide)) rfl rfl rfl rfl (Nat.le_of_ble_eq_true rfl) (Nat.le_of_ble_eq_true rfl) (by omega) (by omega) ?_
  refine pm_if_neB 51 d_S_searchWith_26 rfl (fun c26 => ?_) (fun c26 => ?_)
  · refine pm_aload_n d_S_searchWith_51 rfl ?_
    refine pm_getr d_S_searchWith_52 hf_S_9 (hg.s rfl) (hg.i (by decide)) rfl (hg.r (by decide) rfl) ?_
    refine pm_iload_n d_S_searchWith_55 rfl ?_
    refine pm_iconst' (-1) d_S_searchWith_56 (by decide) ?_
    refine pm_iastore p d_S_searchWith_57 (hg.s rfl) (hg.i (by decide)) rfl hp8 (by decide) ?_
    refine pm_aload_n d_S_searchWith_58 rfl ?_
    refine pm_getr d_S_searchWith_59 hf_S_9 (hg.s rfl) (hg.i (by decide)) rfl (hg.r (by decide) rfl) ?_
    refine pm_iload_n d_S_searchWith_62 rfl ?_
    refine pm_iconst' (-1) d_S_searchWith_63 (by decide) ?_
    refine pm_iastore q d_S_searchWith_64 (hg.s rfl) (hg.i (by decide)) rfl hq8 (by decide) ?_
    exact pm_return d_S_searchWith_65 rfl (fun _ => rfl) (Nat.le_refl _) (Nat.le_refl _) ⟨⟨rfl, by have h9 := T_dn (a := q) (T_dn (a := p) hT2); rw [T_back htp htq] at h9; exact h9, by
            unfold cs_with
            rw [if_pos (by rw [c26]; rfl)]
            exact A_of hA2 (by rw [pm_up_ne (by omega), pm_up_ne (by omega)]) (fun c x h1 h2 => by rw [pm_up_ne (by omega), pm_up_ne (by omega)]) (fun x => by rw [pm_up_ne (by omega), pm_up_ne (by omega)]), fun c x a1 a2 a3 a4 => by rw [pm_up_ne (by omega), pm_up_ne (by omega), pm_up_ne (by omega), pm_up_ne (by omega)]⟩, rfl⟩
  · refine pm_aload_n d_S_searchWith_29 rfl ?_
    refine pm_getr d_S_searchWith_30 hf_S_27 (hg.s rfl) (hg.i (by decide)) rfl (hg.r (by decide) rfl) ?_
    refine pm_iload_n d_S_searchWith_33 rfl ?_
    refine pm_aload_n d_S_searchWith_34 rfl ?_
    refine pm_getr d_S_searchWith_35 hf_S_9 (hg.s rfl) (hg.i (by decide)) rfl (hg.r (by decide) rfl) ?_
    refine pm_callR (i := 1) (ci := 1) (rest := []) [pm_I (nI q), pm_R 33] hB d_S_searchWith_38 hc_S_69 (k_W_wouldBlockWithAny (x := p) hg hB hw hE2.1 hE2.2.2 hq8 rfl (hg.i (by decide)) hT2 hr2.2 hxq) (hg.s rfl) (hg.i (by decide)) rfl rfl rfl rfl (Nat.le_of_ble_eq_true rfl) (Nat.le_of_ble_eq_true rfl) (by omega) (by omega) ?_
    refine pm_if_neB 51 d_S_searchWith_41 rfl (fun c41 => ?_) (fun c41 => ?_)
    · refine pm_aload_n d_S_searchWith_51 rfl ?_
      refine pm_getr d_S_searchWith_52 hf_S_9 (hg.s rfl) (hg.i (by decide)) rfl (hg.r (by decide) rfl) ?_
      refine pm_iload_n d_S_searchWith_55 rfl ?_
      refine pm_iconst' (-1) d_S_searchWith_56 (by decide) ?_
      refine pm_iastore p d_S_searchWith_57 (hg.s rfl) (hg.i (by decide)) rfl hp8 (by decide) ?_
      refine pm_aload_n d_S_searchWith_58 rfl ?_
      refine pm_getr d_S_searchWith_59 hf_S_9 (hg.s rfl) (hg.i (by decide)) rfl (hg.r (by decide) rfl) ?_
      refine pm_iload_n d_S_searchWith_62 rfl ?_
      refine pm_iconst' (-1) d_S_searchWith_63 (by decide) ?_
      refine pm_iastore q d_S_searchWith_64 (hg.s rfl) (hg.i (by decide)) rfl hq8 (by decide) ?_
      exact pm_return d_S_searchWith_65 rfl (fun _ => rfl) (Nat.le_refl _) (Nat.le_refl _) ⟨⟨rfl, by have h9 := T_dn (a := q) (T_dn (a := p) hT2); rw [T_back htp htq] at h9; exact h9, by
            unfold cs_with
            rw [if_pos (by rw [c26, c41]; rfl)]
            exact A_of hA2 (by rw [pm_up_ne (by omega), pm_up_ne (by omega)]) (fun c x h1 h2 => by rw [pm_up_ne (by omega), pm_up_ne (by omega)]) (fun x => by rw [pm_up_ne (by omega), pm_up_ne (by omega)]), fun c x a1 a2 a3 a4 => by rw [pm_up_ne (by omega), pm_up_ne (by omega), pm_up_ne (by omega), pm_up_ne (by omega)]⟩, rfl⟩
    · refine pm_aload_n d_S_searchWith_44 rfl ?_
      refine pm_iload_n d_S_searchWith_45 rfl ?_
      refine pm_iconst' (nI 1) d_S_searchWith_46 (by decide) ?_
      refine pm_iaddN d_S_searchWith_47 ?_
      refine pm_callWp (i := 32) (ci := 3) (rest := []) [pm_I (nI (p + 1))] hB d_S_searchWith_48 hc_S_51 (hSr _ _ _ hE2 hT2 hA2 hr2 hbd) (hg.s rfl) (hg.i (by decide)) rfl rfl rfl rfl (Nat.le_of_ble_eq_true rfl) (Nat.le_of_ble_eq_true rfl) (by omega) (by omega) (fun v48 σ₃ hv48 hq48 => ?_)
      obtain ⟨rfl, hT3, hA3, hf3⟩ := hq48
      show pm_Y b _ km_S_searchWith 51 true [some (pm_R 32), some (pm_I (nI p)), some (pm_I (nI q))] [] g σ₃ τ 0 0 0 0 _
      refine pm_aload_n d_S_searchWith_51 rfl ?_
      refine pm_getr d_S_searchWith_52 hf_S_9 (hg.s rfl) (hg.i (by decide)) rfl (hg.r (by decide) rfl) ?_
      refine pm_iload_n d_S_searchWith_55 rfl ?_
      refine pm_iconst' (-1) d_S_searchWith_56 (by decide) ?_
      refine pm_iastore p d_S_searchWith_57 (hg.s rfl) (hg.i (by decide)) rfl hp8 (by decide) ?_
      refine pm_aload_n d_S_searchWith_58 rfl ?_
      refine pm_getr d_S_searchWith_59 hf_S_9 (hg.s rfl) (hg.i (by decide)) rfl (hg.r (by decide) rfl) ?_
      refine pm_iload_n d_S_searchWith_62 rfl ?_
      refine pm_iconst' (-1) d_S_searchWith_63 (by decide) ?_
      refine pm_iastore q d_S_searchWith_64 (hg.s rfl) (hg.i (by decide)) rfl hq8 (by decide) ?_
      exact pm_return d_S_searchWith_65 rfl (fun _ => rfl) (Nat.le_refl _) (Nat.le_refl _) ⟨⟨rfl, by have h9 := T_dn (a := q) (T_dn (a := p) hT3); rw [T_back htp htq] at h9; exact h9, by
            unfold cs_with
            rw [if_neg (by rw [c26, c41]; decide)]
            exact A_of hA3 (by rw [pm_up_ne (by omega), pm_up_ne (by omega)]) (fun c x h1 h2 => by rw [pm_up_ne (by omega), pm_up_ne (by omega)]) (fun x => by rw [pm_up_ne (by omega), pm_up_ne (by omega)]), fun c x a1 a2 a3 a4 => by rw [pm_up_ne (by omega), pm_up_ne (by omega), hf3 c x a1 a2 a3 a4, pm_up_ne (by omega), pm_up_ne (by omega)]⟩, rfl⟩
theorem l_S_search_36 {d k p : Nat} {t : Nat → Option Nat} {A : rh_A} {σ : pI} (hg : pm_gok 48 g) (hB : pm_base b) (hw : rh_wf n L) (hp : p < n) (hE : env_ n L σ) (ht : ci_T 33 t σ) (hA : ci_A n A σ) (hr : sr_ok p t) (htp : t p = none) (hbd : A.1 + 9 ^ (k + 1) ≤ 43046721)
    (hSr : ∀ (t : Nat → Option Nat) (A : rh_A) (σ : pI), env_ n L σ → ci_T 33 t σ → ci_A n A σ → sr_ok (p + 1) t → A.1 + 9 ^ k ≤ 43046721 → pm_C b (d + 2 * k + 2 + 1) km_S_search [pm_R 32, pm_I (nI (p + 1))] g σ τ 0 0 (se_ n L t (cs_search n L (rh_rk L) k (p + 1) t A) σ τ)) (l3 : Option pV) :
    pm_Y b (d + 2 * k + 4 + 1) km_S_search 36 true [some (pm_R 32), some (pm_I (nI p)), some (pm_I (nI 0)), l3] [] g σ τ 0 0 0 0 (se_ n L t (cs_search n L (rh_rk L) (k + 1) p t A) σ τ) := by
  have h8 := hw.1
  have hp8 : p < 8 := by omega
  have hl7 := wf_l hw hp
  have hlb := wf_b hw hp
  have ep : 9 ^ (k + 1) = 9 * 9 ^ k := by rw [Nat.pow_succ, Nat.mul_comm]
  have hle : ∀ i, i ≤ (L p).length → (((L p).take i).foldl (fun A q => if t q = none ∧ rh_rk L p q < 8 then cs_with n (rh_rk L) p t (cs_search n L (rh_rk L) k (p + 1)) A q else A) A).1 + 9 ^ k ≤ 43046721 := fun i hi => by
    have h2 := cs_fold_le (t := t) (rk := rh_rk L) (p := p) (N := 9 ^ k) (f := fun A q => cs_with n (rh_rk L) p t (cs_search n L (rh_rk L) k (p + 1)) A q) (fun A q => cs_with_le (cs_le (wf_len hw) k (p + 1)) A) ((L p).take i) A
    have h3 : ((L p).take i).length * 9 ^ k ≤ 7 * 9 ^ k := Nat.mul_le_mul_right _ (by rw [List.length_take]; omega)
    omega
  refine pm_for (L p).length (fun i σ₂ => ∀ l3 : Option pV, pm_Y b (d + 2 * k + 4 + 1) km_S_search 36 true [some (pm_R 32), some (pm_I (nI p)), some (pm_I (nI i)), l3] [] g σ₂ τ 0 0 0 0 (se_ n L t (cs_search n L (rh_rk L) (k + 1) p t A) σ τ)) (fun i σ₂ => ci_T 33 t σ₂ ∧ ci_A n (((L p).take i).foldl (fun A q => if t q = none ∧ rh_rk L p q < 8 then cs_with n (rh_rk L) p t (cs_search n L (rh_rk L) k (p + 1)) A q else A) A) σ₂ ∧ st_fr σ σ₂) (fun i σ₂ hi hI ih l3 => ?_) (fun σ₂ hI l3 => ?_) (L p).length 0 σ (by omega) ⟨ht, hA, fun _ _ _ _ _ _ => rfl⟩ l3
  · obtain ⟨hT2, hA2, hf2⟩ := hI
    have hE2 : env_ n L σ₂ := env_of hE hf2.lo
    have hqm : (L p).getD i 0 ∈ L p := (mem_get _ _).mpr ⟨i, hi, rfl⟩
    have hqn := ((hw.2.1 p hp).2 _ hqm).1
    have hbd2 := hle i (by omega)
    have hstep : ((L p).take (i + 1)).foldl (fun A q => if t q = none ∧ rh_rk L p q < 8 then cs_with n (rh_rk L) p t (cs_search n L (rh_rk L) k (p + 1)) A q else A) A = (fun A q => if t q = none ∧ rh_rk L p q < 8 then cs_with n (rh_rk L) p t (cs_search n L (rh_rk L) k (p + 1)) A q else A) (((L p).take i).foldl (fun A q => if t q = none ∧ rh_rk L p q < 8 then cs_with n (rh_rk L) p t (cs_search n L (rh_rk L) k (p + 1)) A q else A) A) ((L p).getD i 0) := by
      rw [List.take_add_one, List.getElem?_eq_getElem hi, List.foldl_append]
      show _ = (fun A q => if t q = none ∧ rh_rk L p q < 8 then cs_with n (rh_rk L) p t (cs_search n L (rh_rk L) k (p + 1)) A q else A) _ _
      rw [List.getD_eq_getElem?_getD, List.getElem?_eq_getElem hi]
      rfl
    dsimp only at hstep
    refine pm_iload_n d_S_search_36 rfl ?_
    refine pm_aload_n d_S_search_37 rfl ?_
    refine pm_getr d_S_search_38 hf_S_27 (hg.s rfl) (hg.i (by decide)) rfl (hg.r (by decide) rfl) ?_
    refine pm_iload_n d_S_search_41 rfl ?_
    refine pm_callR (i := 1) (ci := 1) (rest := [pm_I (nI i)]) [pm_I (nI p)] hB d_S_search_42 hc_S_37 (k_W_length hg hE2.2.1 hp8) (hg.s rfl) (hg.i (by decide)) rfl rfl rfl rfl (Nat.le_of_ble_eq_true rfl) (Nat.le_of_ble_eq_true rfl) (by omega) (by omega) ?_
    refine pm_icmp_ge_f 92 d_S_search_45 rfl (by rw [nI_leI (by omega) (by omega)]; omega) ?_
    cases e : t ((L p).getD i 0) with
    | some y =>
      refine pm_aload_n d_S_search_48 rfl ?_
      refine pm_getr d_S_search_49 hf_S_27 (hg.s rfl) (hg.i (by decide)) rfl (hg.r (by decide) rfl) ?_
      refine pm_iload_n d_S_search_52 rfl ?_
      refine pm_iload_n d_S_search_53 rfl ?_
      refine pm_callR (i := 1) (ci := 1) (rest := []) [pm_I (nI p), pm_I (nI i)] hB d_S_search_54 hc_S_43 (k_W_otherAt hg hE2.2.1 hp8 hi (by omega)) (hg.s rfl) (hg.i (by decide)) rfl rfl rfl rfl (Nat.le_of_ble_eq_true rfl) (Nat.le_of_ble_eq_true rfl) (by omega) (by omega) ?_
      refine pm_istore_n d_S_search_57 (by decide) ?_
      refine pm_aload_n d_S_search_58 rfl ?_
      refine pm_getr d_S_search_59 hf_S_9 (hg.s rfl) (hg.i (by decide)) rfl (hg.r (by decide) rfl) ?_
      refine pm_iload_n d_S_search_62 rfl ?_
      refine pm_iaload' ((L p).getD i 0) (nI y) d_S_search_63 (hg.s rfl) (hg.i (by decide)) rfl (hlb i) (by decide) (by rw [hT2 _ (hlb i), e]; rfl) ?_
      refine pm_iconst' (-1) d_S_search_64 (by decide) ?_
      refine pm_icmp_ne_t 86 d_S_search_65 rfl (nI_m1 (by have := hr.2 _ _ e; omega)) ?_
      refine pm_iinc' (nI (i + 1)) d_S_search_86 (by decide) rfl (pm_inc _) ?_
      refine pm_goto 36 d_S_search_89 rfl ?_
      -- at 36: lo=[some (pm_R 32), some (pm_I (nI p)), some (pm_I (nI (i + 1))), some (pm_I (nI ((L p).getD i 0)))] st=[]
      exact ih _ (by rw [hstep, if_neg (fun z => by rw [e] at z; cases z.1)]; exact ⟨hT2, hA2, hf2⟩) _
    | none =>
      refine pm_aload_n d_S_search_48 rfl ?_
      refine pm_getr d_S_search_49 hf_S_27 (hg.s rfl) (hg.i (by decide)) rfl (hg.r (by decide) rfl) ?_
      refine pm_iload_n d_S_search_52 rfl ?_
      refine pm_iload_n d_S_search_53 rfl ?_
      refine pm_callR (i := 1) (ci := 1) (rest := []) [pm_I (nI p), pm_I (nI i)] hB d_S_search_54 hc_S_43 (k_W_otherAt hg hE2.2.1 hp8 hi (by omega)) (hg.s rfl) (hg.i (by decide)) rfl rfl rfl rfl (Nat.le_of_ble_eq_true rfl) (Nat.le_of_ble_eq_true rfl) (by omega) (by omega) ?_
      refine pm_istore_n d_S_search_57 (by decide) ?_
      refine pm_aload_n d_S_search_58 rfl ?_
      refine pm_getr d_S_search_59 hf_S_9 (hg.s rfl) (hg.i (by decide)) rfl (hg.r (by decide) rfl) ?_
      refine pm_iload_n d_S_search_62 rfl ?_
      refine pm_iaload' ((L p).getD i 0) (-1) d_S_search_63 (hg.s rfl) (hg.i (by decide)) rfl (hlb i) (by decide) (by rw [hT2 _ (hlb i), e]; rfl) ?_
      refine pm_iconst' (-1) d_S_search_64 (by decide) ?_
      refine pm_icmp_ne_f 86 d_S_search_65 rfl rfl ?_
      refine pm_aload_n d_S_search_68 rfl ?_
      refine pm_getr d_S_search_69 hf_S_27 (hg.s rfl) (hg.i (by decide)) rfl (hg.r (by decide) rfl) ?_
      refine pm_iload_n d_S_search_72 rfl ?_
      refine pm_iload_n d_S_search_73 rfl ?_
      refine pm_callR (i := 1) (ci := 1) (rest := []) [pm_I (nI p), pm_I (nI ((L p).getD i 0))] hB d_S_search_74 hc_S_61 (k_W_arePossible hg hw hE2.2.2 hp8 (hlb i)) (hg.s rfl) (hg.i (by decide)) rfl rfl rfl rfl (Nat.le_of_ble_eq_true rfl) (Nat.le_of_ble_eq_true rfl) (by omega) (by omega) ?_
      refine pm_if_eqB 86 d_S_search_77 rfl (fun c77 => ?_) (fun c77 => ?_)
      · refine pm_iinc' (nI (i + 1)) d_S_search_86 (by decide) rfl (pm_inc _) ?_
        refine pm_goto 36 d_S_search_89 rfl ?_
        -- at 36: lo=[some (pm_R 32), some (pm_I (nI p)), some (pm_I (nI (i + 1))), some (pm_I (nI ((L p).getD i 0)))] st=[]
        exact ih _ (by rw [hstep, if_neg (fun z => (of_decide_eq_false c77) z.2)]; exact ⟨hT2, hA2, hf2⟩) _
      · refine pm_aload_n d_S_search_80 rfl ?_
        refine pm_iload_n d_S_search_81 rfl ?_
        refine pm_iload_n d_S_search_82 rfl ?_
        refine pm_callWp (i := 32) (ci := 3) (rest := []) [pm_I (nI p), pm_I (nI ((L p).getD i 0))] hB d_S_search_83 hc_S_65 (k_S_searchWith (k := k) hg hB hw hp hqn hE2 hT2 hA2 hr htp e hbd2 hSr) (hg.s rfl) (hg.i (by decide)) rfl rfl rfl rfl (Nat.le_of_ble_eq_true rfl) (Nat.le_of_ble_eq_true rfl) (by omega) (by omega) (fun v83 σ₃ hv83 hq83 => ?_)
        obtain ⟨rfl, hT3, hA3, hf3⟩ := hq83
        show pm_Y b _ km_S_search 86 true [some (pm_R 32), some (pm_I (nI p)), some (pm_I (nI i)), some (pm_I (nI ((L p).getD i 0)))] [] g σ₃ τ 0 0 0 0 _
        refine pm_iinc' (nI (i + 1)) d_S_search_86 (by decide) rfl (pm_inc _) ?_
        refine pm_goto 36 d_S_search_89 rfl ?_
        -- at 36: lo=[some (pm_R 32), some (pm_I (nI p)), some (pm_I (nI (i + 1))), some (pm_I (nI ((L p).getD i 0)))] st=[]
        exact ih _ (by rw [hstep, if_pos ⟨e, of_decide_eq_true c77⟩]; exact ⟨hT3, hA3, hf2.tr hf3⟩) _
  · obtain ⟨hT2, hA2, hf2⟩ := hI
    have hE2 : env_ n L σ₂ := env_of hE hf2.lo
    have hbd2 := hle (L p).length (Nat.le_refl _)
    refine pm_iload_n d_S_search_36 rfl ?_
    refine pm_aload_n d_S_search_37 rfl ?_
    refine pm_getr d_S_search_38 hf_S_27 (hg.s rfl) (hg.i (by decide)) rfl (hg.r (by decide) rfl) ?_
    refine pm_iload_n d_S_search_41 rfl ?_
    refine pm_callR (i := 1) (ci := 1) (rest := [pm_I (nI (L p).length)]) [pm_I (nI p)] hB d_S_search_42 hc_S_37 (k_W_length hg hE2.2.1 hp8) (hg.s rfl) (hg.i (by decide)) rfl rfl rfl rfl (Nat.le_of_ble_eq_true rfl) (Nat.le_of_ble_eq_true rfl) (by omega) (by omega) ?_
    refine pm_icmp_ge_t 92 d_S_search_45 rfl (by rw [nI_leI (by omega) (by omega)]; omega) ?_
    refine pm_aload_n d_S_search_92 rfl ?_
    refine pm_iload_n d_S_search_93 rfl ?_
    refine pm_iload_n d_S_search_94 rfl ?_
    refine pm_callWp (i := 32) (ci := 3) (rest := []) [pm_I (nI p), pm_I (nI p)] hB d_S_search_95 hc_S_65 (k_S_searchWith (k := k) hg hB hw hp hp hE2 hT2 hA2 hr htp htp hbd2 hSr) (hg.s rfl) (hg.i (by decide)) rfl rfl rfl rfl (Nat.le_of_ble_eq_true rfl) (Nat.le_of_ble_eq_true rfl) (by omega) (by omega) (fun v95 σ₃ hv95 hq95 => ?_)
    obtain ⟨rfl, hT3, hA3, hf3⟩ := hq95
    show pm_Y b _ km_S_search 98 true [some (pm_R 32), some (pm_I (nI p)), some (pm_I (nI ((L p).length))), l3] [] g σ₃ τ 0 0 0 0 _
    exact pm_return d_S_search_98 rfl (fun _ => rfl) (Nat.le_refl _) (Nat.le_refl _) ⟨⟨rfl, hT3, by
      have e9 : cs_search n L (rh_rk L) (k + 1) p t A = cs_with n (rh_rk L) p t (cs_search n L (rh_rk L) k (p + 1)) ((L p).foldl (fun A q => if t q = none ∧ rh_rk L p q < 8 then cs_with n (rh_rk L) p t (cs_search n L (rh_rk L) k (p + 1)) A q else A) A) p := by
        show (match t p with | some _ => _ | none => _) = _
        rw [htp]
      rw [e9]
      rw [List.take_length] at hA3
      exact hA3, hf2.tr hf3⟩, rfl⟩
theorem k_S_search {d : Nat} (hg : pm_gok 48 g) (hB : pm_base b) (hw : rh_wf n L) : ∀ (k p : Nat) (t : Nat → Option Nat) (A : rh_A) (σ : pI), p + k = n → env_ n L σ → ci_T 33 t σ → ci_A n A σ → sr_ok p t → A.1 + 9 ^ k ≤ 43046721 → pm_C b (d + 2 * k + 3) km_S_search [pm_R 32, pm_I (nI p)] g σ τ 0 0 (se_ n L t (cs_search n L (rh_rk L) k p t A) σ τ)
  | 0, p, t, A, σ, hk, hE, ht, hA, hr, hbd => by
    have h8 := hw.1
    have e0 : p = n := by omega
    rw [e0] at hr ⊢
    show pm_Y b (d + 2 * 0 + 3) km_S_search 0 false [some (pm_R 32), some (pm_I (nI n)), none, none] [] g σ τ 0 0 0 0 _
    refine pm_iload_n d_S_search_0 rfl ?_
    refine pm_aload_n d_S_search_1 rfl ?_
    refine pm_getr d_S_search_2 hf_S_27 (hg.s rfl) (hg.i (by decide)) rfl (hg.r (by decide) rfl) ?_
    refine pm_callR (i := 1) (ci := 1) (rest := [pm_I (nI n)]) [] hB d_S_search_5 hc_S_55 (k_W_count hg hE.1) (hg.s rfl) (hg.i (by decide)) rfl rfl rfl rfl (Nat.le_of_ble_eq_true rfl) (Nat.le_of_ble_eq_true rfl) (by omega) (by omega) ?_
    refine pm_icmp_lt_f 16 d_S_search_8 rfl (by rw [nI_ltI (by omega) (by omega)]; omega) ?_
    refine pm_aload_n d_S_search_11 rfl ?_
    refine pm_callWp (i := 32) (ci := 3) (rest := []) [] hB d_S_search_12 hc_S_58 (k_S_keep (m := fun p => (t p).getD 0) hg hB hw.1 hE.1 ht (fun p hp => by obtain ⟨c, hc⟩ := hr.1 p hp; rw [hc]; rfl) (fun p hp => by obtain ⟨c, hc⟩ := hr.1 p hp; show (t p).getD 0 < 8; rw [hc]; exact hr.2 p c hc) hA hbd) (hg.s rfl) (hg.i (by decide)) rfl rfl rfl rfl (Nat.le_of_ble_eq_true rfl) (Nat.le_of_ble_eq_true rfl) (by omega) (by omega) (fun v12 σ₃ hv12 hq12 => ?_)
    obtain ⟨rfl, hA3, hf3⟩ := hq12
    show pm_Y b _ km_S_search 15 true [some (pm_R 32), some (pm_I (nI n)), none, none] [] g σ₃ τ 0 0 0 0 _
    exact pm_return d_S_search_15 rfl (fun _ => rfl) (Nat.le_refl _) (Nat.le_refl _) ⟨⟨rfl, T_of ht (fun x => hf3 33 x (by omega) (by omega) (by omega)), hA3, fun c x a1 a2 a3 a4 => hf3 c x a2 a3 a4⟩, rfl⟩
  | k + 1, p, t, A, σ, hk, hE, ht, hA, hr, hbd => by
    have h8 := hw.1
    have hp : p < n := by omega
    have hp8 : p < 8 := by omega
    have ep : 9 ^ (k + 1) = 9 * 9 ^ k := by rw [Nat.pow_succ, Nat.mul_comm]
    have hSr : ∀ (t : Nat → Option Nat) (A : rh_A) (σ : pI), env_ n L σ → ci_T 33 t σ → ci_A n A σ → sr_ok (p + 1) t → A.1 + 9 ^ k ≤ 43046721 → pm_C b (d + 2 * k + 2 + 1) km_S_search [pm_R 32, pm_I (nI (p + 1))] g σ τ 0 0 (se_ n L t (cs_search n L (rh_rk L) k (p + 1) t A) σ τ) := fun t A σ h1 h2 h3 h4 h5 => k_S_search hg hB hw k (p + 1) t A σ (by omega) h1 h2 h3 h4 h5
    show pm_Y b (d + 2 * k + 4 + 1) km_S_search 0 false [some (pm_R 32), some (pm_I (nI p)), none, none] [] g σ τ 0 0 0 0 _
    cases e : t p with
    | some y =>
      replace hSr := fun t A σ h1 h2 h3 h4 h5 => pm_C_up (show d + 2 * k + 2 + 1 ≤ d + 2 * k + 4 by omega) (hSr t A σ h1 h2 h3 h4 h5)
      refine pm_iload_n d_S_search_0 rfl ?_
      refine pm_aload_n d_S_search_1 rfl ?_
      refine pm_getr d_S_search_2 hf_S_27 (hg.s rfl) (hg.i (by decide)) rfl (hg.r (by decide) rfl) ?_
      refine pm_callR (i := 1) (ci := 1) (rest := [pm_I (nI p)]) [] hB d_S_search_5 hc_S_55 (k_W_count hg hE.1) (hg.s rfl) (hg.i (by decide)) rfl rfl rfl rfl (Nat.le_of_ble_eq_true rfl) (Nat.le_of_ble_eq_true rfl) (by omega) (by omega) ?_
      refine pm_icmp_lt_t 16 d_S_search_8 rfl (by rw [nI_ltI (by omega) (by omega)]; omega) ?_
      refine pm_aload_n d_S_search_16 rfl ?_
      refine pm_getr d_S_search_17 hf_S_9 (hg.s rfl) (hg.i (by decide)) rfl (hg.r (by decide) rfl) ?_
      refine pm_iload_n d_S_search_20 rfl ?_
      refine pm_iaload' p (nI y) d_S_search_21 (hg.s rfl) (hg.i (by decide)) rfl hp8 (by decide) (by rw [ht p hp8, e]; rfl) ?_
      refine pm_iconst' (-1) d_S_search_22 (by decide) ?_
      refine pm_icmp_eq_f 34 d_S_search_23 rfl (nI_m1 (by have := hr.2 _ _ e; omega)) ?_
      refine pm_aload_n d_S_search_26 rfl ?_
      refine pm_iload_n d_S_search_27 rfl ?_
      refine pm_iconst' (nI 1) d_S_search_28 (by decide) ?_
      refine pm_iaddN d_S_search_29 ?_
      refine pm_callWp (i := 32) (ci := 3) (rest := []) [pm_I (nI (p + 1))] hB d_S_search_30 hc_S_51 (hSr t A σ hE ht hA ⟨fun a ha => by
      by_cases z : a = p
      · rw [z, e]; exact ⟨y, rfl⟩
      · exact hr.1 a (by omega), hr.2⟩ (by omega)) (hg.s rfl) (hg.i (by decide)) rfl rfl rfl rfl (Nat.le_of_ble_eq_true rfl) (Nat.le_of_ble_eq_true rfl) (by omega) (by omega) (fun v30 σ₃ hv30 hq30 => ?_)
      obtain ⟨rfl, hT3, hA3, hf3⟩ := hq30
      show pm_Y b _ km_S_search 33 true [some (pm_R 32), some (pm_I (nI p)), none, none] [] g σ₃ τ 0 0 0 0 _
      exact pm_return d_S_search_33 rfl (fun _ => rfl) (Nat.le_refl _) (Nat.le_refl _) ⟨⟨rfl, hT3, by
        have e9 : cs_search n L (rh_rk L) (k + 1) p t A = cs_search n L (rh_rk L) k (p + 1) t A := by
          show (match t p with | some _ => _ | none => _) = _
          rw [e]
        rw [e9]
        exact hA3, hf3⟩, rfl⟩
    | none =>
      refine pm_iload_n d_S_search_0 rfl ?_
      refine pm_aload_n d_S_search_1 rfl ?_
      refine pm_getr d_S_search_2 hf_S_27 (hg.s rfl) (hg.i (by decide)) rfl (hg.r (by decide) rfl) ?_
      refine pm_callR (i := 1) (ci := 1) (rest := [pm_I (nI p)]) [] hB d_S_search_5 hc_S_55 (k_W_count hg hE.1) (hg.s rfl) (hg.i (by decide)) rfl rfl rfl rfl (Nat.le_of_ble_eq_true rfl) (Nat.le_of_ble_eq_true rfl) (by omega) (by omega) ?_
      refine pm_icmp_lt_t 16 d_S_search_8 rfl (by rw [nI_ltI (by omega) (by omega)]; omega) ?_
      refine pm_aload_n d_S_search_16 rfl ?_
      refine pm_getr d_S_search_17 hf_S_9 (hg.s rfl) (hg.i (by decide)) rfl (hg.r (by decide) rfl) ?_
      refine pm_iload_n d_S_search_20 rfl ?_
      refine pm_iaload' p (-1) d_S_search_21 (hg.s rfl) (hg.i (by decide)) rfl hp8 (by decide) (by rw [ht p hp8, e]; rfl) ?_
      refine pm_iconst' (-1) d_S_search_22 (by decide) ?_
      refine pm_icmp_eq_t 34 d_S_search_23 rfl rfl ?_
      refine pm_iconst' (nI 0) d_S_search_34 (by decide) ?_
      refine pm_istore_n d_S_search_35 (by decide) ?_
      -- at 36: lo=[some (pm_R 32), some (pm_I (nI p)), some (pm_I (nI 0)), none] st=[]
      refine pm_flag ?_
      exact l_S_search_36 hg hB hw hp hE ht hA hr e hbd hSr none
end S2
