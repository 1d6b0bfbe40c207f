/-! the other side: what is asked -/
def RI_ (n : Nat) (L : Nat → List Nat) (dm : Nat → Nat) (σ : pI) : Prop := mi_ n L σ ∧ mp_ n dm σ ∧ (σ 48 5 = nI 0 ∨ (σ 48 5 = nI 1 ∧ ml_ n L σ))
def kfr_ (σ₀ σ : pI) : Prop := ∀ c x, c < 48 ∨ 60 ≤ c → σ c x = σ₀ c x
/-- an answer: refused, or v₀ -/
def an_ (k : Nat) (v₀ : Int32) (v : Option Int32) : Prop := ∃ v', v = some v' ∧ (k = 0 → v' = v₀)
theorem an_no {k : Nat} {v₀ v : Int32} (h : k ≠ 0) : an_ k v₀ (some v) := ⟨v, rfl, fun z => absurd z h⟩
theorem an_ok {k : Nat} {v : Int32} : an_ k v (some v) := ⟨v, rfl, fun _ => rfl⟩
section RI
variable {n : Nat} {L : Nat → List Nat} {dm : Nat → Nat} {σ σ' : pI} {p q : Nat}
theorem ml_of (h : ml_ n L σ) (hf : ∀ c x, (52 ≤ c ∧ c < 56) ∨ (c = 48 ∧ 6 ≤ x) → σ' c x = σ c x) : ml_ n L σ' :=
  ⟨⟨(hf 48 6 (by omega)).trans h.1.1, fun p q hp hq => (hf 52 _ (by omega)).trans (h.1.2.1 p q hp hq), fun z p hp => (hf 53 p (by omega)).trans (h.1.2.2 z p hp)⟩, fun p hp => (hf 55 p (by omega)).trans (h.2.1 p hp), fun p hp => (hf 54 p (by omega)).trans (h.2.2.1 p hp), (hf 48 11 (by omega)).trans h.2.2.2.1, (hf 48 12 (by omega)).trans h.2.2.2.2⟩
theorem RI_code (h : RI_ n L dm σ) (v : Int32) : RI_ n L dm (pm_up σ 48 0 v) :=
  ⟨mi_of h.1 (pm_up_ne (by omega)) (fun c x hc => pm_up_ne (by omega)), fun p hp => (pm_up_ne (by omega)).trans (h.2.1 p hp), by
    rcases h.2.2 with z | z
    · exact Or.inl ((pm_up_ne (by omega)).trans z)
    · exact Or.inr ⟨(pm_up_ne (by omega)).trans z.1, ml_of z.2 (fun c x hc => pm_up_ne (by omega))⟩⟩
theorem kfr_code (v : Int32) : kfr_ σ (pm_up σ 48 0 v) := fun c x hc => pm_up_ne (by omega)
theorem RI_learn {σ₁ : pI} (h : RI_ n L dm σ) (h1 : ml_ n L σ₁) (h2 : σ₁ 48 5 = nI 1) (h3 : lfr_ σ σ₁) : RI_ n L dm σ₁ :=
  ⟨mi_of h.1 (h3 48 1 (by omega)) (fun c x hc => h3 c x (by omega)), fun p hp => (h3 51 p (by omega)).trans (h.2.1 p hp), Or.inr ⟨h2, h1⟩⟩
theorem kfr_learn {σ₁ : pI} {v : Int32} (h3 : lfr_ (pm_up σ 48 0 v) σ₁) : kfr_ σ σ₁ := fun c x hc => by rw [h3 c x (by omega), pm_up_ne (by omega)]
theorem md_D (h : md_ n L dm) (hn : n ≤ 8) : ∀ p, p < n → dm p < n ∧ dm (dm p) = p := fun p hp => by
  refine ⟨?_, (h.1 p (by omega)).2⟩
  by_cases e : dm p = p
  · rw [e]; exact hp
  · exact (h.2 p (by omega) e).2.1
theorem md_R (h : md_ n L dm) (hn : n ≤ 8) : ∀ p, p < n → dm p < n ∧ rh_rk L p (dm p) ≤ 8 := fun p hp => by
  refine ⟨(md_D h hn p hp).1, ?_⟩
  by_cases e : dm p = p
  · rw [e, rh_rk_self]; exact Nat.le_refl 8
  · have := (h.2 p (by omega) e).2.2
    omega
theorem cg_md (hw : rh_wf n L) (h : md_ n L dm) : ∀ p, p < n → cg_ L dm p = dm p := fun p hp => by
  have h8 := hw.1
  unfold cg_
  exact if_neg (fun z => z.2 ((rh_rk_lt hw hp).mp (h.2 p (by omega) z.1).2.2))
theorem cg_rm (hw : rh_wf n L) (h : md_ n L dm) (hp : p < n) {i : Nat} (hi : i < (L p).length) : ∀ x, x < n → cg_ (gw_up L p (rm_list (L p) i)) dm x = (if dm p = (L p).getD i 0 ∧ ¬ rh_rk (gw_up L p (rm_list (L p) i)) p ((L p).getD i 0) < 8 then ms_ dm p else dm) x := by
  intro x hx
  have h8 := hw.1
  have hw' := rm_wf hw hp hi
  have hmd := md_rm hw h hp hi
  have hnd := (hw.2.1 p hp).1
  have hg : (L p).getD i 0 ∉ gw_up L p (rm_list (L p) i) p := by
    rw [gw_up_self, rm_mem hnd hi]
    exact fun z => z.2 rfl
  by_cases e : dm p = (L p).getD i 0 ∧ ¬ rh_rk (gw_up L p (rm_list (L p) i)) p ((L p).getD i 0) < 8
  · rw [if_pos e] at hmd ⊢
    have hnp := ((hw.2.1 p hp).2 _ ((mem_get _ _).mpr ⟨i, hi, rfl⟩)).2
    by_cases e1 : x = p
    · have hb : bd_ (gw_up L p (rm_list (L p) i)) dm x := by
        rw [e1]
        exact ⟨by rw [e.1]; exact hnp, by rw [e.1]; exact fun z => hg z.1⟩
      unfold cg_
      rw [if_pos hb, ms_at, if_pos e1, e1]
    · by_cases e2 : x = dm p
      · have hdx : dm x = p := by rw [e2]; exact (h.1 p (by omega)).2
        have hb : bd_ (gw_up L p (rm_list (L p) i)) dm x := ⟨by rw [hdx]; exact Ne.symm e1, by rw [hdx]; exact fun z => hg (by rw [← e.1, ← e2]; exact z.2)⟩
        unfold cg_
        rw [if_pos hb, ms_at, if_neg e1, if_pos e2, e2]
      · have hms : ms_ dm p x = dm x := by rw [ms_at, if_neg e1, if_neg e2]
        unfold cg_
        rw [hms, if_neg]
        intro z
        exact z.2 ((rh_rk_lt hw' hx).mp (by have := (hmd.2 x (by omega) (by rw [hms]; exact z.1)).2.2; rw [hms] at this; exact this))
  · rw [if_neg e] at hmd ⊢
    exact cg_md hw' hmd x hx
theorem mi_put (hw : rh_wf n L) (hp : p < n) (h : mi_ n L σ) : mi_ n (gw_up L p (L p ++ [q])) (pm_up (pm_up σ 50 (8 * p + (L p).length) (nI q)) 49 p (nI ((L p).length + 1))) := by
  have h8 := hw.1
  have hl := wf_len hw
  refine ⟨?_, fun a ha => ?_, fun a k ha hk => ?_⟩
  · rw [pm_up_ne (by omega), pm_up_ne (by omega)]; exact h.1
  · by_cases e : a = p
    · rw [e, pm_up_at, gw_up_self, List.length_append]; rfl
    · rw [pm_up_ne (by omega), pm_up_ne (by omega), gw_up_ne _ _ e]; exact h.2.1 a ha
  · rw [pm_up_ne (by omega)]
    have := hl p
    have := hl a
    by_cases e : a = p
    · subst e
      rw [gw_up_self] at hk ⊢
      rw [List.length_append, List.length_singleton] at hk
      by_cases ek : k = (L a).length
      · rw [ek, pm_up_at, List.getD_eq_getElem?_getD, List.getElem?_append_right (Nat.le_refl _), Nat.sub_self]; rfl
      · rw [pm_up_ne (by omega), List.getD_eq_getElem?_getD, List.getElem?_append_left (by omega), ← List.getD_eq_getElem?_getD]
        exact h.2.2 a k ha (by omega)
    · rw [gw_up_ne _ _ e] at hk ⊢
      rw [pm_up_ne (by omega)]; exact h.2.2 a k ha hk
/-- the list of p is written anew -/
theorem mi_row (hw : rh_wf n L) (h : mi_ n L σ) {l : List Nat} (hp : p < n) (h1 : σ' 48 1 = σ 48 1) (h2 : ∀ a, a ≠ p → σ' 49 a = σ 49 a) (h3 : σ' 49 p = nI l.length) (h4 : ∀ k, k < l.length → σ' 50 (8 * p + k) = nI (l.getD k 0)) (h5 : ∀ x, ¬ (8 * p ≤ x ∧ x < 8 * p + 8) → σ' 50 x = σ 50 x) : mi_ n (gw_up L p l) σ' := by
  have hl := wf_len hw
  refine ⟨h1.trans h.1, fun a ha => ?_, fun a k ha hk => ?_⟩
  · by_cases e : a = p
    · rw [e, gw_up_self]; exact h3
    · rw [gw_up_ne _ _ e, h2 a e]; exact h.2.1 a ha
  · by_cases e : a = p
    · rw [e, gw_up_self] at hk ⊢; exact h4 k hk
    · rw [gw_up_ne _ _ e] at hk ⊢
      have := hl a
      rw [h5 _ (by omega)]; exact h.2.2 a k ha hk
end RI
theorem pm_Y_imp {b : pB} {d : Nat} {k : pK} {pc : Nat} {f : Bool} {lo : List (Option pV)} {st : List pV} {g : pG} {σ : pI} {τ : pJ} {cu su mc ms : Nat} {wr : Bool} {Q Q' : Option Int32 → pI → pJ → Prop} (h : ∀ v σ' τ', Q v σ' τ' → Q' v σ' τ') (K : pm_Y b d k pc f lo st g σ τ cu su mc ms (.inl (wr, Q))) : pm_Y b d k pc f lo st g σ τ cu su mc ms (.inl (wr, Q')) := by
  intro p e R s m args below meth c H locs ls ad jk hF hR hI hL
  refine pm_Wmono (fun t ht => ?_) (K p e R s m args below meth c H locs ls ad jk hF hR hI hL)
  obtain ⟨o, h3, h4, ⟨v, σ', τ', q1, q2, q3, q4⟩, h6⟩ := ht
  exact ⟨o, h3, h4, ⟨v, σ', τ', q1, q2, h v σ' τ' q3, q4⟩, h6⟩
section MA
variable {b : pB} {g : pG} {σ : pI} {τ : pJ} {d n p q i j m : Nat} {x y z v₀ : Int32} {L : Nat → List Nat} {dm : Nat → Nat}
theorem x_M_partner (hg : pm_gok 61 g) (hB : pm_base b) (hw : rh_wf n L) (hm : md_ n L dm) (hI : RI_ n L dm σ) (hx : ob_ n x) : pm_C b (d + 10) km_M_partner [pm_R 48, pm_I x] g σ τ 0 0 (pm_Wp (fun v σ' => an_ 1 (v₀) v ∧ σ' 48 0 = nI 1 ∧ RI_ n L dm σ' ∧ kfr_ σ σ') τ) := by
  have h8 := hw.1
  have h1 := hI.1.1
  show pm_Y b (d + 9 + 1) km_M_partner 0 false [some (pm_R 48), some (pm_I x)] [] g σ τ 0 0 0 0 _
  refine pm_aload_n d_M_partner_0 rfl ?_
  refine pm_aload_n d_M_partner_1 rfl ?_
  refine pm_iload_n d_M_partner_2 rfl ?_
  refine pm_callR (i := 48) (ci := 5) (rest := [pm_R 48]) [pm_I x] hB d_M_partner_3 hc_M_62 (n_M_isPerson hg hB h8 h1 hx) (hg.s rfl) (hg.i (by decide)) rfl rfl rfl rfl (Nat.le_of_ble_eq_true rfl) (Nat.le_of_ble_eq_true rfl) (by omega) (by omega) ?_
  refine pm_if_eq_t 13 d_M_partner_6 rfl (by decide) ?_
  refine pm_iconst' (nI 1) d_M_partner_13 (by decide) ?_
  refine pm_puti d_M_partner_14 hp_M_43 (hg.s rfl) (hg.i (by decide)) rfl ?_
  refine pm_aload_n d_M_partner_17 rfl ?_
  refine pm_geti' (nI 1) d_M_partner_18 hf_M_43 (hg.s rfl) (hg.i (by decide)) rfl pm_up_at ?_
  refine pm_if_le_f 28 d_M_partner_21 rfl (by decide) ?_
  refine pm_iconst' (nI 0) d_M_partner_24 (by decide) ?_
  refine pm_goto 34 d_M_partner_25 rfl ?_
  exact pm_ireturn d_M_partner_34 rfl (fun _ => rfl) (Nat.le_refl _) (Nat.le_refl _) ⟨⟨an_no (by decide), pm_up_at, RI_code hI _, kfr_code _⟩, rfl⟩
theorem x_M_matched (hg : pm_gok 61 g) (hB : pm_base b) (hw : rh_wf n L) (hm : md_ n L dm) (hI : RI_ n L dm σ) (hx : ob_ n x) : pm_C b (d + 10) km_M_matched [pm_R 48, pm_I x] g σ τ 0 0 (pm_Wp (fun v σ' => an_ 1 (v₀) v ∧ σ' 48 0 = nI 1 ∧ RI_ n L dm σ' ∧ kfr_ σ σ') τ) := by
  have h8 := hw.1
  have h1 := hI.1.1
  show pm_Y b (d + 9 + 1) km_M_matched 0 false [some (pm_R 48), some (pm_I x)] [] g σ τ 0 0 0 0 _
  refine pm_aload_n d_M_matched_0 rfl ?_
  refine pm_aload_n d_M_matched_1 rfl ?_
  refine pm_iload_n d_M_matched_2 rfl ?_
  refine pm_callR (i := 48) (ci := 5) (rest := [pm_R 48]) [pm_I x] hB d_M_matched_3 hc_M_62 (n_M_isPerson hg hB h8 h1 hx) (hg.s rfl) (hg.i (by decide)) rfl rfl rfl rfl (Nat.le_of_ble_eq_true rfl) (Nat.le_of_ble_eq_true rfl) (by omega) (by omega) ?_
  refine pm_if_eq_t 13 d_M_matched_6 rfl (by decide) ?_
  refine pm_iconst' (nI 1) d_M_matched_13 (by decide) ?_
  refine pm_puti d_M_matched_14 hp_M_43 (hg.s rfl) (hg.i (by decide)) rfl ?_
  refine pm_aload_n d_M_matched_17 rfl ?_
  refine pm_geti' (nI 1) d_M_matched_18 hf_M_43 (hg.s rfl) (hg.i (by decide)) rfl pm_up_at ?_
  refine pm_if_le_f 26 d_M_matched_21 rfl (by decide) ?_
  refine pm_iconst' (nI 0) d_M_matched_24 (by decide) ?_
  exact pm_ireturn d_M_matched_25 rfl (fun _ => rfl) (Nat.le_refl _) (Nat.le_refl _) ⟨⟨an_no (by decide), pm_up_at, RI_code hI _, kfr_code _⟩, rfl⟩
theorem x_M_party (hg : pm_gok 61 g) (hB : pm_base b) (hw : rh_wf n L) (hm : md_ n L dm) (hI : RI_ n L dm σ) (hx : ob_ n x) : pm_C b (d + 10) km_M_party [pm_R 48, pm_I x] g σ τ 0 0 (pm_Wp (fun v σ' => an_ 1 (v₀) v ∧ σ' 48 0 = nI 1 ∧ RI_ n L dm σ' ∧ kfr_ σ σ') τ) := by
  have h8 := hw.1
  have h1 := hI.1.1
  show pm_Y b (d + 9 + 1) km_M_party 0 false [some (pm_R 48), some (pm_I x)] [] g σ τ 0 0 0 0 _
  refine pm_aload_n d_M_party_0 rfl ?_
  refine pm_aload_n d_M_party_1 rfl ?_
  refine pm_iload_n d_M_party_2 rfl ?_
  refine pm_callR (i := 48) (ci := 5) (rest := [pm_R 48]) [pm_I x] hB d_M_party_3 hc_M_62 (n_M_isPerson hg hB h8 h1 hx) (hg.s rfl) (hg.i (by decide)) rfl rfl rfl rfl (Nat.le_of_ble_eq_true rfl) (Nat.le_of_ble_eq_true rfl) (by omega) (by omega) ?_
  refine pm_if_eq_t 13 d_M_party_6 rfl (by decide) ?_
  refine pm_iconst' (nI 1) d_M_party_13 (by decide) ?_
  refine pm_puti d_M_party_14 hp_M_43 (hg.s rfl) (hg.i (by decide)) rfl ?_
  refine pm_aload_n d_M_party_17 rfl ?_
  refine pm_geti' (nI 1) d_M_party_18 hf_M_43 (hg.s rfl) (hg.i (by decide)) rfl pm_up_at ?_
  refine pm_if_le_f 26 d_M_party_21 rfl (by decide) ?_
  refine pm_iconst' (nI 0) d_M_party_24 (by decide) ?_
  exact pm_ireturn d_M_party_25 rfl (fun _ => rfl) (Nat.le_refl _) (Nat.le_refl _) ⟨⟨an_no (by decide), pm_up_at, RI_code hI _, kfr_code _⟩, rfl⟩
theorem x_M_next (hg : pm_gok 61 g) (hB : pm_base b) (hw : rh_wf n L) (hm : md_ n L dm) (hI : RI_ n L dm σ) (hx : ob_ n x) : pm_C b (d + 10) km_M_next [pm_R 48, pm_I x] g σ τ 0 0 (pm_Wp (fun v σ' => an_ 1 (v₀) v ∧ σ' 48 0 = nI 1 ∧ RI_ n L dm σ' ∧ kfr_ σ σ') τ) := by
  have h8 := hw.1
  have h1 := hI.1.1
  show pm_Y b (d + 9 + 1) km_M_next 0 false [some (pm_R 48), some (pm_I x)] [] g σ τ 0 0 0 0 _
  refine pm_aload_n d_M_next_0 rfl ?_
  refine pm_aload_n d_M_next_1 rfl ?_
  refine pm_iload_n d_M_next_2 rfl ?_
  refine pm_callR (i := 48) (ci := 5) (rest := [pm_R 48]) [pm_I x] hB d_M_next_3 hc_M_62 (n_M_isPerson hg hB h8 h1 hx) (hg.s rfl) (hg.i (by decide)) rfl rfl rfl rfl (Nat.le_of_ble_eq_true rfl) (Nat.le_of_ble_eq_true rfl) (by omega) (by omega) ?_
  refine pm_if_eq_t 13 d_M_next_6 rfl (by decide) ?_
  refine pm_iconst' (nI 1) d_M_next_13 (by decide) ?_
  refine pm_puti d_M_next_14 hp_M_43 (hg.s rfl) (hg.i (by decide)) rfl ?_
  refine pm_aload_n d_M_next_17 rfl ?_
  refine pm_geti' (nI 1) d_M_next_18 hf_M_43 (hg.s rfl) (hg.i (by decide)) rfl pm_up_at ?_
  refine pm_if_le_f 26 d_M_next_21 rfl (by decide) ?_
  refine pm_iconst' (nI 0) d_M_next_24 (by decide) ?_
  exact pm_ireturn d_M_next_25 rfl (fun _ => rfl) (Nat.le_refl _) (Nat.le_refl _) ⟨⟨an_no (by decide), pm_up_at, RI_code hI _, kfr_code _⟩, rfl⟩
theorem x_M_extreme (hg : pm_gok 61 g) (hB : pm_base b) (hw : rh_wf n L) (hm : md_ n L dm) (hI : RI_ n L dm σ) (hx : ob_ n x) : pm_C b (d + 10) km_M_extreme [pm_R 48, pm_I x, pm_I y] g σ τ 0 0 (pm_Wp (fun v σ' => an_ 1 (v₀) v ∧ σ' 48 0 = nI 1 ∧ RI_ n L dm σ' ∧ kfr_ σ σ') τ) := by
  have h8 := hw.1
  have h1 := hI.1.1
  show pm_Y b (d + 9 + 1) km_M_extreme 0 false [some (pm_R 48), some (pm_I x), some (pm_I y), none, none, none, none] [] g σ τ 0 0 0 0 _
  refine pm_aload_n d_M_extreme_0 rfl ?_
  refine pm_aload_n d_M_extreme_1 rfl ?_
  refine pm_iload_n d_M_extreme_2 rfl ?_
  refine pm_callR (i := 48) (ci := 5) (rest := [pm_R 48]) [pm_I x] hB d_M_extreme_3 hc_M_62 (n_M_isPerson hg hB h8 h1 hx) (hg.s rfl) (hg.i (by decide)) rfl rfl rfl rfl (Nat.le_of_ble_eq_true rfl) (Nat.le_of_ble_eq_true rfl) (by omega) (by omega) ?_
  refine pm_if_eq_t 13 d_M_extreme_6 rfl (by decide) ?_
  refine pm_iconst' (nI 1) d_M_extreme_13 (by decide) ?_
  refine pm_puti d_M_extreme_14 hp_M_43 (hg.s rfl) (hg.i (by decide)) rfl ?_
  refine pm_aload_n d_M_extreme_17 rfl ?_
  refine pm_geti' (nI 1) d_M_extreme_18 hf_M_43 (hg.s rfl) (hg.i (by decide)) rfl pm_up_at ?_
  refine pm_if_le_f 26 d_M_extreme_21 rfl (by decide) ?_
  refine pm_iconst' (nI 0) d_M_extreme_24 (by decide) ?_
  exact pm_ireturn d_M_extreme_25 rfl (fun _ => rfl) (Nat.le_refl _) (Nat.le_refl _) ⟨⟨an_no (by decide), pm_up_at, RI_code hI _, kfr_code _⟩, rfl⟩
theorem x_M_at (hg : pm_gok 61 g) (hB : pm_base b) (hw : rh_wf n L) (hm : md_ n L dm) (hI : RI_ n L dm σ) (hx : ob_ n x) : pm_C b (d + 10) km_M_at [pm_R 48, pm_I x, pm_I y] g σ τ 0 0 (pm_Wp (fun v σ' => an_ 1 (v₀) v ∧ σ' 48 0 = nI 1 ∧ RI_ n L dm σ' ∧ kfr_ σ σ') τ) := by
  have h8 := hw.1
  have h1 := hI.1.1
  show pm_Y b (d + 9 + 1) km_M_at 0 false [some (pm_R 48), some (pm_I x), some (pm_I y)] [] g σ τ 0 0 0 0 _
  refine pm_aload_n d_M_at_0 rfl ?_
  refine pm_aload_n d_M_at_1 rfl ?_
  refine pm_iload_n d_M_at_2 rfl ?_
  refine pm_callR (i := 48) (ci := 5) (rest := [pm_R 48]) [pm_I x] hB d_M_at_3 hc_M_62 (n_M_isPerson hg hB h8 h1 hx) (hg.s rfl) (hg.i (by decide)) rfl rfl rfl rfl (Nat.le_of_ble_eq_true rfl) (Nat.le_of_ble_eq_true rfl) (by omega) (by omega) ?_
  refine pm_if_eq_t 17 d_M_at_6 rfl (by decide) ?_
  refine pm_iconst' (nI 1) d_M_at_17 (by decide) ?_
  refine pm_puti d_M_at_18 hp_M_43 (hg.s rfl) (hg.i (by decide)) rfl ?_
  refine pm_aload_n d_M_at_21 rfl ?_
  refine pm_geti' (nI 1) d_M_at_22 hf_M_43 (hg.s rfl) (hg.i (by decide)) rfl pm_up_at ?_
  refine pm_if_le_f 30 d_M_at_25 rfl (by decide) ?_
  refine pm_iconst' (nI 0) d_M_at_28 (by decide) ?_
  exact pm_ireturn d_M_at_29 rfl (fun _ => rfl) (Nat.le_refl _) (Nat.le_refl _) ⟨⟨an_no (by decide), pm_up_at, RI_code hI _, kfr_code _⟩, rfl⟩
theorem x_M_at2 (hg : pm_gok 61 g) (hB : pm_base b) (hw : rh_wf n L) (hm : md_ n L dm) (hI : RI_ n L dm σ) (hp : p < n) (hx : x < 0) : pm_C b (d + 10) km_M_at [pm_R 48, pm_I (nI p), pm_I x] g σ τ 0 0 (pm_Wp (fun v σ' => an_ 1 (v₀) v ∧ σ' 48 0 = nI 1 ∧ RI_ n L dm σ' ∧ kfr_ σ σ') τ) := by
  have h8 := hw.1
  have h1 := hI.1.1
  show pm_Y b (d + 9 + 1) km_M_at 0 false [some (pm_R 48), some (pm_I (nI p)), some (pm_I x)] [] g σ τ 0 0 0 0 _
  refine pm_aload_n d_M_at_0 rfl ?_
  refine pm_aload_n d_M_at_1 rfl ?_
  refine pm_iload_n d_M_at_2 rfl ?_
  refine pm_callR (i := 48) (ci := 5) (rest := [pm_R 48]) [pm_I (nI p)] hB d_M_at_3 hc_M_62 (y_M_isPerson hg hB h8 h1 hp) (hg.s rfl) (hg.i (by decide)) rfl rfl rfl rfl (Nat.le_of_ble_eq_true rfl) (Nat.le_of_ble_eq_true rfl) (by omega) (by omega) ?_
  refine pm_if_eq_f 17 d_M_at_6 rfl (by decide) ?_
  refine pm_iload_n d_M_at_9 rfl ?_
  refine pm_if_lt_t 17 d_M_at_10 rfl hx ?_
  refine pm_iconst' (nI 1) d_M_at_17 (by decide) ?_
  refine pm_puti d_M_at_18 hp_M_43 (hg.s rfl) (hg.i (by decide)) rfl ?_
  refine pm_aload_n d_M_at_21 rfl ?_
  refine pm_geti' (nI 1) d_M_at_22 hf_M_43 (hg.s rfl) (hg.i (by decide)) rfl pm_up_at ?_
  refine pm_if_le_f 30 d_M_at_25 rfl (by decide) ?_
  refine pm_iconst' (nI 0) d_M_at_28 (by decide) ?_
  exact pm_ireturn d_M_at_29 rfl (fun _ => rfl) (Nat.le_refl _) (Nat.le_refl _) ⟨⟨an_no (by decide), pm_up_at, RI_code hI _, kfr_code _⟩, rfl⟩
theorem x1_M_put (hg : pm_gok 61 g) (hB : pm_base b) (hw : rh_wf n L) (hm : md_ n L dm) (hI : RI_ n L dm σ) (hx : ob_ n x) : pm_C b (d + 10) km_M_put [pm_R 48, pm_I x, pm_I y] g σ τ 0 0 (pm_Wp (fun v σ' => an_ 1 (v₀) v ∧ σ' 48 0 = nI 1 ∧ RI_ n L dm σ' ∧ kfr_ σ σ') τ) := by
  have h8 := hw.1
  have h1 := hI.1.1
  show pm_Y b (d + 9 + 1) km_M_put 0 false [some (pm_R 48), some (pm_I x), some (pm_I y)] [] g σ τ 0 0 0 0 _
  refine pm_aload_n d_M_put_0 rfl ?_
  refine pm_aload_n d_M_put_1 rfl ?_
  refine pm_iload_n d_M_put_2 rfl ?_
  refine pm_callR (i := 48) (ci := 5) (rest := [pm_R 48]) [pm_I x] hB d_M_put_3 hc_M_62 (n_M_isPerson hg hB h8 h1 hx) (hg.s rfl) (hg.i (by decide)) rfl rfl rfl rfl (Nat.le_of_ble_eq_true rfl) (Nat.le_of_ble_eq_true rfl) (by omega) (by omega) ?_
  refine pm_if_eq_t 17 d_M_put_6 rfl (by decide) ?_
  refine pm_iconst' (nI 1) d_M_put_17 (by decide) ?_
  refine pm_goto 44 d_M_put_18 rfl ?_
  refine pm_puti d_M_put_44 hp_M_43 (hg.s rfl) (hg.i (by decide)) rfl ?_
  refine pm_aload_n d_M_put_47 rfl ?_
  refine pm_geti' (nI 1) d_M_put_48 hf_M_43 (hg.s rfl) (hg.i (by decide)) rfl pm_up_at ?_
  refine pm_if_le_f 56 d_M_put_51 rfl (by decide) ?_
  refine pm_iconst' (nI 0) d_M_put_54 (by decide) ?_
  exact pm_ireturn d_M_put_55 rfl (fun _ => rfl) (Nat.le_refl _) (Nat.le_refl _) ⟨⟨an_no (by decide), pm_up_at, RI_code hI _, kfr_code _⟩, rfl⟩
theorem x2_M_put (hg : pm_gok 61 g) (hB : pm_base b) (hw : rh_wf n L) (hm : md_ n L dm) (hI : RI_ n L dm σ) (hp : p < n) (hx : ob_ n y) : pm_C b (d + 10) km_M_put [pm_R 48, pm_I (nI p), pm_I y] g σ τ 0 0 (pm_Wp (fun v σ' => an_ 1 (v₀) v ∧ σ' 48 0 = nI 1 ∧ RI_ n L dm σ' ∧ kfr_ σ σ') τ) := by
  have h8 := hw.1
  have h1 := hI.1.1
  show pm_Y b (d + 9 + 1) km_M_put 0 false [some (pm_R 48), some (pm_I (nI p)), some (pm_I y)] [] g σ τ 0 0 0 0 _
  refine pm_aload_n d_M_put_0 rfl ?_
  refine pm_aload_n d_M_put_1 rfl ?_
  refine pm_iload_n d_M_put_2 rfl ?_
  refine pm_callR (i := 48) (ci := 5) (rest := [pm_R 48]) [pm_I (nI p)] hB d_M_put_3 hc_M_62 (y_M_isPerson hg hB h8 h1 hp) (hg.s rfl) (hg.i (by decide)) rfl rfl rfl rfl (Nat.le_of_ble_eq_true rfl) (Nat.le_of_ble_eq_true rfl) (by omega) (by omega) ?_
  refine pm_if_eq_f 17 d_M_put_6 rfl (by decide) ?_
  refine pm_aload_n d_M_put_9 rfl ?_
  refine pm_iload_n d_M_put_10 rfl ?_
  refine pm_callR (i := 48) (ci := 5) (rest := [pm_R 48]) [pm_I y] hB d_M_put_11 hc_M_62 (n_M_isPerson hg hB h8 h1 hx) (hg.s rfl) (hg.i (by decide)) rfl rfl rfl rfl (Nat.le_of_ble_eq_true rfl) (Nat.le_of_ble_eq_true rfl) (by omega) (by omega) ?_
  refine pm_if_ne_f 21 d_M_put_14 rfl (by decide) ?_
  refine pm_iconst' (nI 1) d_M_put_17 (by decide) ?_
  refine pm_goto 44 d_M_put_18 rfl ?_
  refine pm_puti d_M_put_44 hp_M_43 (hg.s rfl) (hg.i (by decide)) rfl ?_
  refine pm_aload_n d_M_put_47 rfl ?_
  refine pm_geti' (nI 1) d_M_put_48 hf_M_43 (hg.s rfl) (hg.i (by decide)) rfl pm_up_at ?_
  refine pm_if_le_f 56 d_M_put_51 rfl (by decide) ?_
  refine pm_iconst' (nI 0) d_M_put_54 (by decide) ?_
  exact pm_ireturn d_M_put_55 rfl (fun _ => rfl) (Nat.le_refl _) (Nat.le_refl _) ⟨⟨an_no (by decide), pm_up_at, RI_code hI _, kfr_code _⟩, rfl⟩
theorem x_M_put (hg : pm_gok 61 g) (hB : pm_base b) (hw : rh_wf n L) (hm : md_ n L dm) (hI : RI_ n L dm σ) (hx : ob_ n x ∨ ob_ n y) : pm_C b (d + 10) km_M_put [pm_R 48, pm_I x, pm_I y] g σ τ 0 0 (pm_Wp (fun v σ' => an_ 1 (v₀) v ∧ σ' 48 0 = nI 1 ∧ RI_ n L dm σ' ∧ kfr_ σ σ') τ) := by
  by_cases e : ob_ n x
  · exact x1_M_put hg hB hw hm hI e
  · have h8 := hw.1
    obtain ⟨p, hp, rfl⟩ := iv_in (show n < 2 ^ 31 by omega) e
    exact x2_M_put hg hB hw hm hI hp (hx.resolve_left e)
theorem x1_M_pair (hg : pm_gok 61 g) (hB : pm_base b) (hw : rh_wf n L) (hm : md_ n L dm) (hI : RI_ n L dm σ) (hx : ob_ n x) : pm_C b (d + 10) km_M_pair [pm_R 48, pm_I x, pm_I y] g σ τ 0 0 (pm_Wp (fun v σ' => an_ 1 (v₀) v ∧ σ' 48 0 = nI 1 ∧ RI_ n L dm σ' ∧ kfr_ σ σ') τ) := by
  have h8 := hw.1
  have h1 := hI.1.1
  show pm_Y b (d + 9 + 1) km_M_pair 0 false [some (pm_R 48), some (pm_I x), some (pm_I y)] [] g σ τ 0 0 0 0 _
  refine pm_aload_n d_M_pair_0 rfl ?_
  refine pm_aload_n d_M_pair_1 rfl ?_
  refine pm_iload_n d_M_pair_2 rfl ?_
  refine pm_callR (i := 48) (ci := 5) (rest := [pm_R 48]) [pm_I x] hB d_M_pair_3 hc_M_62 (n_M_isPerson hg hB h8 h1 hx) (hg.s rfl) (hg.i (by decide)) rfl rfl rfl rfl (Nat.le_of_ble_eq_true rfl) (Nat.le_of_ble_eq_true rfl) (by omega) (by omega) ?_
  refine pm_if_eq_t 17 d_M_pair_6 rfl (by decide) ?_
  refine pm_iconst' (nI 1) d_M_pair_17 (by decide) ?_
  refine pm_goto 44 d_M_pair_18 rfl ?_
  refine pm_puti d_M_pair_44 hp_M_43 (hg.s rfl) (hg.i (by decide)) rfl ?_
  refine pm_aload_n d_M_pair_47 rfl ?_
  refine pm_geti' (nI 1) d_M_pair_48 hf_M_43 (hg.s rfl) (hg.i (by decide)) rfl pm_up_at ?_
  refine pm_if_le_f 56 d_M_pair_51 rfl (by decide) ?_
  refine pm_iconst' (nI 0) d_M_pair_54 (by decide) ?_
  exact pm_ireturn d_M_pair_55 rfl (fun _ => rfl) (Nat.le_refl _) (Nat.le_refl _) ⟨⟨an_no (by decide), pm_up_at, RI_code hI _, kfr_code _⟩, rfl⟩
theorem x2_M_pair (hg : pm_gok 61 g) (hB : pm_base b) (hw : rh_wf n L) (hm : md_ n L dm) (hI : RI_ n L dm σ) (hp : p < n) (hx : ob_ n y) : pm_C b (d + 10) km_M_pair [pm_R 48, pm_I (nI p), pm_I y] g σ τ 0 0 (pm_Wp (fun v σ' => an_ 1 (v₀) v ∧ σ' 48 0 = nI 1 ∧ RI_ n L dm σ' ∧ kfr_ σ σ') τ) := by
  have h8 := hw.1
  have h1 := hI.1.1
  show pm_Y b (d + 9 + 1) km_M_pair 0 false [some (pm_R 48), some (pm_I (nI p)), some (pm_I y)] [] g σ τ 0 0 0 0 _
  refine pm_aload_n d_M_pair_0 rfl ?_
  refine pm_aload_n d_M_pair_1 rfl ?_
  refine pm_iload_n d_M_pair_2 rfl ?_
  refine pm_callR (i := 48) (ci := 5) (rest := [pm_R 48]) [pm_I (nI p)] hB d_M_pair_3 hc_M_62 (y_M_isPerson hg hB h8 h1 hp) (hg.s rfl) (hg.i (by decide)) rfl rfl rfl rfl (Nat.le_of_ble_eq_true rfl) (Nat.le_of_ble_eq_true rfl) (by omega) (by omega) ?_
  refine pm_if_eq_f 17 d_M_pair_6 rfl (by decide) ?_
  refine pm_aload_n d_M_pair_9 rfl ?_
  refine pm_iload_n d_M_pair_10 rfl ?_
  refine pm_callR (i := 48) (ci := 5) (rest := [pm_R 48]) [pm_I y] hB d_M_pair_11 hc_M_62 (n_M_isPerson hg hB h8 h1 hx) (hg.s rfl) (hg.i (by decide)) rfl rfl rfl rfl (Nat.le_of_ble_eq_true rfl) (Nat.le_of_ble_eq_true rfl) (by omega) (by omega) ?_
  refine pm_if_ne_f 21 d_M_pair_14 rfl (by decide) ?_
  refine pm_iconst' (nI 1) d_M_pair_17 (by decide) ?_
  refine pm_goto 44 d_M_pair_18 rfl ?_
  refine pm_puti d_M_pair_44 hp_M_43 (hg.s rfl) (hg.i (by decide)) rfl ?_
  refine pm_aload_n d_M_pair_47 rfl ?_
  refine pm_geti' (nI 1) d_M_pair_48 hf_M_43 (hg.s rfl) (hg.i (by decide)) rfl pm_up_at ?_
  refine pm_if_le_f 56 d_M_pair_51 rfl (by decide) ?_
  refine pm_iconst' (nI 0) d_M_pair_54 (by decide) ?_
  exact pm_ireturn d_M_pair_55 rfl (fun _ => rfl) (Nat.le_refl _) (Nat.le_refl _) ⟨⟨an_no (by decide), pm_up_at, RI_code hI _, kfr_code _⟩, rfl⟩
theorem x_M_pair (hg : pm_gok 61 g) (hB : pm_base b) (hw : rh_wf n L) (hm : md_ n L dm) (hI : RI_ n L dm σ) (hx : ob_ n x ∨ ob_ n y) : pm_C b (d + 10) km_M_pair [pm_R 48, pm_I x, pm_I y] g σ τ 0 0 (pm_Wp (fun v σ' => an_ 1 (v₀) v ∧ σ' 48 0 = nI 1 ∧ RI_ n L dm σ' ∧ kfr_ σ σ') τ) := by
  by_cases e : ob_ n x
  · exact x1_M_pair hg hB hw hm hI e
  · have h8 := hw.1
    obtain ⟨p, hp, rfl⟩ := iv_in (show n < 2 ^ 31 by omega) e
    exact x2_M_pair hg hB hw hm hI hp (hx.resolve_left e)
theorem x1_M_place (hg : pm_gok 61 g) (hB : pm_base b) (hw : rh_wf n L) (hm : md_ n L dm) (hI : RI_ n L dm σ) (hx : ob_ n x) : pm_C b (d + 10) km_M_place [pm_R 48, pm_I x, pm_I y] g σ τ 0 0 (pm_Wp (fun v σ' => an_ 1 (v₀) v ∧ σ' 48 0 = nI 1 ∧ RI_ n L dm σ' ∧ kfr_ σ σ') τ) := by
  have h8 := hw.1
  have h1 := hI.1.1
  show pm_Y b (d + 9 + 1) km_M_place 0 false [some (pm_R 48), some (pm_I x), some (pm_I y)] [] g σ τ 0 0 0 0 _
  refine pm_aload_n d_M_place_0 rfl ?_
  refine pm_aload_n d_M_place_1 rfl ?_
  refine pm_iload_n d_M_place_2 rfl ?_
  refine pm_callR (i := 48) (ci := 5) (rest := [pm_R 48]) [pm_I x] hB d_M_place_3 hc_M_62 (n_M_isPerson hg hB h8 h1 hx) (hg.s rfl) (hg.i (by decide)) rfl rfl rfl rfl (Nat.le_of_ble_eq_true rfl) (Nat.le_of_ble_eq_true rfl) (by omega) (by omega) ?_
  refine pm_if_eq_t 21 d_M_place_6 rfl (by decide) ?_
  refine pm_iconst' (nI 1) d_M_place_21 (by decide) ?_
  refine pm_puti d_M_place_22 hp_M_43 (hg.s rfl) (hg.i (by decide)) rfl ?_
  refine pm_aload_n d_M_place_25 rfl ?_
  refine pm_geti' (nI 1) d_M_place_26 hf_M_43 (hg.s rfl) (hg.i (by decide)) rfl pm_up_at ?_
  refine pm_if_le_f 36 d_M_place_29 rfl (by decide) ?_
  refine pm_iconst' (nI 0) d_M_place_32 (by decide) ?_
  refine pm_goto 42 d_M_place_33 rfl ?_
  exact pm_ireturn d_M_place_42 rfl (fun _ => rfl) (Nat.le_refl _) (Nat.le_refl _) ⟨⟨an_no (by decide), pm_up_at, RI_code hI _, kfr_code _⟩, rfl⟩
theorem x2_M_place (hg : pm_gok 61 g) (hB : pm_base b) (hw : rh_wf n L) (hm : md_ n L dm) (hI : RI_ n L dm σ) (hp : p < n) (hx : ob_ n y) : pm_C b (d + 10) km_M_place [pm_R 48, pm_I (nI p), pm_I y] g σ τ 0 0 (pm_Wp (fun v σ' => an_ 1 (v₀) v ∧ σ' 48 0 = nI 1 ∧ RI_ n L dm σ' ∧ kfr_ σ σ') τ) := by
  have h8 := hw.1
  have h1 := hI.1.1
  show pm_Y b (d + 9 + 1) km_M_place 0 false [some (pm_R 48), some (pm_I (nI p)), some (pm_I y)] [] g σ τ 0 0 0 0 _
  refine pm_aload_n d_M_place_0 rfl ?_
  refine pm_aload_n d_M_place_1 rfl ?_
  refine pm_iload_n d_M_place_2 rfl ?_
  refine pm_callR (i := 48) (ci := 5) (rest := [pm_R 48]) [pm_I (nI p)] hB d_M_place_3 hc_M_62 (y_M_isPerson hg hB h8 h1 hp) (hg.s rfl) (hg.i (by decide)) rfl rfl rfl rfl (Nat.le_of_ble_eq_true rfl) (Nat.le_of_ble_eq_true rfl) (by omega) (by omega) ?_
  refine pm_if_eq_f 21 d_M_place_6 rfl (by decide) ?_
  refine pm_aload_n d_M_place_9 rfl ?_
  refine pm_iload_n d_M_place_10 rfl ?_
  refine pm_callR (i := 48) (ci := 5) (rest := [pm_R 48]) [pm_I y] hB d_M_place_11 hc_M_62 (n_M_isPerson hg hB h8 h1 hx) (hg.s rfl) (hg.i (by decide)) rfl rfl rfl rfl (Nat.le_of_ble_eq_true rfl) (Nat.le_of_ble_eq_true rfl) (by omega) (by omega) ?_
  refine pm_if_eq_t 21 d_M_place_14 rfl (by decide) ?_
  refine pm_iconst' (nI 1) d_M_place_21 (by decide) ?_
  refine pm_puti d_M_place_22 hp_M_43 (hg.s rfl) (hg.i (by decide)) rfl ?_
  refine pm_aload_n d_M_place_25 rfl ?_
  refine pm_geti' (nI 1) d_M_place_26 hf_M_43 (hg.s rfl) (hg.i (by decide)) rfl pm_up_at ?_
  refine pm_if_le_f 36 d_M_place_29 rfl (by decide) ?_
  refine pm_iconst' (nI 0) d_M_place_32 (by decide) ?_
  refine pm_goto 42 d_M_place_33 rfl ?_
  exact pm_ireturn d_M_place_42 rfl (fun _ => rfl) (Nat.le_refl _) (Nat.le_refl _) ⟨⟨an_no (by decide), pm_up_at, RI_code hI _, kfr_code _⟩, rfl⟩
theorem x_M_place (hg : pm_gok 61 g) (hB : pm_base b) (hw : rh_wf n L) (hm : md_ n L dm) (hI : RI_ n L dm σ) (hx : ob_ n x ∨ ob_ n y) : pm_C b (d + 10) km_M_place [pm_R 48, pm_I x, pm_I y] g σ τ 0 0 (pm_Wp (fun v σ' => an_ 1 (v₀) v ∧ σ' 48 0 = nI 1 ∧ RI_ n L dm σ' ∧ kfr_ σ σ') τ) := by
  by_cases e : ob_ n x
  · exact x1_M_place hg hB hw hm hI e
  · have h8 := hw.1
    obtain ⟨p, hp, rfl⟩ := iv_in (show n < 2 ^ 31 by omega) e
    exact x2_M_place hg hB hw hm hI hp (hx.resolve_left e)
theorem x1_M_together (hg : pm_gok 61 g) (hB : pm_base b) (hw : rh_wf n L) (hm : md_ n L dm) (hI : RI_ n L dm σ) (hx : ob_ n x) : pm_C b (d + 10) km_M_together [pm_R 48, pm_I x, pm_I y] g σ τ 0 0 (pm_Wp (fun v σ' => an_ 1 (v₀) v ∧ σ' 48 0 = nI 1 ∧ RI_ n L dm σ' ∧ kfr_ σ σ') τ) := by
  have h8 := hw.1
  have h1 := hI.1.1
  show pm_Y b (d + 9 + 1) km_M_together 0 false [some (pm_R 48), some (pm_I x), some (pm_I y)] [] g σ τ 0 0 0 0 _
  refine pm_aload_n d_M_together_0 rfl ?_
  refine pm_aload_n d_M_together_1 rfl ?_
  refine pm_iload_n d_M_together_2 rfl ?_
  refine pm_callR (i := 48) (ci := 5) (rest := [pm_R 48]) [pm_I x] hB d_M_together_3 hc_M_62 (n_M_isPerson hg hB h8 h1 hx) (hg.s rfl) (hg.i (by decide)) rfl rfl rfl rfl (Nat.le_of_ble_eq_true rfl) (Nat.le_of_ble_eq_true rfl) (by omega) (by omega) ?_
  refine pm_if_eq_t 21 d_M_together_6 rfl (by decide) ?_
  refine pm_iconst' (nI 1) d_M_together_21 (by decide) ?_
  refine pm_puti d_M_together_22 hp_M_43 (hg.s rfl) (hg.i (by decide)) rfl ?_
  refine pm_aload_n d_M_together_25 rfl ?_
  refine pm_geti' (nI 1) d_M_together_26 hf_M_43 (hg.s rfl) (hg.i (by decide)) rfl pm_up_at ?_
  refine pm_if_le_f 34 d_M_together_29 rfl (by decide) ?_
  refine pm_iconst' (nI 0) d_M_together_32 (by decide) ?_
  exact pm_ireturn d_M_together_33 rfl (fun _ => rfl) (Nat.le_refl _) (Nat.le_refl _) ⟨⟨an_no (by decide), pm_up_at, RI_code hI _, kfr_code _⟩, rfl⟩
theorem x2_M_together (hg : pm_gok 61 g) (hB : pm_base b) (hw : rh_wf n L) (hm : md_ n L dm) (hI : RI_ n L dm σ) (hp : p < n) (hx : ob_ n y) : pm_C b (d + 10) km_M_together [pm_R 48, pm_I (nI p), pm_I y] g σ τ 0 0 (pm_Wp (fun v σ' => an_ 1 (v₀) v ∧ σ' 48 0 = nI 1 ∧ RI_ n L dm σ' ∧ kfr_ σ σ') τ) := by
  have h8 := hw.1
  have h1 := hI.1.1
  show pm_Y b (d + 9 + 1) km_M_together 0 false [some (pm_R 48), some (pm_I (nI p)), some (pm_I y)] [] g σ τ 0 0 0 0 _
  refine pm_aload_n d_M_together_0 rfl ?_
  refine pm_aload_n d_M_together_1 rfl ?_
  refine pm_iload_n d_M_together_2 rfl ?_
  refine pm_callR (i := 48) (ci := 5) (rest := [pm_R 48]) [pm_I (nI p)] hB d_M_together_3 hc_M_62 (y_M_isPerson hg hB h8 h1 hp) (hg.s rfl) (hg.i (by decide)) rfl rfl rfl rfl (Nat.le_of_ble_eq_true rfl) (Nat.le_of_ble_eq_true rfl) (by omega) (by omega) ?_
  refine pm_if_eq_f 21 d_M_together_6 rfl (by decide) ?_
  refine pm_aload_n d_M_together_9 rfl ?_
  refine pm_iload_n d_M_together_10 rfl ?_
  refine pm_callR (i := 48) (ci := 5) (rest := [pm_R 48]) [pm_I y] hB d_M_together_11 hc_M_62 (n_M_isPerson hg hB h8 h1 hx) (hg.s rfl) (hg.i (by decide)) rfl rfl rfl rfl (Nat.le_of_ble_eq_true rfl) (Nat.le_of_ble_eq_true rfl) (by omega) (by omega) ?_
  refine pm_if_eq_t 21 d_M_together_14 rfl (by decide) ?_
  refine pm_iconst' (nI 1) d_M_together_21 (by decide) ?_
  refine pm_puti d_M_together_22 hp_M_43 (hg.s rfl) (hg.i (by decide)) rfl ?_
  refine pm_aload_n d_M_together_25 rfl ?_
  refine pm_geti' (nI 1) d_M_together_26 hf_M_43 (hg.s rfl) (hg.i (by decide)) rfl pm_up_at ?_
  refine pm_if_le_f 34 d_M_together_29 rfl (by decide) ?_
  refine pm_iconst' (nI 0) d_M_together_32 (by decide) ?_
  exact pm_ireturn d_M_together_33 rfl (fun _ => rfl) (Nat.le_refl _) (Nat.le_refl _) ⟨⟨an_no (by decide), pm_up_at, RI_code hI _, kfr_code _⟩, rfl⟩
theorem x_M_together (hg : pm_gok 61 g) (hB : pm_base b) (hw : rh_wf n L) (hm : md_ n L dm) (hI : RI_ n L dm σ) (hx : ob_ n x ∨ ob_ n y) : pm_C b (d + 10) km_M_together [pm_R 48, pm_I x, pm_I y] g σ τ 0 0 (pm_Wp (fun v σ' => an_ 1 (v₀) v ∧ σ' 48 0 = nI 1 ∧ RI_ n L dm σ' ∧ kfr_ σ σ') τ) := by
  by_cases e : ob_ n x
  · exact x1_M_together hg hB hw hm hI e
  · have h8 := hw.1
    obtain ⟨p, hp, rfl⟩ := iv_in (show n < 2 ^ 31 by omega) e
    exact x2_M_together hg hB hw hm hI hp (hx.resolve_left e)
theorem x_M_put2 (hg : pm_gok 61 g) (hB : pm_base b) (hw : rh_wf n L) (hm : md_ n L dm) (hI : RI_ n L dm σ) (hp : p < n) : pm_C b (d + 10) km_M_put [pm_R 48, pm_I (nI p), pm_I (nI p)] g σ τ 0 0 (pm_Wp (fun v σ' => an_ 2 (v₀) v ∧ σ' 48 0 = nI 2 ∧ RI_ n L dm σ' ∧ kfr_ σ σ') τ) := by
  have h8 := hw.1
  have h1 := hI.1.1
  show pm_Y b (d + 9 + 1) km_M_put 0 false [some (pm_R 48), some (pm_I (nI p)), some (pm_I (nI p))] [] g σ τ 0 0 0 0 _
  refine pm_aload_n d_M_put_0 rfl ?_
  refine pm_aload_n d_M_put_1 rfl ?_
  refine pm_iload_n d_M_put_2 rfl ?_
  refine pm_callR (i := 48) (ci := 5) (rest := [pm_R 48]) [pm_I (nI p)] hB d_M_put_3 hc_M_62 (y_M_isPerson hg hB h8 h1 hp) (hg.s rfl) (hg.i (by decide)) rfl rfl rfl rfl (Nat.le_of_ble_eq_true rfl) (Nat.le_of_ble_eq_true rfl) (by omega) (by omega) ?_
  refine pm_if_eq_f 17 d_M_put_6 rfl (by decide) ?_
  refine pm_aload_n d_M_put_9 rfl ?_
  refine pm_iload_n d_M_put_10 rfl ?_
  refine pm_callR (i := 48) (ci := 5) (rest := [pm_R 48]) [pm_I (nI p)] hB d_M_put_11 hc_M_62 (y_M_isPerson hg hB h8 h1 hp) (hg.s rfl) (hg.i (by decide)) rfl rfl rfl rfl (Nat.le_of_ble_eq_true rfl) (Nat.le_of_ble_eq_true rfl) (by omega) (by omega) ?_
  refine pm_if_ne_t 21 d_M_put_14 rfl (by decide) ?_
  refine pm_iload_n d_M_put_21 rfl ?_
  refine pm_iload_n d_M_put_22 rfl ?_
  refine pm_icmp_ne_f 30 d_M_put_23 rfl rfl ?_
  refine pm_iconst' (nI 2) d_M_put_26 (by decide) ?_
  refine pm_goto 44 d_M_put_27 rfl ?_
  refine pm_puti d_M_put_44 hp_M_43 (hg.s rfl) (hg.i (by decide)) rfl ?_
  refine pm_aload_n d_M_put_47 rfl ?_
  refine pm_geti' (nI 2) d_M_put_48 hf_M_43 (hg.s rfl) (hg.i (by decide)) rfl pm_up_at ?_
  refine pm_if_le_f 56 d_M_put_51 rfl (by decide) ?_
  refine pm_iconst' (nI 0) d_M_put_54 (by decide) ?_
  exact pm_ireturn d_M_put_55 rfl (fun _ => rfl) (Nat.le_refl _) (Nat.le_refl _) ⟨⟨an_no (by decide), pm_up_at, RI_code hI _, kfr_code _⟩, rfl⟩
theorem x_M_pair2 (hg : pm_gok 61 g) (hB : pm_base b) (hw : rh_wf n L) (hm : md_ n L dm) (hI : RI_ n L dm σ) (hp : p < n) : pm_C b (d + 10) km_M_pair [pm_R 48, pm_I (nI p), pm_I (nI p)] g σ τ 0 0 (pm_Wp (fun v σ' => an_ 2 (v₀) v ∧ σ' 48 0 = nI 2 ∧ RI_ n L dm σ' ∧ kfr_ σ σ') τ) := by
  have h8 := hw.1
  have h1 := hI.1.1
  show pm_Y b (d + 9 + 1) km_M_pair 0 false [some (pm_R 48), some (pm_I (nI p)), some (pm_I (nI p))] [] g σ τ 0 0 0 0 _
  refine pm_aload_n d_M_pair_0 rfl ?_
  refine pm_aload_n d_M_pair_1 rfl ?_
  refine pm_iload_n d_M_pair_2 rfl ?_
  refine pm_callR (i := 48) (ci := 5) (rest := [pm_R 48]) [pm_I (nI p)] hB d_M_pair_3 hc_M_62 (y_M_isPerson hg hB h8 h1 hp) (hg.s rfl) (hg.i (by decide)) rfl rfl rfl rfl (Nat.le_of_ble_eq_true rfl) (Nat.le_of_ble_eq_true rfl) (by omega) (by omega) ?_
  refine pm_if_eq_f 17 d_M_pair_6 rfl (by decide) ?_
  refine pm_aload_n d_M_pair_9 rfl ?_
  refine pm_iload_n d_M_pair_10 rfl ?_
  refine pm_callR (i := 48) (ci := 5) (rest := [pm_R 48]) [pm_I (nI p)] hB d_M_pair_11 hc_M_62 (y_M_isPerson hg hB h8 h1 hp) (hg.s rfl) (hg.i (by decide)) rfl rfl rfl rfl (Nat.le_of_ble_eq_true rfl) (Nat.le_of_ble_eq_true rfl) (by omega) (by omega) ?_
  refine pm_if_ne_t 21 d_M_pair_14 rfl (by decide) ?_
  refine pm_iload_n d_M_pair_21 rfl ?_
  refine pm_iload_n d_M_pair_22 rfl ?_
  refine pm_icmp_ne_f 30 d_M_pair_23 rfl rfl ?_
  refine pm_iconst' (nI 2) d_M_pair_26 (by decide) ?_
  refine pm_goto 44 d_M_pair_27 rfl ?_
  refine pm_puti d_M_pair_44 hp_M_43 (hg.s rfl) (hg.i (by decide)) rfl ?_
  refine pm_aload_n d_M_pair_47 rfl ?_
  refine pm_geti' (nI 2) d_M_pair_48 hf_M_43 (hg.s rfl) (hg.i (by decide)) rfl pm_up_at ?_
  refine pm_if_le_f 56 d_M_pair_51 rfl (by decide) ?_
  refine pm_iconst' (nI 0) d_M_pair_54 (by decide) ?_
  exact pm_ireturn d_M_pair_55 rfl (fun _ => rfl) (Nat.le_refl _) (Nat.le_refl _) ⟨⟨an_no (by decide), pm_up_at, RI_code hI _, kfr_code _⟩, rfl⟩
theorem x_M_put3 (hg : pm_gok 61 g) (hB : pm_base b) (hw : rh_wf n L) (hm : md_ n L dm) (hI : RI_ n L dm σ) (hp : p < n) (hq : q < n) (hne : p ≠ q) (hq2 : q ∈ L p) : pm_C b (d + 10) km_M_put [pm_R 48, pm_I (nI p), pm_I (nI q)] g σ τ 0 0 (pm_Wp (fun v σ' => an_ 3 (v₀) v ∧ σ' 48 0 = nI 3 ∧ RI_ n L dm σ' ∧ kfr_ σ σ') τ) := by
  have h8 := hw.1
  have h1 := hI.1.1
  show pm_Y b (d + 9 + 1) km_M_put 0 false [some (pm_R 48), some (pm_I (nI p)), some (pm_I (nI q))] [] g σ τ 0 0 0 0 _
  refine pm_aload_n d_M_put_0 rfl ?_
  refine pm_aload_n d_M_put_1 rfl ?_
  refine pm_iload_n d_M_put_2 rfl ?_
  refine pm_callR (i := 48) (ci := 5) (rest := [pm_R 48]) [pm_I (nI p)] hB d_M_put_3 hc_M_62 (y_M_isPerson hg hB h8 h1 hp) (hg.s rfl) (hg.i (by decide)) rfl rfl rfl rfl (Nat.le_of_ble_eq_true rfl) (Nat.le_of_ble_eq_true rfl) (by omega) (by omega) ?_
  refine pm_if_eq_f 17 d_M_put_6 rfl (by decide) ?_
  refine pm_aload_n d_M_put_9 rfl ?_
  refine pm_iload_n d_M_put_10 rfl ?_
  refine pm_callR (i := 48) (ci := 5) (rest := [pm_R 48]) [pm_I (nI q)] hB d_M_put_11 hc_M_62 (y_M_isPerson hg hB h8 h1 hq) (hg.s rfl) (hg.i (by decide)) rfl rfl rfl rfl (Nat.le_of_ble_eq_true rfl) (Nat.le_of_ble_eq_true rfl) (by omega) (by omega) ?_
  refine pm_if_ne_t 21 d_M_put_14 rfl (by decide) ?_
  refine pm_iload_n d_M_put_21 rfl ?_
  refine pm_iload_n d_M_put_22 rfl ?_
  refine pm_icmp_ne_t 30 d_M_put_23 rfl (fun e => hne ((nI_eq (by omega) (by omega)).mp e)) ?_
  refine pm_aload_n d_M_put_30 rfl ?_
  refine pm_iload_n d_M_put_31 rfl ?_
  refine pm_iload_n d_M_put_32 rfl ?_
  refine pm_callR (i := 48) (ci := 5) (rest := [pm_R 48]) [pm_I (nI p), pm_I (nI q)] hB d_M_put_33 hc_M_50 (k_M_placeIn hg hB hw hI.1 hp (by omega) hq2) (hg.s rfl) (hg.i (by decide)) rfl rfl rfl rfl (Nat.le_of_ble_eq_true rfl) (Nat.le_of_ble_eq_true rfl) (by omega) (by omega) ?_
  refine pm_if_lt_f 43 d_M_put_36 rfl (nI_nn (by have := ix_le hw p q; omega)) ?_
  refine pm_iconst' (nI 3) d_M_put_39 (by decide) ?_
  refine pm_goto 44 d_M_put_40 rfl ?_
  refine pm_puti d_M_put_44 hp_M_43 (hg.s rfl) (hg.i (by decide)) rfl ?_
  refine pm_aload_n d_M_put_47 rfl ?_
  refine pm_geti' (nI 3) d_M_put_48 hf_M_43 (hg.s rfl) (hg.i (by decide)) rfl pm_up_at ?_
  refine pm_if_le_f 56 d_M_put_51 rfl (by decide) ?_
  refine pm_iconst' (nI 0) d_M_put_54 (by decide) ?_
  exact pm_ireturn d_M_put_55 rfl (fun _ => rfl) (Nat.le_refl _) (Nat.le_refl _) ⟨⟨an_no (by decide), pm_up_at, RI_code hI _, kfr_code _⟩, rfl⟩
theorem x_M_pair3 (hg : pm_gok 61 g) (hB : pm_base b) (hw : rh_wf n L) (hm : md_ n L dm) (hI : RI_ n L dm σ) (hp : p < n) (hq : q < n) (hne : p ≠ q) (hr : ¬ rh_rk L p q < 8) : pm_C b (d + 10) km_M_pair [pm_R 48, pm_I (nI p), pm_I (nI q)] g σ τ 0 0 (pm_Wp (fun v σ' => an_ 3 (v₀) v ∧ σ' 48 0 = nI 3 ∧ RI_ n L dm σ' ∧ kfr_ σ σ') τ) := by
  have h8 := hw.1
  have h1 := hI.1.1
  show pm_Y b (d + 9 + 1) km_M_pair 0 false [some (pm_R 48), some (pm_I (nI p)), some (pm_I (nI q))] [] g σ τ 0 0 0 0 _
  refine pm_aload_n d_M_pair_0 rfl ?_
  refine pm_aload_n d_M_pair_1 rfl ?_
  refine pm_iload_n d_M_pair_2 rfl ?_
  refine pm_callR (i := 48) (ci := 5) (rest := [pm_R 48]) [pm_I (nI p)] hB d_M_pair_3 hc_M_62 (y_M_isPerson hg hB h8 h1 hp) (hg.s rfl) (hg.i (by decide)) rfl rfl rfl rfl (Nat.le_of_ble_eq_true rfl) (Nat.le_of_ble_eq_true rfl) (by omega) (by omega) ?_
  refine pm_if_eq_f 17 d_M_pair_6 rfl (by decide) ?_
  refine pm_aload_n d_M_pair_9 rfl ?_
  refine pm_iload_n d_M_pair_10 rfl ?_
  refine pm_callR (i := 48) (ci := 5) (rest := [pm_R 48]) [pm_I (nI q)] hB d_M_pair_11 hc_M_62 (y_M_isPerson hg hB h8 h1 hq) (hg.s rfl) (hg.i (by decide)) rfl rfl rfl rfl (Nat.le_of_ble_eq_true rfl) (Nat.le_of_ble_eq_true rfl) (by omega) (by omega) ?_
  refine pm_if_ne_t 21 d_M_pair_14 rfl (by decide) ?_
  refine pm_iload_n d_M_pair_21 rfl ?_
  refine pm_iload_n d_M_pair_22 rfl ?_
  refine pm_icmp_ne_t 30 d_M_pair_23 rfl (fun e => hne ((nI_eq (by omega) (by omega)).mp e)) ?_
  refine pm_aload_n d_M_pair_30 rfl ?_
  refine pm_iload_n d_M_pair_31 rfl ?_
  refine pm_iload_n d_M_pair_32 rfl ?_
  refine pm_callR (i := 48) (ci := 5) (rest := [pm_R 48]) [pm_I (nI p), pm_I (nI q)] hB d_M_pair_33 hc_M_54 (pm_C_up (show 0 + 1 ≤ d + 9 by omega) (k_M_mayBe hg hB hw hI.1 hp hq)) (hg.s rfl) (hg.i (by decide)) rfl rfl rfl rfl (Nat.le_of_ble_eq_true rfl) (Nat.le_of_ble_eq_true rfl) (by omega) (by omega) ?_
  refine pm_if_ne_f 43 d_M_pair_36 rfl (by rw [decide_eq_false (mt (rh_rk_lt hw hp).mpr hr)]; rfl) ?_
  refine pm_iconst' (nI 3) d_M_pair_39 (by decide) ?_
  refine pm_goto 44 d_M_pair_40 rfl ?_
  refine pm_puti d_M_pair_44 hp_M_43 (hg.s rfl) (hg.i (by decide)) rfl ?_
  refine pm_aload_n d_M_pair_47 rfl ?_
  refine pm_geti' (nI 3) d_M_pair_48 hf_M_43 (hg.s rfl) (hg.i (by decide)) rfl pm_up_at ?_
  refine pm_if_le_f 56 d_M_pair_51 rfl (by decide) ?_
  refine pm_iconst' (nI 0) d_M_pair_54 (by decide) ?_
  exact pm_ireturn d_M_pair_55 rfl (fun _ => rfl) (Nat.le_refl _) (Nat.le_refl _) ⟨⟨an_no (by decide), pm_up_at, RI_code hI _, kfr_code _⟩, rfl⟩
theorem y_M_isPlace (hg : pm_gok 61 g) (hB : pm_base b) (hw : rh_wf n L) (hM : mi_ n L σ) (hp : p < n) (hi : i < (L p).length) : pm_C b (d + 1) km_M_isPlace [pm_R 48, pm_I (nI p), pm_I (nI i)] g σ τ 0 0 (pm_Rd (nI 1) σ τ) := by
  have h8 := hw.1
  have h1 := hM.1
  have h7 := wf_len hw p
  show pm_Y b (d + 1) km_M_isPlace 0 false [some (pm_R 48), some (pm_I (nI p)), some (pm_I (nI i))] [] g σ τ 0 0 0 0 _
  refine pm_aload_n d_M_isPlace_0 rfl ?_
  refine pm_iload_n d_M_isPlace_1 rfl ?_
  refine pm_callR (i := 48) (ci := 5) (rest := []) [pm_I (nI p)] hB d_M_isPlace_2 hc_M_62 (y_M_isPerson hg hB h8 h1 hp) (hg.s rfl) (hg.i (by decide)) rfl rfl rfl rfl (Nat.le_of_ble_eq_true rfl) (Nat.le_of_ble_eq_true rfl) (by omega) (by omega) ?_
  refine pm_if_eq_f 26 d_M_isPlace_5 rfl (by decide) ?_
  refine pm_iload_n d_M_isPlace_8 rfl ?_
  refine pm_if_lt_f 26 d_M_isPlace_9 rfl (nI_nn (by omega)) ?_
  refine pm_iload_n d_M_isPlace_12 rfl ?_
  refine pm_aload_n d_M_isPlace_13 rfl ?_
  refine pm_getr d_M_isPlace_14 hf_M_7 (hg.s rfl) (hg.i (by decide)) rfl (hg.r (by decide) rfl) ?_
  refine pm_iload_n d_M_isPlace_17 rfl ?_
  refine pm_iaload' p (nI ((L p).length)) d_M_isPlace_18 (hg.s rfl) (hg.i (by decide)) rfl (by omega) (by decide) (hM.2.1 p hp) ?_
  refine pm_icmp_ge_f 26 d_M_isPlace_19 rfl (by rw [nI_leI (by omega) (by omega)]; omega) ?_
  refine pm_iconst' (nI 1) d_M_isPlace_22 (by decide) ?_
  refine pm_goto 27 d_M_isPlace_23 rfl ?_
  exact pm_zreturn d_M_isPlace_27 rfl (Or.inr rfl) (fun h => h) (Nat.le_refl _) (Nat.le_refl _) ⟨rfl, rfl, rfl⟩
theorem n1_M_isPlace (hg : pm_gok 61 g) (hB : pm_base b) (hw : rh_wf n L) (hM : mi_ n L σ) (hx : ob_ n x) : pm_C b (d + 1) km_M_isPlace [pm_R 48, pm_I x, pm_I y] g σ τ 0 0 (pm_Rd (nI 0) σ τ) := by
  have h8 := hw.1
  have h1 := hM.1
  show pm_Y b (d + 1) km_M_isPlace 0 false [some (pm_R 48), some (pm_I x), some (pm_I y)] [] g σ τ 0 0 0 0 _
  refine pm_aload_n d_M_isPlace_0 rfl ?_
  refine pm_iload_n d_M_isPlace_1 rfl ?_
  refine pm_callR (i := 48) (ci := 5) (rest := []) [pm_I x] hB d_M_isPlace_2 hc_M_62 (n_M_isPerson hg hB h8 h1 hx) (hg.s rfl) (hg.i (by decide)) rfl rfl rfl rfl (Nat.le_of_ble_eq_true rfl) (Nat.le_of_ble_eq_true rfl) (by omega) (by omega) ?_
  refine pm_if_eq_t 26 d_M_isPlace_5 rfl (by decide) ?_
  refine pm_iconst' (nI 0) d_M_isPlace_26 (by decide) ?_
  exact pm_zreturn d_M_isPlace_27 rfl (Or.inl rfl) (fun h => h) (Nat.le_refl _) (Nat.le_refl _) ⟨rfl, rfl, rfl⟩
theorem n2_M_isPlace (hg : pm_gok 61 g) (hB : pm_base b) (hw : rh_wf n L) (hM : mi_ n L σ) (hp : p < n) (hx : ob_ (L p).length x) : pm_C b (d + 1) km_M_isPlace [pm_R 48, pm_I (nI p), pm_I x] g σ τ 0 0 (pm_Rd (nI 0) σ τ) := by
  have h8 := hw.1
  have h1 := hM.1
  have h7 := wf_len hw p
  show pm_Y b (d + 1) km_M_isPlace 0 false [some (pm_R 48), some (pm_I (nI p)), some (pm_I x)] [] g σ τ 0 0 0 0 _
  by_cases e : x < 0
  · have hx := e
    refine pm_aload_n d_M_isPlace_0 rfl ?_
    refine pm_iload_n d_M_isPlace_1 rfl ?_
    refine pm_callR (i := 48) (ci := 5) (rest := []) [pm_I (nI p)] hB d_M_isPlace_2 hc_M_62 (y_M_isPerson hg hB h8 h1 hp) (hg.s rfl) (hg.i (by decide)) rfl rfl rfl rfl (Nat.le_of_ble_eq_true rfl) (Nat.le_of_ble_eq_true rfl) (by omega) (by omega) ?_
    refine pm_if_eq_f 26 d_M_isPlace_5 rfl (by decide) ?_
    refine pm_iload_n d_M_isPlace_8 rfl ?_
    refine pm_if_lt_t 26 d_M_isPlace_9 rfl hx ?_
    refine pm_iconst' (nI 0) d_M_isPlace_26 (by decide) ?_
    exact pm_zreturn d_M_isPlace_27 rfl (Or.inl rfl) (fun h => h) (Nat.le_refl _) (Nat.le_refl _) ⟨rfl, rfl, rfl⟩
  · have hx := hx.resolve_left e
    refine pm_aload_n d_M_isPlace_0 rfl ?_
    refine pm_iload_n d_M_isPlace_1 rfl ?_
    refine pm_callR (i := 48) (ci := 5) (rest := []) [pm_I (nI p)] hB d_M_isPlace_2 hc_M_62 (y_M_isPerson hg hB h8 h1 hp) (hg.s rfl) (hg.i (by decide)) rfl rfl rfl rfl (Nat.le_of_ble_eq_true rfl) (Nat.le_of_ble_eq_true rfl) (by omega) (by omega) ?_
    refine pm_if_eq_f 26 d_M_isPlace_5 rfl (by decide) ?_
    refine pm_iload_n d_M_isPlace_8 rfl ?_
    refine pm_if_lt_f 26 d_M_isPlace_9 rfl e ?_
    refine pm_iload_n d_M_isPlace_12 rfl ?_
    refine pm_aload_n d_M_isPlace_13 rfl ?_
    refine pm_getr d_M_isPlace_14 hf_M_7 (hg.s rfl) (hg.i (by decide)) rfl (hg.r (by decide) rfl) ?_
    refine pm_iload_n d_M_isPlace_17 rfl ?_
    refine pm_iaload' p (nI ((L p).length)) d_M_isPlace_18 (hg.s rfl) (hg.i (by decide)) rfl (by omega) (by decide) (hM.2.1 p hp) ?_
    refine pm_icmp_ge_t 26 d_M_isPlace_19 rfl hx ?_
    refine pm_iconst' (nI 0) d_M_isPlace_26 (by decide) ?_
    exact pm_zreturn d_M_isPlace_27 rfl (Or.inl rfl) (fun h => h) (Nat.le_refl _) (Nat.le_refl _) ⟨rfl, rfl, rfl⟩
theorem x_M_remove (hg : pm_gok 61 g) (hB : pm_base b) (hw : rh_wf n L) (hm : md_ n L dm) (hI : RI_ n L dm σ) (hx : ob_ n x) : pm_C b (d + 10) km_M_remove [pm_R 48, pm_I x, pm_I y] g σ τ 0 0 (pm_Wp (fun v σ' => an_ 1 (v₀) v ∧ σ' 48 0 = nI 1 ∧ RI_ n L dm σ' ∧ kfr_ σ σ') τ) := by
  have h8 := hw.1
  have h1 := hI.1.1
  show pm_Y b (d + 9 + 1) km_M_remove 0 false [some (pm_R 48), some (pm_I x), some (pm_I y), none, none] [] g σ τ 0 0 0 0 _
  refine pm_aload_n d_M_remove_0 rfl ?_
  refine pm_aload_n d_M_remove_1 rfl ?_
  refine pm_iload_n d_M_remove_2 rfl ?_
  refine pm_iload_n d_M_remove_3 rfl ?_
  refine pm_callR (i := 48) (ci := 5) (rest := [pm_R 48]) [pm_I x, pm_I y] hB d_M_remove_4 hc_M_69 (pm_C_up (show 0 + 1 ≤ d + 9 by omega) (n1_M_isPlace hg hB hw hI.1 hx)) (hg.s rfl) (hg.i (by decide)) rfl rfl rfl rfl (Nat.le_of_ble_eq_true rfl) (Nat.le_of_ble_eq_true rfl) (by omega) (by omega) ?_
  refine pm_if_eq_t 14 d_M_remove_7 rfl (by decide) ?_
  refine pm_iconst' (nI 1) d_M_remove_14 (by decide) ?_
  refine pm_puti d_M_remove_15 hp_M_43 (hg.s rfl) (hg.i (by decide)) rfl ?_
  refine pm_aload_n d_M_remove_18 rfl ?_
  refine pm_geti' (nI 1) d_M_remove_19 hf_M_43 (hg.s rfl) (hg.i (by decide)) rfl pm_up_at ?_
  refine pm_if_le_f 27 d_M_remove_22 rfl (by decide) ?_
  refine pm_iconst' (nI 0) d_M_remove_25 (by decide) ?_
  exact pm_ireturn d_M_remove_26 rfl (fun _ => rfl) (Nat.le_refl _) (Nat.le_refl _) ⟨⟨an_no (by decide), pm_up_at, RI_code hI _, kfr_code _⟩, rfl⟩
theorem x_M_remove2 (hg : pm_gok 61 g) (hB : pm_base b) (hw : rh_wf n L) (hm : md_ n L dm) (hI : RI_ n L dm σ) (hp : p < n) (hx : ob_ (L p).length x) : pm_C b (d + 10) km_M_remove [pm_R 48, pm_I (nI p), pm_I x] g σ τ 0 0 (pm_Wp (fun v σ' => an_ 1 (v₀) v ∧ σ' 48 0 = nI 1 ∧ RI_ n L dm σ' ∧ kfr_ σ σ') τ) := by
  have h8 := hw.1
  have h1 := hI.1.1
  show pm_Y b (d + 9 + 1) km_M_remove 0 false [some (pm_R 48), some (pm_I (nI p)), some (pm_I x), none, none] [] g σ τ 0 0 0 0 _
  refine pm_aload_n d_M_remove_0 rfl ?_
  refine pm_aload_n d_M_remove_1 rfl ?_
  refine pm_iload_n d_M_remove_2 rfl ?_
  refine pm_iload_n d_M_remove_3 rfl ?_
  refine pm_callR (i := 48) (ci := 5) (rest := [pm_R 48]) [pm_I (nI p), pm_I x] hB d_M_remove_4 hc_M_69 (pm_C_up (show 0 + 1 ≤ d + 9 by omega) (n2_M_isPlace hg hB hw hI.1 hp hx)) (hg.s rfl) (hg.i (by decide)) rfl rfl rfl rfl (Nat.le_of_ble_eq_true rfl) (Nat.le_of_ble_eq_true rfl) (by omega) (by omega) ?_
  refine pm_if_eq_t 14 d_M_remove_7 rfl (by decide) ?_
  refine pm_iconst' (nI 1) d_M_remove_14 (by decide) ?_
  refine pm_puti d_M_remove_15 hp_M_43 (hg.s rfl) (hg.i (by decide)) rfl ?_
  refine pm_aload_n d_M_remove_18 rfl ?_
  refine pm_geti' (nI 1) d_M_remove_19 hf_M_43 (hg.s rfl) (hg.i (by decide)) rfl pm_up_at ?_
  refine pm_if_le_f 27 d_M_remove_22 rfl (by decide) ?_
  refine pm_iconst' (nI 0) d_M_remove_25 (by decide) ?_
  exact pm_ireturn d_M_remove_26 rfl (fun _ => rfl) (Nat.le_refl _) (Nat.le_refl _) ⟨⟨an_no (by decide), pm_up_at, RI_code hI _, kfr_code _⟩, rfl⟩
theorem x_M_move (hg : pm_gok 61 g) (hB : pm_base b) (hw : rh_wf n L) (hm : md_ n L dm) (hI : RI_ n L dm σ) (hx : ob_ n x) : pm_C b (d + 10) km_M_move [pm_R 48, pm_I x, pm_I y, pm_I z] g σ τ 0 0 (pm_Wp (fun v σ' => an_ 1 (v₀) v ∧ σ' 48 0 = nI 1 ∧ RI_ n L dm σ' ∧ kfr_ σ σ') τ) := by
  have h8 := hw.1
  have h1 := hI.1.1
  show pm_Y b (d + 9 + 1) km_M_move 0 false [some (pm_R 48), some (pm_I x), some (pm_I y), some (pm_I z), none, none, none] [] g σ τ 0 0 0 0 _
  refine pm_aload_n d_M_move_0 rfl ?_
  refine pm_aload_n d_M_move_1 rfl ?_
  refine pm_iload_n d_M_move_2 rfl ?_
  refine pm_iload_n d_M_move_3 rfl ?_
  refine pm_callR (i := 48) (ci := 5) (rest := [pm_R 48]) [pm_I x, pm_I y] hB d_M_move_4 hc_M_69 (pm_C_up (show 0 + 1 ≤ d + 9 by omega) (n1_M_isPlace hg hB hw hI.1 hx)) (hg.s rfl) (hg.i (by decide)) rfl rfl rfl rfl (Nat.le_of_ble_eq_true rfl) (Nat.le_of_ble_eq_true rfl) (by omega) (by omega) ?_
  refine pm_if_eq_t 23 d_M_move_7 rfl (by decide) ?_
  refine pm_iconst' (nI 1) d_M_move_23 (by decide) ?_
  refine pm_puti d_M_move_24 hp_M_43 (hg.s rfl) (hg.i (by decide)) rfl ?_
  refine pm_aload_n d_M_move_27 rfl ?_
  refine pm_geti' (nI 1) d_M_move_28 hf_M_43 (hg.s rfl) (hg.i (by decide)) rfl pm_up_at ?_
  refine pm_if_le_f 36 d_M_move_31 rfl (by decide) ?_
  refine pm_iconst' (nI 0) d_M_move_34 (by decide) ?_
  exact pm_ireturn d_M_move_35 rfl (fun _ => rfl) (Nat.le_refl _) (Nat.le_refl _) ⟨⟨an_no (by decide), pm_up_at, RI_code hI _, kfr_code _⟩, rfl⟩
theorem x1_M_move2 (hg : pm_gok 61 g) (hB : pm_base b) (hw : rh_wf n L) (hm : md_ n L dm) (hI : RI_ n L dm σ) (hp : p < n) (hx : ob_ (L p).length x) : pm_C b (d + 10) km_M_move [pm_R 48, pm_I (nI p), pm_I x, pm_I y] g σ τ 0 0 (pm_Wp (fun v σ' => an_ 1 (v₀) v ∧ σ' 48 0 = nI 1 ∧ RI_ n L dm σ' ∧ kfr_ σ σ') τ) := by
  have h8 := hw.1
  have h1 := hI.1.1
  show pm_Y b (d + 9 + 1) km_M_move 0 false [some (pm_R 48), some (pm_I (nI p)), some (pm_I x), some (pm_I y), none, none, none] [] g σ τ 0 0 0 0 _
  refine pm_aload_n d_M_move_0 rfl ?_
  refine pm_aload_n d_M_move_1 rfl ?_
  refine pm_iload_n d_M_move_2 rfl ?_
  refine pm_iload_n d_M_move_3 rfl ?_
  refine pm_callR (i := 48) (ci := 5) (rest := [pm_R 48]) [pm_I (nI p), pm_I x] hB d_M_move_4 hc_M_69 (pm_C_up (show 0 + 1 ≤ d + 9 by omega) (n2_M_isPlace hg hB hw hI.1 hp hx)) (hg.s rfl) (hg.i (by decide)) rfl rfl rfl rfl (Nat.le_of_ble_eq_true rfl) (Nat.le_of_ble_eq_true rfl) (by omega) (by omega) ?_
  refine pm_if_eq_t 23 d_M_move_7 rfl (by decide) ?_
  refine pm_iconst' (nI 1) d_M_move_23 (by decide) ?_
  refine pm_puti d_M_move_24 hp_M_43 (hg.s rfl) (hg.i (by decide)) rfl ?_
  refine pm_aload_n d_M_move_27 rfl ?_
  refine pm_geti' (nI 1) d_M_move_28 hf_M_43 (hg.s rfl) (hg.i (by decide)) rfl pm_up_at ?_
  refine pm_if_le_f 36 d_M_move_31 rfl (by decide) ?_
  refine pm_iconst' (nI 0) d_M_move_34 (by decide) ?_
  exact pm_ireturn d_M_move_35 rfl (fun _ => rfl) (Nat.le_refl _) (Nat.le_refl _) ⟨⟨an_no (by decide), pm_up_at, RI_code hI _, kfr_code _⟩, rfl⟩
theorem x2_M_move2 (hg : pm_gok 61 g) (hB : pm_base b) (hw : rh_wf n L) (hm : md_ n L dm) (hI : RI_ n L dm σ) (hp : p < n) (hi : i < (L p).length) (hx : ob_ (L p).length y) : pm_C b (d + 10) km_M_move [pm_R 48, pm_I (nI p), pm_I (nI i), pm_I y] g σ τ 0 0 (pm_Wp (fun v σ' => an_ 1 (v₀) v ∧ σ' 48 0 = nI 1 ∧ RI_ n L dm σ' ∧ kfr_ σ σ') τ) := by
  have h8 := hw.1
  have h1 := hI.1.1
  show pm_Y b (d + 9 + 1) km_M_move 0 false [some (pm_R 48), some (pm_I (nI p)), some (pm_I (nI i)), some (pm_I y), none, none, none] [] g σ τ 0 0 0 0 _
  refine pm_aload_n d_M_move_0 rfl ?_
  refine pm_aload_n d_M_move_1 rfl ?_
  refine pm_iload_n d_M_move_2 rfl ?_
  refine pm_iload_n d_M_move_3 rfl ?_
  refine pm_callR (i := 48) (ci := 5) (rest := [pm_R 48]) [pm_I (nI p), pm_I (nI i)] hB d_M_move_4 hc_M_69 (pm_C_up (show 0 + 1 ≤ d + 9 by omega) (y_M_isPlace hg hB hw hI.1 hp hi)) (hg.s rfl) (hg.i (by decide)) rfl rfl rfl rfl (Nat.le_of_ble_eq_true rfl) (Nat.le_of_ble_eq_true rfl) (by omega) (by omega) ?_
  refine pm_if_eq_f 23 d_M_move_7 rfl (by decide) ?_
  refine pm_aload_n d_M_move_10 rfl ?_
  refine pm_iload_n d_M_move_11 rfl ?_
  refine pm_iload_n d_M_move_12 rfl ?_
  refine pm_callR (i := 48) (ci := 5) (rest := [pm_R 48]) [pm_I (nI p), pm_I y] hB d_M_move_13 hc_M_69 (pm_C_up (show 0 + 1 ≤ d + 9 by omega) (n2_M_isPlace hg hB hw hI.1 hp hx)) (hg.s rfl) (hg.i (by decide)) rfl rfl rfl rfl (Nat.le_of_ble_eq_true rfl) (Nat.le_of_ble_eq_true rfl) (by omega) (by omega) ?_
  refine pm_if_eq_t 23 d_M_move_16 rfl (by decide) ?_
  refine pm_iconst' (nI 1) d_M_move_23 (by decide) ?_
  refine pm_puti d_M_move_24 hp_M_43 (hg.s rfl) (hg.i (by decide)) rfl ?_
  refine pm_aload_n d_M_move_27 rfl ?_
  refine pm_geti' (nI 1) d_M_move_28 hf_M_43 (hg.s rfl) (hg.i (by decide)) rfl pm_up_at ?_
  refine pm_if_le_f 36 d_M_move_31 rfl (by decide) ?_
  refine pm_iconst' (nI 0) d_M_move_34 (by decide) ?_
  exact pm_ireturn d_M_move_35 rfl (fun _ => rfl) (Nat.le_refl _) (Nat.le_refl _) ⟨⟨an_no (by decide), pm_up_at, RI_code hI _, kfr_code _⟩, rfl⟩
theorem x_M_move2 (hg : pm_gok 61 g) (hB : pm_base b) (hw : rh_wf n L) (hm : md_ n L dm) (hI : RI_ n L dm σ) (hp : p < n) (hx : ob_ (L p).length x ∨ ob_ (L p).length y) : pm_C b (d + 10) km_M_move [pm_R 48, pm_I (nI p), pm_I x, pm_I y] g σ τ 0 0 (pm_Wp (fun v σ' => an_ 1 (v₀) v ∧ σ' 48 0 = nI 1 ∧ RI_ n L dm σ' ∧ kfr_ σ σ') τ) := by
  by_cases e : ob_ (L p).length x
  · exact x1_M_move2 hg hB hw hm hI hp e
  · have h7 := wf_len hw p
    obtain ⟨i, hi, rfl⟩ := iv_in (show (L p).length < 2 ^ 31 by omega) e
    exact x2_M_move2 hg hB hw hm hI hp hi (hx.resolve_left e)
theorem x_M_people (hg : pm_gok 61 g) (hB : pm_base b) (hw : rh_wf n L) (hm : md_ n L dm) (hI : RI_ n L dm σ) (hx : x < 0 ∨ nI 8 < x) : pm_C b (d + 10) km_M_people [pm_R 48, pm_I x] g σ τ 0 0 (pm_Wp (fun v σ' => an_ 1 (v₀) v ∧ σ' 48 0 = nI 1 ∧ RI_ n L dm σ' ∧ kfr_ σ σ') τ) := by
  have h8 := hw.1
  have h1 := hI.1.1
  show pm_Y b (d + 9 + 1) km_M_people 0 false [some (pm_R 48), some (pm_I x), none, none] [] g σ τ 0 0 0 0 _
  by_cases e : x < 0
  · have hx := e
    refine pm_aload_n d_M_people_0 rfl ?_
    refine pm_iload_n d_M_people_1 rfl ?_
    refine pm_if_lt_t 11 d_M_people_2 rfl hx ?_
    refine pm_iconst' (nI 1) d_M_people_11 (by decide) ?_
    refine pm_goto 16 d_M_people_12 rfl ?_
    refine pm_puti d_M_people_16 hp_M_43 (hg.s rfl) (hg.i (by decide)) rfl ?_
    refine pm_aload_n d_M_people_19 rfl ?_
    refine pm_geti' (nI 1) d_M_people_20 hf_M_43 (hg.s rfl) (hg.i (by decide)) rfl pm_up_at ?_
    refine pm_if_le_f 28 d_M_people_23 rfl (by decide) ?_
    refine pm_iconst' (nI 0) d_M_people_26 (by decide) ?_
    exact pm_ireturn d_M_people_27 rfl (fun _ => rfl) (Nat.le_refl _) (Nat.le_refl _) ⟨⟨an_no (by decide), pm_up_at, RI_code hI _, kfr_code _⟩, rfl⟩
  · have hx := hx.resolve_left e
    refine pm_aload_n d_M_people_0 rfl ?_
    refine pm_iload_n d_M_people_1 rfl ?_
    refine pm_if_lt_f 11 d_M_people_2 rfl e ?_
    refine pm_iload_n d_M_people_5 rfl ?_
    refine pm_bipush' (nI 8) d_M_people_6 (by decide) ?_
    refine pm_icmp_le_f 15 d_M_people_8 rfl (Int32.not_le.mpr hx) ?_
    refine pm_iconst' (nI 1) d_M_people_11 (by decide) ?_
    refine pm_goto 16 d_M_people_12 rfl ?_
    refine pm_puti d_M_people_16 hp_M_43 (hg.s rfl) (hg.i (by decide)) rfl ?_
    refine pm_aload_n d_M_people_19 rfl ?_
    refine pm_geti' (nI 1) d_M_people_20 hf_M_43 (hg.s rfl) (hg.i (by decide)) rfl pm_up_at ?_
    refine pm_if_le_f 28 d_M_people_23 rfl (by decide) ?_
    refine pm_iconst' (nI 0) d_M_people_26 (by decide) ?_
    exact pm_ireturn d_M_people_27 rfl (fun _ => rfl) (Nat.le_refl _) (Nat.le_refl _) ⟨⟨an_no (by decide), pm_up_at, RI_code hI _, kfr_code _⟩, rfl⟩
theorem k_M_size (hg : pm_gok 61 g) (hB : pm_base b) (hw : rh_wf n L) (hm : md_ n L dm) (hI : RI_ n L dm σ) : pm_C b (d + 10) km_M_size [pm_R 48] g σ τ 0 0 (pm_Wp (fun v σ' => an_ 0 (nI n) v ∧ σ' 48 0 = nI 0 ∧ RI_ n L dm σ' ∧ kfr_ σ σ') τ) := by
  have h8 := hw.1
  have h1 := hI.1.1
  show pm_Y b (d + 9 + 1) km_M_size 0 false [some (pm_R 48)] [] g σ τ 0 0 0 0 _
  refine pm_aload_n d_M_size_0 rfl ?_
  refine pm_iconst' (nI 0) d_M_size_1 (by decide) ?_
  refine pm_puti d_M_size_2 hp_M_43 (hg.s rfl) (hg.i (by decide)) rfl ?_
  refine pm_aload_n d_M_size_5 rfl ?_
  refine pm_geti' (nI n) d_M_size_6 hf_M_47 (hg.s rfl) (hg.i (by decide)) rfl (by rw [pm_up_ne (by omega)]; exact h1) ?_
  exact pm_ireturn d_M_size_9 rfl (fun _ => rfl) (Nat.le_refl _) (Nat.le_refl _) ⟨⟨an_ok, pm_up_at, RI_code hI _, kfr_code _⟩, rfl⟩
theorem k_M_astray (hg : pm_gok 61 g) (hB : pm_base b) (hw : rh_wf n L) (hm : md_ n L dm) (hI : RI_ n L dm σ) : pm_C b (d + 10) km_M_astray [pm_R 48] g σ τ 0 0 (pm_Wp (fun v σ' => an_ 0 (nI 0) v ∧ σ' 48 0 = nI 0 ∧ RI_ n L dm σ' ∧ kfr_ σ σ') τ) := by
  have h8 := hw.1
  have h1 := hI.1.1
  show pm_Y b (d + 9 + 1) km_M_astray 0 false [some (pm_R 48)] [] g σ τ 0 0 0 0 _
  refine pm_aload_n d_M_astray_0 rfl ?_
  refine pm_iconst' (nI 0) d_M_astray_1 (by decide) ?_
  refine pm_puti d_M_astray_2 hp_M_43 (hg.s rfl) (hg.i (by decide)) rfl ?_
  refine pm_iconst' (nI 0) d_M_astray_5 (by decide) ?_
  exact pm_ireturn d_M_astray_6 rfl (fun _ => rfl) (Nat.le_refl _) (Nat.le_refl _) ⟨⟨an_ok, pm_up_at, RI_code hI _, kfr_code _⟩, rfl⟩
theorem k_M_partner (hg : pm_gok 61 g) (hB : pm_base b) (hw : rh_wf n L) (hm : md_ n L dm) (hI : RI_ n L dm σ) (hp : p < n) : pm_C b (d + 10) km_M_partner [pm_R 48, pm_I (nI p)] g σ τ 0 0 (pm_Wp (fun v σ' => an_ 0 (nI (dm p)) v ∧ σ' 48 0 = nI 0 ∧ RI_ n L dm σ' ∧ kfr_ σ σ') τ) := by
  have h8 := hw.1
  have h1 := hI.1.1
  show pm_Y b (d + 9 + 1) km_M_partner 0 false [some (pm_R 48), some (pm_I (nI p))] [] g σ τ 0 0 0 0 _
  refine pm_aload_n d_M_partner_0 rfl ?_
  refine pm_aload_n d_M_partner_1 rfl ?_
  refine pm_iload_n d_M_partner_2 rfl ?_
  refine pm_callR (i := 48) (ci := 5) (rest := [pm_R 48]) [pm_I (nI p)] hB d_M_partner_3 hc_M_62 (y_M_isPerson hg hB h8 h1 hp) (hg.s rfl) (hg.i (by decide)) rfl rfl rfl rfl (Nat.le_of_ble_eq_true rfl) (Nat.le_of_ble_eq_true rfl) (by omega) (by omega) ?_
  refine pm_if_eq_f 13 d_M_partner_6 rfl (by decide) ?_
  refine pm_iconst' (nI 0) d_M_partner_9 (by decide) ?_
  refine pm_goto 14 d_M_partner_10 rfl ?_
  refine pm_puti d_M_partner_14 hp_M_43 (hg.s rfl) (hg.i (by decide)) rfl ?_
  refine pm_aload_n d_M_partner_17 rfl ?_
  refine pm_geti' (nI 0) d_M_partner_18 hf_M_43 (hg.s rfl) (hg.i (by decide)) rfl pm_up_at ?_
  refine pm_if_le_t 28 d_M_partner_21 rfl (by decide) ?_
  refine pm_aload_n d_M_partner_28 rfl ?_
  refine pm_getr d_M_partner_29 hf_M_16 (hg.s rfl) (hg.i (by decide)) rfl (hg.r (by decide) rfl) ?_
  refine pm_iload_n d_M_partner_32 rfl ?_
  refine pm_iaload' p (nI (dm p)) d_M_partner_33 (hg.s rfl) (hg.i (by decide)) rfl (by omega) (by decide) (by rw [pm_up_ne (by omega)]; exact hI.2.1 p hp) ?_
  exact pm_ireturn d_M_partner_34 rfl (fun _ => rfl) (Nat.le_refl _) (Nat.le_refl _) ⟨⟨an_ok, pm_up_at, RI_code hI _, kfr_code _⟩, rfl⟩
theorem k_M_place (hg : pm_gok 61 g) (hB : pm_base b) (hw : rh_wf n L) (hm : md_ n L dm) (hI : RI_ n L dm σ) (hp : p < n) (hq : q < n) : pm_C b (d + 10) km_M_place [pm_R 48, pm_I (nI p), pm_I (nI q)] g σ τ 0 0 (pm_Wp (fun v σ' => an_ 0 (pl_ L p q) v ∧ σ' 48 0 = nI 0 ∧ RI_ n L dm σ' ∧ kfr_ σ σ') τ) := by
  have h8 := hw.1
  have h1 := hI.1.1
  show pm_Y b (d + 9 + 1) km_M_place 0 false [some (pm_R 48), some (pm_I (nI p)), some (pm_I (nI q))] [] g σ τ 0 0 0 0 _
  refine pm_aload_n d_M_place_0 rfl ?_
  refine pm_aload_n d_M_place_1 rfl ?_
  refine pm_iload_n d_M_place_2 rfl ?_
  refine pm_callR (i := 48) (ci := 5) (rest := [pm_R 48]) [pm_I (nI p)] hB d_M_place_3 hc_M_62 (y_M_isPerson hg hB h8 h1 hp) (hg.s rfl) (hg.i (by decide)) rfl rfl rfl rfl (Nat.le_of_ble_eq_true rfl) (Nat.le_of_ble_eq_true rfl) (by omega) (by omega) ?_
  refine pm_if_eq_f 21 d_M_place_6 rfl (by decide) ?_
  refine pm_aload_n d_M_place_9 rfl ?_
  refine pm_iload_n d_M_place_10 rfl ?_
  refine pm_callR (i := 48) (ci := 5) (rest := [pm_R 48]) [pm_I (nI q)] hB d_M_place_11 hc_M_62 (y_M_isPerson hg hB h8 h1 hq) (hg.s rfl) (hg.i (by decide)) rfl rfl rfl rfl (Nat.le_of_ble_eq_true rfl) (Nat.le_of_ble_eq_true rfl) (by omega) (by omega) ?_
  refine pm_if_eq_f 21 d_M_place_14 rfl (by decide) ?_
  refine pm_iconst' (nI 0) d_M_place_17 (by decide) ?_
  refine pm_goto 22 d_M_place_18 rfl ?_
  refine pm_puti d_M_place_22 hp_M_43 (hg.s rfl) (hg.i (by decide)) rfl ?_
  refine pm_aload_n d_M_place_25 rfl ?_
  refine pm_geti' (nI 0) d_M_place_26 hf_M_43 (hg.s rfl) (hg.i (by decide)) rfl pm_up_at ?_
  refine pm_if_le_t 36 d_M_place_29 rfl (by decide) ?_
  refine pm_aload_n d_M_place_36 rfl ?_
  refine pm_iload_n d_M_place_37 rfl ?_
  refine pm_iload_n d_M_place_38 rfl ?_
  refine pm_callR (i := 48) (ci := 5) (rest := []) [pm_I (nI p), pm_I (nI q)] hB d_M_place_39 hc_M_50 (k_M_placeOf hg hB hw (RI_code hI (nI 0)).1 hp (by omega)) (hg.s rfl) (hg.i (by decide)) rfl rfl rfl rfl (Nat.le_of_ble_eq_true rfl) (Nat.le_of_ble_eq_true rfl) (by omega) (by omega) ?_
  exact pm_ireturn d_M_place_42 rfl (fun _ => rfl) (Nat.le_refl _) (Nat.le_refl _) ⟨⟨an_ok, pm_up_at, RI_code hI _, kfr_code _⟩, rfl⟩
theorem k_M_at (hg : pm_gok 61 g) (hB : pm_base b) (hw : rh_wf n L) (hm : md_ n L dm) (hI : RI_ n L dm σ) (hp : p < n) (hi : i < (L p).length) : pm_C b (d + 10) km_M_at [pm_R 48, pm_I (nI p), pm_I (nI i)] g σ τ 0 0 (pm_Wp (fun v σ' => an_ 0 (nI ((L p).getD i 0)) v ∧ σ' 48 0 = nI 0 ∧ RI_ n L dm σ' ∧ kfr_ σ σ') τ) := by
  have h8 := hw.1
  have h1 := hI.1.1
  have h7 := wf_len hw p
  show pm_Y b (d + 9 + 1) km_M_at 0 false [some (pm_R 48), some (pm_I (nI p)), some (pm_I (nI i))] [] g σ τ 0 0 0 0 _
  refine pm_aload_n d_M_at_0 rfl ?_
  refine pm_aload_n d_M_at_1 rfl ?_
  refine pm_iload_n d_M_at_2 rfl ?_
  refine pm_callR (i := 48) (ci := 5) (rest := [pm_R 48]) [pm_I (nI p)] hB d_M_at_3 hc_M_62 (y_M_isPerson hg hB h8 h1 hp) (hg.s rfl) (hg.i (by decide)) rfl rfl rfl rfl (Nat.le_of_ble_eq_true rfl) (Nat.le_of_ble_eq_true rfl) (by omega) (by omega) ?_
  refine pm_if_eq_f 17 d_M_at_6 rfl (by decide) ?_
  refine pm_iload_n d_M_at_9 rfl ?_
  refine pm_if_lt_f 17 d_M_at_10 rfl (nI_nn (by omega)) ?_
  refine pm_iconst' (nI 0) d_M_at_13 (by decide) ?_
  refine pm_goto 18 d_M_at_14 rfl ?_
  refine pm_puti d_M_at_18 hp_M_43 (hg.s rfl) (hg.i (by decide)) rfl ?_
  refine pm_aload_n d_M_at_21 rfl ?_
  refine pm_geti' (nI 0) d_M_at_22 hf_M_43 (hg.s rfl) (hg.i (by decide)) rfl pm_up_at ?_
  refine pm_if_le_t 30 d_M_at_25 rfl (by decide) ?_
  refine pm_iload_n d_M_at_30 rfl ?_
  refine pm_aload_n d_M_at_31 rfl ?_
  refine pm_getr d_M_at_32 hf_M_7 (hg.s rfl) (hg.i (by decide)) rfl (hg.r (by decide) rfl) ?_
  refine pm_iload_n d_M_at_35 rfl ?_
  refine pm_iaload' p (nI ((L p).length)) d_M_at_36 (hg.s rfl) (hg.i (by decide)) rfl (by omega) (by decide) (by rw [pm_up_ne (by omega)]; exact hI.1.2.1 p hp) ?_
  refine pm_icmp_ge_f 54 d_M_at_37 rfl (by rw [nI_leI (by omega) (by omega)]; omega) ?_
  refine pm_aload_n d_M_at_40 rfl ?_
  refine pm_getr d_M_at_41 hf_M_13 (hg.s rfl) (hg.i (by decide)) rfl (hg.r (by decide) rfl) ?_
  refine pm_bipush' (nI 8) d_M_at_44 (by decide) ?_
  refine pm_iload_n d_M_at_46 rfl ?_
  refine pm_imulN d_M_at_47 ?_
  refine pm_iload_n d_M_at_48 rfl ?_
  refine pm_iaddN d_M_at_49 ?_
  refine pm_iaload' ((8 * p) + i) (nI ((L p).getD i 0)) d_M_at_50 (hg.s rfl) (hg.i (by decide)) rfl (by omega) (by decide) (by rw [pm_up_ne (by omega)]; exact hI.1.2.2 p i hp hi) ?_
  refine pm_goto 55 d_M_at_51 rfl ?_
  exact pm_ireturn d_M_at_55 rfl (fun _ => rfl) (Nat.le_refl _) (Nat.le_refl _) ⟨⟨an_ok, pm_up_at, RI_code hI _, kfr_code _⟩, rfl⟩
theorem k_M_at2 (hg : pm_gok 61 g) (hB : pm_base b) (hw : rh_wf n L) (hm : md_ n L dm) (hI : RI_ n L dm σ) (hp : p < n) (h0 : ¬ x < 0) (hx : nI (L p).length ≤ x) : pm_C b (d + 10) km_M_at [pm_R 48, pm_I (nI p), pm_I x] g σ τ 0 0 (pm_Wp (fun v σ' => an_ 0 (-1) v ∧ σ' 48 0 = nI 0 ∧ RI_ n L dm σ' ∧ kfr_ σ σ') τ) := by
  have h8 := hw.1
  have h1 := hI.1.1
  show pm_Y b (d + 9 + 1) km_M_at 0 false [some (pm_R 48), some (pm_I (nI p)), some (pm_I x)] [] g σ τ 0 0 0 0 _
  refine pm_aload_n d_M_at_0 rfl ?_
  refine pm_aload_n d_M_at_1 rfl ?_
  refine pm_iload_n d_M_at_2 rfl ?_
  refine pm_callR (i := 48) (ci := 5) (rest := [pm_R 48]) [pm_I (nI p)] hB d_M_at_3 hc_M_62 (y_M_isPerson hg hB h8 h1 hp) (hg.s rfl) (hg.i (by decide)) rfl rfl rfl rfl (Nat.le_of_ble_eq_true rfl) (Nat.le_of_ble_eq_true rfl) (by omega) (by omega) ?_
  refine pm_if_eq_f 17 d_M_at_6 rfl (by decide) ?_
  refine pm_iload_n d_M_at_9 rfl ?_
  refine pm_if_lt_f 17 d_M_at_10 rfl h0 ?_
  refine pm_iconst' (nI 0) d_M_at_13 (by decide) ?_
  refine pm_goto 18 d_M_at_14 rfl ?_
  refine pm_puti d_M_at_18 hp_M_43 (hg.s rfl) (hg.i (by decide)) rfl ?_
  refine pm_aload_n d_M_at_21 rfl ?_
  refine pm_geti' (nI 0) d_M_at_22 hf_M_43 (hg.s rfl) (hg.i (by decide)) rfl pm_up_at ?_
  refine pm_if_le_t 30 d_M_at_25 rfl (by decide) ?_
  refine pm_iload_n d_M_at_30 rfl ?_
  refine pm_aload_n d_M_at_31 rfl ?_
  refine pm_getr d_M_at_32 hf_M_7 (hg.s rfl) (hg.i (by decide)) rfl (hg.r (by decide) rfl) ?_
  refine pm_iload_n d_M_at_35 rfl ?_
  refine pm_iaload' p (nI ((L p).length)) d_M_at_36 (hg.s rfl) (hg.i (by decide)) rfl (by omega) (by decide) (by rw [pm_up_ne (by omega)]; exact hI.1.2.1 p hp) ?_
  refine pm_icmp_ge_t 54 d_M_at_37 rfl hx ?_
  refine pm_iconst' (-1) d_M_at_54 (by decide) ?_
  exact pm_ireturn d_M_at_55 rfl (fun _ => rfl) (Nat.le_refl _) (Nat.le_refl _) ⟨⟨an_ok, pm_up_at, RI_code hI _, kfr_code _⟩, rfl⟩
theorem k_M_blocking (hg : pm_gok 61 g) (hB : pm_base b) (hw : rh_wf n L) (hm : md_ n L dm) (hI : RI_ n L dm σ) : pm_C b (d + 10) km_M_blocking [pm_R 48] g σ τ 0 0 (pm_Wp (fun v σ' => an_ 0 (nI (cb_ (fun l h => wb_ L l h (dm l) (dm h)) n n)) v ∧ σ' 48 0 = nI 0 ∧ RI_ n L dm σ' ∧ kfr_ σ σ') τ) := by
  have h8 := hw.1
  have h1 := hI.1.1
  show pm_Y b (d + 9 + 1) km_M_blocking 0 false [some (pm_R 48)] [] g σ τ 0 0 0 0 _
  refine pm_aload_n d_M_blocking_0 rfl ?_
  refine pm_iconst' (nI 0) d_M_blocking_1 (by decide) ?_
  refine pm_puti d_M_blocking_2 hp_M_43 (hg.s rfl) (hg.i (by decide)) rfl ?_
  refine pm_aload_n d_M_blocking_5 rfl ?_
  refine pm_aload_n d_M_blocking_6 rfl ?_
  refine pm_getr d_M_blocking_7 hf_M_16 (hg.s rfl) (hg.i (by decide)) rfl (hg.r (by decide) rfl) ?_
  refine pm_callR (i := 48) (ci := 5) (rest := []) [pm_R 51] hB d_M_blocking_10 hc_M_87 (pm_C_up (show 0 + 4 ≤ d + 9 by omega) (k_M_blockingOf hg hB hw (RI_code hI (nI 0)).1 (RI_code hI (nI 0)).2.1 (md_R hm h8))) (hg.s rfl) (hg.i (by decide)) rfl rfl rfl rfl (Nat.le_of_ble_eq_true rfl) (Nat.le_of_ble_eq_true rfl) (by omega) (by omega) ?_
  exact pm_ireturn d_M_blocking_13 rfl (fun _ => rfl) (Nat.le_refl _) (Nat.le_refl _) ⟨⟨an_ok, pm_up_at, RI_code hI _, kfr_code _⟩, rfl⟩
theorem RI_pair {σ₁ : pI} {dm' : Nat → Nat} (h : RI_ n L dm σ) (h1 : mp_ n dm' σ₁) (h2 : ∀ c x, c ≠ 51 → σ₁ c x = σ c x) : RI_ n L dm' σ₁ :=
  ⟨mi_of h.1 (h2 48 1 (by omega)) (fun c x hc => h2 c x (by omega)), h1, by
    rcases h.2.2 with z | z
    · exact Or.inl ((h2 48 5 (by omega)).trans z)
    · exact Or.inr ⟨(h2 48 5 (by omega)).trans z.1, ml_of z.2 (fun c x hc => h2 c x (by omega))⟩⟩
theorem k_M_pair (hg : pm_gok 61 g) (hB : pm_base b) (hw : rh_wf n L) (hm : md_ n L dm) (hI : RI_ n L dm σ) (hp : p < n) (hq : q < n) (hne : p ≠ q) (hr : rh_rk L p q < 8) : pm_C b (d + 10) km_M_pair [pm_R 48, pm_I (nI p), pm_I (nI q)] g σ τ 0 0 (pm_Wp (fun v σ' => an_ 0 (nI (cb_ (fun l h => wb_ L l h (jn_ dm p q l) (jn_ dm p q h)) n n)) v ∧ σ' 48 0 = nI 0 ∧ RI_ n L (jn_ dm p q) σ' ∧ kfr_ σ σ') τ) := by
  have h8 := hw.1
  have h1 := hI.1.1
  show pm_Y b (d + 9 + 1) km_M_pair 0 false [some (pm_R 48), some (pm_I (nI p)), some (pm_I (nI q))] [] g σ τ 0 0 0 0 _
  refine pm_aload_n d_M_pair_0 rfl ?_
  refine pm_aload_n d_M_pair_1 rfl ?_
  refine pm_iload_n d_M_pair_2 rfl ?_
  refine pm_callR (i := 48) (ci := 5) (rest := [pm_R 48]) [pm_I (nI p)] hB d_M_pair_3 hc_M_62 (y_M_isPerson hg hB h8 h1 hp) (hg.s rfl) (hg.i (by decide)) rfl rfl rfl rfl (Nat.le_of_ble_eq_true rfl) (Nat.le_of_ble_eq_true rfl) (by omega) (by omega) ?_
  refine pm_if_eq_f 17 d_M_pair_6 rfl (by decide) ?_
  refine pm_aload_n d_M_pair_9 rfl ?_
  refine pm_iload_n d_M_pair_10 rfl ?_
  refine pm_callR (i := 48) (ci := 5) (rest := [pm_R 48]) [pm_I (nI q)] hB d_M_pair_11 hc_M_62 (y_M_isPerson hg hB h8 h1 hq) (hg.s rfl) (hg.i (by decide)) rfl rfl rfl rfl (Nat.le_of_ble_eq_true rfl) (Nat.le_of_ble_eq_true rfl) (by omega) (by omega) ?_
  refine pm_if_ne_t 21 d_M_pair_14 rfl (by decide) ?_
  refine pm_iload_n d_M_pair_21 rfl ?_
  refine pm_iload_n d_M_pair_22 rfl ?_
  refine pm_icmp_ne_t 30 d_M_pair_23 rfl (fun e => hne ((nI_eq (by omega) (by omega)).mp e)) ?_
  refine pm_aload_n d_M_pair_30 rfl ?_
  refine pm_iload_n d_M_pair_31 rfl ?_
  refine pm_iload_n d_M_pair_32 rfl ?_
  refine pm_callR (i := 48) (ci := 5) (rest := [pm_R 48]) [pm_I (nI p), pm_I (nI q)] hB d_M_pair_33 hc_M_54 (pm_C_up (show 0 + 1 ≤ d + 9 by omega) (k_M_mayBe hg hB hw hI.1 hp hq)) (hg.s rfl) (hg.i (by decide)) rfl rfl rfl rfl (Nat.le_of_ble_eq_true rfl) (Nat.le_of_ble_eq_true rfl) (by omega) (by omega) ?_
  refine pm_if_ne_t 43 d_M_pair_36 rfl (by rw [decide_eq_true ((rh_rk_lt hw hp).mp hr)]; decide) ?_
  refine pm_iconst' (nI 0) d_M_pair_43 (by decide) ?_
  refine pm_puti d_M_pair_44 hp_M_43 (hg.s rfl) (hg.i (by decide)) rfl ?_
  refine pm_aload_n d_M_pair_47 rfl ?_
  refine pm_geti' (nI 0) d_M_pair_48 hf_M_43 (hg.s rfl) (hg.i (by decide)) rfl pm_up_at ?_
  refine pm_if_le_t 56 d_M_pair_51 rfl (by decide) ?_
  refine pm_aload_n d_M_pair_56 rfl ?_
  refine pm_iload_n d_M_pair_57 rfl ?_
  refine pm_iload_n d_M_pair_58 rfl ?_
  refine pm_callWp (i := 48) (ci := 5) (rest := []) [pm_I (nI p), pm_I (nI q)] hB d_M_pair_59 hc_M_83 (k_M_join hg h8 (RI_code hI (nI 0)).2.1 (md_D hm h8) hp hq hne) (hg.s rfl) (hg.i (by decide)) rfl rfl rfl rfl (Nat.le_of_ble_eq_true rfl) (Nat.le_of_ble_eq_true rfl) (by omega) (by omega) (fun v59 σ₁ hv59 hq59 => ?_)
  obtain ⟨rfl, j1, j2⟩ := hq59
  show pm_Y b _ km_M_pair 62 true [some (pm_R 48), some (pm_I (nI p)), some (pm_I (nI q))] [] g σ₁ τ 0 0 0 0 _
  refine pm_aload_n d_M_pair_62 rfl ?_
  refine pm_aload_n d_M_pair_63 rfl ?_
  refine pm_getr d_M_pair_64 hf_M_16 (hg.s rfl) (hg.i (by decide)) rfl (hg.r (by decide) rfl) ?_
  refine pm_callR (i := 48) (ci := 5) (rest := []) [pm_R 51] hB d_M_pair_67 hc_M_87 (pm_C_up (show 0 + 4 ≤ d + 9 by omega) (k_M_blockingOf hg hB hw (mi_of (RI_code hI (nI 0)).1 (j2 48 1 (by omega)) (fun c x hc => j2 c x (by omega))) j1 (md_R (md_jn hw hm hp hq hne hr) h8))) (hg.s rfl) (hg.i (by decide)) rfl rfl rfl rfl (Nat.le_of_ble_eq_true rfl) (Nat.le_of_ble_eq_true rfl) (by omega) (by omega) ?_
  exact pm_ireturn d_M_pair_70 rfl (fun _ => rfl) (Nat.le_refl _) (Nat.le_refl _) ⟨⟨an_ok, by rw [j2 48 0 (by omega), pm_up_at], RI_pair (RI_code hI (nI 0)) j1 j2, fun c x hc => by rw [j2 c x (by omega), pm_up_ne (by omega)]⟩, rfl⟩
theorem k_M_satisfy (hg : pm_gok 61 g) (hB : pm_base b) (hw : rh_wf n L) (hm : md_ n L dm) (hI : RI_ n L dm σ) : pm_C b (d + 10) km_M_satisfy [pm_R 48] g σ τ 0 0 (pm_Wp (fun v σ' => ∃ r, fp_ (fun l h => wb_ L l h (dm l) (dm h)) n r ∧ v = some (sf_v r) ∧ σ' 48 0 = nI 0 ∧ RI_ n L (sf_d dm r) σ' ∧ kfr_ σ σ') τ) := by
  have h8 := hw.1
  have h1 := hI.1.1
  show pm_Y b (d + 9 + 1) km_M_satisfy 0 false [some (pm_R 48), none, none] [] g σ τ 0 0 0 0 _
  refine pm_aload_n d_M_satisfy_0 rfl ?_
  refine pm_iconst' (nI 0) d_M_satisfy_1 (by decide) ?_
  refine pm_puti d_M_satisfy_2 hp_M_43 (hg.s rfl) (hg.i (by decide)) rfl ?_
  refine pm_iconst' (nI 0) d_M_satisfy_5 (by decide) ?_
  refine pm_istore_n d_M_satisfy_6 (by decide) ?_
  -- at 7: lo=[some (pm_R 48), some (pm_I (nI 0)), none] st=[]
  exact pm_Y_imp (fun v σ' τ' h => by
    obtain ⟨⟨r, r1, r2, r3, r4⟩, rfl⟩ := h
    exact ⟨⟨r, r1, r2, by rw [r4 48 0 (by omega), pm_up_at], RI_pair (RI_code hI (nI 0)) r3 r4, fun c x hc => by rw [r4 c x (by omega), pm_up_ne (by omega)]⟩, rfl⟩) (pm_Y_up (show 0 + 4 ≤ d + 9 + 1 by omega) (l_M_satisfy_7 hg hB hw (RI_code hI (nI 0)).1 (RI_code hI (nI 0)).2.1 (md_R hm h8) (md_D hm h8)))
end MA
