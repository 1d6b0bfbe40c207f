/-! the law's own wrappers: what a call comes to -/
theorem hl_13 : Cond.classLink "RoommateHouseLaw" 13 "java/lang/IllegalArgumentException" ∈ pm_words := pm_mem 332 (by decide +kernel) (by decide +kernel)
theorem hl_19 : Cond.classLink "RoommateHouseLaw" 19 "java/lang/IndexOutOfBoundsException" ∈ pm_words := pm_mem 403 (by decide +kernel) (by decide +kernel)
theorem hl_21 : Cond.classLink "RoommateHouseLaw" 21 "java/lang/IllegalStateException" ∈ pm_words := pm_mem 404 (by decide +kernel) (by decide +kernel)
def sm_ (n : Nat) (L : Nat → List Nat) (dm : Nat → Nat) (n' : Nat) (L' : Nat → List Nat) (dm' : Nat → Nat) : Prop := n' = n ∧ L' = L ∧ dm' = dm
abbrev pR : Type := Nat → Int32 → Nat → (Nat → List Nat) → (Nat → Nat) → Prop
def st_people (n : Nat) (L : Nat → List Nat) (dm : Nat → Nat) (x : Int32) : pR := fun k v n' L' dm' => ((x < 0 ∨ nI 8 < x) ∧ k = 1 ∧ sm_ n L dm n' L' dm') ∨ (∃ m, m ≤ 8 ∧ x = nI m ∧ k = 0 ∧ v = nI n ∧ n' = m ∧ L' = (fun _ => []) ∧ dm' = fun p => p)
def st_1 (n : Nat) (L : Nat → List Nat) (dm : Nat → Nat) (V : Nat → Int32) (x : Int32) : pR := fun k v n' L' dm' => (ob_ n x ∧ k = 1 ∧ sm_ n L dm n' L' dm') ∨ ∃ p, p < n ∧ x = nI p ∧ k = 0 ∧ v = V p ∧ sm_ n L dm n' L' dm'
def st_2 (n : Nat) (L : Nat → List Nat) (dm : Nat → Nat) (V : Nat → Nat → Int32) (x y : Int32) : pR := fun k v n' L' dm' => ((ob_ n x ∨ ob_ n y) ∧ k = 1 ∧ sm_ n L dm n' L' dm') ∨ ∃ p q, p < n ∧ q < n ∧ x = nI p ∧ y = nI q ∧ k = 0 ∧ v = V p q ∧ sm_ n L dm n' L' dm'
def st_put (n : Nat) (L : Nat → List Nat) (dm : Nat → Nat) (x y : Int32) : pR := fun k v n' L' dm' => ((ob_ n x ∨ ob_ n y) ∧ k = 1 ∧ sm_ n L dm n' L' dm') ∨ ∃ p q, p < n ∧ q < n ∧ x = nI p ∧ y = nI q ∧ ((p = q ∧ k = 2 ∧ sm_ n L dm n' L' dm') ∨ (p ≠ q ∧ q ∈ L p ∧ k = 3 ∧ sm_ n L dm n' L' dm') ∨ (p ≠ q ∧ q ∉ L p ∧ k = 0 ∧ v = nI ((L p).length + 1) ∧ n' = n ∧ L' = gw_up L p (L p ++ [q]) ∧ dm' = dm))
def st_pair (n : Nat) (L : Nat → List Nat) (dm : Nat → Nat) (x y : Int32) : pR := fun k v n' L' dm' => ((ob_ n x ∨ ob_ n y) ∧ k = 1 ∧ sm_ n L dm n' L' dm') ∨ ∃ p q, p < n ∧ q < n ∧ x = nI p ∧ y = nI q ∧ ((p = q ∧ k = 2 ∧ sm_ n L dm n' L' dm') ∨ (p ≠ q ∧ ¬ rh_rk L p q < 8 ∧ k = 3 ∧ sm_ n L dm n' L' dm') ∨ (p ≠ q ∧ rh_rk L p q < 8 ∧ k = 0 ∧ v = nI (cb_ (fun l h => wb_ L l h (jn_ dm p q l) (jn_ dm p q h)) n n) ∧ n' = n ∧ L' = L ∧ dm' = jn_ dm p q))
def st_remove (n : Nat) (L : Nat → List Nat) (dm : Nat → Nat) (x y : Int32) : pR := fun k v n' L' dm' => (ob_ n x ∧ k = 1 ∧ sm_ n L dm n' L' dm') ∨ ∃ p, p < n ∧ x = nI p ∧ ((ob_ (L p).length y ∧ k = 1 ∧ sm_ n L dm n' L' dm') ∨ ∃ i, i < (L p).length ∧ y = nI i ∧ k = 0 ∧ v = nI ((L p).getD i 0) ∧ n' = n ∧ L' = gw_up L p (rm_list (L p) i) ∧ dm' = (if dm p = (L p).getD i 0 ∧ ¬ rh_rk (gw_up L p (rm_list (L p) i)) p ((L p).getD i 0) < 8 then ms_ dm p else dm))
def st_move (n : Nat) (L : Nat → List Nat) (dm : Nat → Nat) (x y z : Int32) : pR := fun k v n' L' dm' => (ob_ n x ∧ k = 1 ∧ sm_ n L dm n' L' dm') ∨ ∃ p, p < n ∧ x = nI p ∧ (((ob_ (L p).length y ∨ ob_ (L p).length z) ∧ k = 1 ∧ sm_ n L dm n' L' dm') ∨ ∃ i j, i < (L p).length ∧ j < (L p).length ∧ y = nI i ∧ z = nI j ∧ k = 0 ∧ v = nI ((L p).getD i 0) ∧ n' = n ∧ L' = gw_up L p (mv_list (L p) i j) ∧ dm' = dm)
def st_at (n : Nat) (L : Nat → List Nat) (dm : Nat → Nat) (x y : Int32) : pR := fun k v n' L' dm' => (ob_ n x ∧ k = 1 ∧ sm_ n L dm n' L' dm') ∨ ∃ p, p < n ∧ x = nI p ∧ ((y < 0 ∧ k = 1 ∧ sm_ n L dm n' L' dm') ∨ (∃ i, i < (L p).length ∧ y = nI i ∧ k = 0 ∧ v = nI ((L p).getD i 0) ∧ sm_ n L dm n' L' dm') ∨ (¬ y < 0 ∧ nI (L p).length ≤ y ∧ k = 0 ∧ v = -1 ∧ sm_ n L dm n' L' dm'))
def wq_ (R : pR) (ch : Nat) (σ : pI) : pE := .inl (true, fun v σ' τ' => ∃ k val n' ch' L' dm', R k val n' L' dm' ∧ k ≤ 3 ∧ v = some (nI k) ∧ (k = 0 → τ' 60 0 = val.toInt64) ∧ CI_ n' ch' L' dm' σ' ∧ ch' ≤ ch + 1 ∧ hfr_ σ σ')
theorem sm_r {n : Nat} {L : Nat → List Nat} {dm : Nat → Nat} : sm_ n L dm n L dm := ⟨rfl, rfl, rfl⟩
theorem pm_upL_at {τ : pJ} {i j : Nat} {x : Int64} : pm_upL τ i j x i j = x := if_pos ⟨rfl, rfl⟩
section L1
variable {b : pB} {g : pG} {σ : pI} {τ : pJ} {d n ch p q i j m : Nat} {x y z : Int32} {L : Nat → List Nat} {dm : Nat → Nat}
theorem k_L_people (hg : pm_gok 61 g) (hB : pm_base b) (hX : pm_baseX b) (hA : pm_asg b) (hI : CI_ n ch L dm σ) (hc : ch < 2 ^ 31) : pm_C b (d + 31) km_L_people [pm_R 0, pm_I x, pm_R 60] g σ τ 1 6 (wq_ (st_people n L dm x) ch σ) := by
  have h8 := hI.w.1
  by_cases e : x < 0 ∨ nI 8 < x
  · skip
    show pm_Y b (d + 30 + 1) km_L_people 0 false [some (pm_R 0), some (pm_I x), some (pm_R 60), none] [] g σ τ 0 0 1 6 _
    refine pm_aload_n d_L_people_0 rfl ?_
    refine pm_iconst' (nI 0) d_L_people_1 (by decide) ?_
    refine pm_aload_n d_L_people_2 rfl ?_
    refine pm_iload_n d_L_people_3 rfl ?_
    refine pm_callVC (i := 0) (ci := 0) (rest := [pm_I (nI 0), pm_R 60]) (vs := [pm_I x]) (h := 12) ["java/lang/IllegalArgumentException"] hB hA d_L_people_4 hc_L_7 (x_H_people (hg.le (by decide)) hB hX e) (hg.s rfl) (hg.i (by decide)) rfl rfl rfl rfl (Nat.le_of_ble_eq_true rfl) (Nat.le_of_ble_eq_true rfl) (by omega) (by omega) (fun j a1 a2 a3 a4 Y h1 h2 => by
      cases j with
      | zero => (have h1 : some (0, 9, 12, 13) = some (a1, a2, a3, a4) := h1; have h2 : some "java/lang/IllegalArgumentException" = some Y := h2; cases h1; cases h2; exact ⟨⟨by decide, by decide⟩, by decide, hl_13, Or.inl rfl⟩)
      | succ j =>
        (have h2 : none = some Y := h2; cases h2)) rfl ?_
    refine pm_astore_n_j d_L_people_12 (by decide) ?_
    refine pm_iconst' (nI 1) d_L_people_13 (by decide) ?_
    exact pm_ireturn d_L_people_14 rfl (fun _ => rfl) (by omega) (by omega) ⟨1, 0, n, ch, L, dm, Or.inl ⟨e, rfl, sm_r⟩, by decide, rfl, fun z => absurd z (by decide), hI, Nat.le_succ ch, fun _ _ _ => rfl⟩
  · obtain ⟨m, hm, rfl⟩ := iv_in (n := 9) (by decide) (x := x) (fun z => e (z.imp id (fun z => by
      rw [Int32.le_iff_toInt_le] at z
      rw [Int32.lt_iff_toInt_lt]
      have a1 : (nI 9).toInt = 9 := nI_toInt (by decide)
      have a2 : (nI 8).toInt = 8 := nI_toInt (by decide)
      omega)))
    show pm_Y b (d + 30 + 1) km_L_people 0 false [some (pm_R 0), some (pm_I (nI m)), some (pm_R 60), none] [] g σ τ 0 0 1 6 _
    refine pm_aload_n d_L_people_0 rfl ?_
    refine pm_iconst' (nI 0) d_L_people_1 (by decide) ?_
    refine pm_aload_n d_L_people_2 rfl ?_
    refine pm_iload_n d_L_people_3 rfl ?_
    refine pm_callWp (i := 0) (ci := 0) (rest := [pm_I (nI 0), pm_R 60]) [pm_I (nI m)] hB d_L_people_4 hc_L_7 (k_H_people (hg.le (by decide)) hB hI (m := m) (by omega)) (hg.s rfl) (hg.i (by decide)) rfl rfl rfl rfl (Nat.le_of_ble_eq_true rfl) (Nat.le_of_ble_eq_true rfl) (by omega) (by omega) (fun v4 σ₁ hv4 hq4 => ?_)
    obtain ⟨rfl, h1, h2⟩ := hq4
    show pm_Y b _ km_L_people 7 true [some (pm_R 0), some (pm_I (nI m)), some (pm_R 60), none] [pm_I (nI n), pm_I (nI 0), pm_R 60] g σ₁ τ 0 0 1 6 _
    refine pm_i2l d_L_people_7 ?_
    refine pm_lastore 0 d_L_people_8 (hg.s rfl) (hg.i (by decide)) rfl (by decide) (by decide) ?_
    refine pm_goto 15 d_L_people_9 rfl ?_
    refine pm_iconst' (nI 0) d_L_people_15 (by decide) ?_
    exact pm_ireturn d_L_people_16 rfl (fun _ => rfl) (by omega) (by omega) ⟨0, nI n, m, ch + 1, (fun _ => []), (fun p => p), Or.inr ⟨m, by omega, rfl, rfl, rfl, rfl, rfl, rfl⟩, by decide, rfl, fun _ => pm_upL_at, h1, by omega, h2⟩
theorem k_L_partner (hg : pm_gok 61 g) (hB : pm_base b) (hX : pm_baseX b) (hA : pm_asg b) (hI : CI_ n ch L dm σ) (hc : ch < 2 ^ 31) : pm_C b (d + 31) km_L_partner [pm_R 0, pm_I x, pm_R 60] g σ τ 1 6 (wq_ (st_1 n L dm (fun p => nI (dm p)) x) ch σ) := by
  have h8 := hI.w.1
  by_cases e : ob_ n x
  · skip
    show pm_Y b (d + 30 + 1) km_L_partner 0 false [some (pm_R 0), some (pm_I x), some (pm_R 60), none] [] g σ τ 0 0 1 6 _
    refine pm_aload_n d_L_partner_0 rfl ?_
    refine pm_iconst' (nI 0) d_L_partner_1 (by decide) ?_
    refine pm_aload_n d_L_partner_2 rfl ?_
    refine pm_iload_n d_L_partner_3 rfl ?_
    refine pm_callVC (i := 0) (ci := 0) (rest := [pm_I (nI 0), pm_R 60]) (vs := [pm_I x]) (h := 12) ["java/lang/IndexOutOfBoundsException"] hB hA d_L_partner_4 hc_L_39 (x_H_partner (hg.le (by decide)) hB hI hX e) (hg.s rfl) (hg.i (by decide)) rfl rfl rfl rfl (Nat.le_of_ble_eq_true rfl) (Nat.le_of_ble_eq_true rfl) (by omega) (by omega) (fun j a1 a2 a3 a4 Y h1 h2 => by
      cases j with
      | zero => (have h1 : some (0, 9, 12, 19) = some (a1, a2, a3, a4) := h1; have h2 : some "java/lang/IndexOutOfBoundsException" = some Y := h2; cases h1; cases h2; exact ⟨⟨by decide, by decide⟩, by decide, hl_19, Or.inl rfl⟩)
      | succ j =>
        (have h2 : none = some Y := h2; cases h2)) rfl ?_
    refine pm_astore_n_j d_L_partner_12 (by decide) ?_
    refine pm_iconst' (nI 1) d_L_partner_13 (by decide) ?_
    exact pm_ireturn d_L_partner_14 rfl (fun _ => rfl) (by omega) (by omega) ⟨1, 0, n, ch, L, dm, Or.inl ⟨e, rfl, sm_r⟩, by decide, rfl, fun z => absurd z (by decide), hI, Nat.le_succ ch, fun _ _ _ => rfl⟩
  · obtain ⟨p, hp, rfl⟩ := iv_in (show n < 2 ^ 31 by omega) e
    show pm_Y b (d + 30 + 1) km_L_partner 0 false [some (pm_R 0), some (pm_I (nI p)), some (pm_R 60), none] [] g σ τ 0 0 1 6 _
    refine pm_aload_n d_L_partner_0 rfl ?_
    refine pm_iconst' (nI 0) d_L_partner_1 (by decide) ?_
    refine pm_aload_n d_L_partner_2 rfl ?_
    refine pm_iload_n d_L_partner_3 rfl ?_
    refine pm_callR (i := 0) (ci := 0) (rest := [pm_I (nI 0), pm_R 60]) [pm_I (nI p)] hB d_L_partner_4 hc_L_39 (k_H_partner (hg.le (by decide)) hB hI hp) (hg.s rfl) (hg.i (by decide)) rfl rfl rfl rfl (Nat.le_of_ble_eq_true rfl) (Nat.le_of_ble_eq_true rfl) (by omega) (by omega) ?_
    refine pm_i2l d_L_partner_7 ?_
    refine pm_lastore 0 d_L_partner_8 (hg.s rfl) (hg.i (by decide)) rfl (by decide) (by decide) ?_
    refine pm_goto 15 d_L_partner_9 rfl ?_
    refine pm_iconst' (nI 0) d_L_partner_15 (by decide) ?_
    exact pm_ireturn d_L_partner_16 rfl (fun _ => rfl) (by omega) (by omega) ⟨0, nI (dm p), n, ch, L, dm, Or.inr ⟨p, hp, rfl, rfl, rfl, sm_r⟩, by decide, rfl, fun _ => pm_upL_at, hI, by omega, fun _ _ _ => rfl⟩
theorem k_L_matched (hg : pm_gok 61 g) (hB : pm_base b) (hX : pm_baseX b) (hA : pm_asg b) (hI : CI_ n ch L dm σ) (hc : ch < 2 ^ 31) : pm_C b (d + 31) km_L_matched [pm_R 0, pm_I x, pm_R 60] g σ τ 1 6 (wq_ (st_1 n L dm (fun p => if (SA_ n L).1 = 0 then -1 else nI ((SA_ n L).2.2 p)) x) ch σ) := by
  have h8 := hI.w.1
  by_cases e : ob_ n x
  · skip
    show pm_Y b (d + 30 + 1) km_L_matched 0 false [some (pm_R 0), some (pm_I x), some (pm_R 60), none] [] g σ τ 0 0 1 6 _
    refine pm_aload_n d_L_matched_0 rfl ?_
    refine pm_iconst' (nI 0) d_L_matched_1 (by decide) ?_
    refine pm_aload_n d_L_matched_2 rfl ?_
    refine pm_iload_n d_L_matched_3 rfl ?_
    refine pm_callVC (i := 0) (ci := 0) (rest := [pm_I (nI 0), pm_R 60]) (vs := [pm_I x]) (h := 12) ["java/lang/IndexOutOfBoundsException"] hB hA d_L_matched_4 hc_L_42 (x_H_matched (hg.le (by decide)) hB hI hX e) (hg.s rfl) (hg.i (by decide)) rfl rfl rfl rfl (Nat.le_of_ble_eq_true rfl) (Nat.le_of_ble_eq_true rfl) (by omega) (by omega) (fun j a1 a2 a3 a4 Y h1 h2 => by
      cases j with
      | zero => (have h1 : some (0, 9, 12, 19) = some (a1, a2, a3, a4) := h1; have h2 : some "java/lang/IndexOutOfBoundsException" = some Y := h2; cases h1; cases h2; exact ⟨⟨by decide, by decide⟩, by decide, hl_19, Or.inl rfl⟩)
      | succ j =>
        (have h2 : none = some Y := h2; cases h2)) rfl ?_
    refine pm_astore_n_j d_L_matched_12 (by decide) ?_
    refine pm_iconst' (nI 1) d_L_matched_13 (by decide) ?_
    exact pm_ireturn d_L_matched_14 rfl (fun _ => rfl) (by omega) (by omega) ⟨1, 0, n, ch, L, dm, Or.inl ⟨e, rfl, sm_r⟩, by decide, rfl, fun z => absurd z (by decide), hI, Nat.le_succ ch, fun _ _ _ => rfl⟩
  · obtain ⟨p, hp, rfl⟩ := iv_in (show n < 2 ^ 31 by omega) e
    show pm_Y b (d + 30 + 1) km_L_matched 0 false [some (pm_R 0), some (pm_I (nI p)), some (pm_R 60), none] [] g σ τ 0 0 1 6 _
    refine pm_aload_n d_L_matched_0 rfl ?_
    refine pm_iconst' (nI 0) d_L_matched_1 (by decide) ?_
    refine pm_aload_n d_L_matched_2 rfl ?_
    refine pm_iload_n d_L_matched_3 rfl ?_
    refine pm_callWp (i := 0) (ci := 0) (rest := [pm_I (nI 0), pm_R 60]) [pm_I (nI p)] hB d_L_matched_4 hc_L_42 (k_H_matched (hg.le (by decide)) hB hI hc hp) (hg.s rfl) (hg.i (by decide)) rfl rfl rfl rfl (Nat.le_of_ble_eq_true rfl) (Nat.le_of_ble_eq_true rfl) (by omega) (by omega) (fun v4 σ₁ hv4 hq4 => ?_)
    obtain ⟨rfl, h1, h2⟩ := hq4
    show pm_Y b _ km_L_matched 7 true [some (pm_R 0), some (pm_I (nI p)), some (pm_R 60), none] [pm_I (if (SA_ n L).1 = 0 then -1 else nI ((SA_ n L).2.2 p)), pm_I (nI 0), pm_R 60] g σ₁ τ 0 0 1 6 _
    refine pm_i2l d_L_matched_7 ?_
    refine pm_lastore 0 d_L_matched_8 (hg.s rfl) (hg.i (by decide)) rfl (by decide) (by decide) ?_
    refine pm_goto 15 d_L_matched_9 rfl ?_
    refine pm_iconst' (nI 0) d_L_matched_15 (by decide) ?_
    exact pm_ireturn d_L_matched_16 rfl (fun _ => rfl) (by omega) (by omega) ⟨0, if (SA_ n L).1 = 0 then -1 else nI ((SA_ n L).2.2 p), n, ch, L, dm, Or.inr ⟨p, hp, rfl, rfl, rfl, sm_r⟩, by decide, rfl, fun _ => pm_upL_at, h1, by omega, h2⟩
theorem k_L_party (hg : pm_gok 61 g) (hB : pm_base b) (hX : pm_baseX b) (hA : pm_asg b) (hI : CI_ n ch L dm σ) (hc : ch < 2 ^ 31) : pm_C b (d + 31) km_L_party [pm_R 0, pm_I x, pm_R 60] g σ τ 1 6 (wq_ (st_1 n L dm (fun p => nI (od_ n L p)) x) ch σ) := by
  have h8 := hI.w.1
  by_cases e : ob_ n x
  · skip
    show pm_Y b (d + 30 + 1) km_L_party 0 false [some (pm_R 0), some (pm_I x), some (pm_R 60), none] [] g σ τ 0 0 1 6 _
    refine pm_aload_n d_L_party_0 rfl ?_
    refine pm_iconst' (nI 0) d_L_party_1 (by decide) ?_
    refine pm_aload_n d_L_party_2 rfl ?_
    refine pm_iload_n d_L_party_3 rfl ?_
    refine pm_callVC (i := 0) (ci := 0) (rest := [pm_I (nI 0), pm_R 60]) (vs := [pm_I x]) (h := 12) ["java/lang/IndexOutOfBoundsException"] hB hA d_L_party_4 hc_L_52 (x_H_party (hg.le (by decide)) hB hI hX e) (hg.s rfl) (hg.i (by decide)) rfl rfl rfl rfl (Nat.le_of_ble_eq_true rfl) (Nat.le_of_ble_eq_true rfl) (by omega) (by omega) (fun j a1 a2 a3 a4 Y h1 h2 => by
      cases j with
      | zero => (have h1 : some (0, 9, 12, 19) = some (a1, a2, a3, a4) := h1; have h2 : some "java/lang/IndexOutOfBoundsException" = some Y := h2; cases h1; cases h2; exact ⟨⟨by decide, by decide⟩, by decide, hl_19, Or.inl rfl⟩)
      | succ j =>
        (have h2 : none = some Y := h2; cases h2)) rfl ?_
    refine pm_astore_n_j d_L_party_12 (by decide) ?_
    refine pm_iconst' (nI 1) d_L_party_13 (by decide) ?_
    exact pm_ireturn d_L_party_14 rfl (fun _ => rfl) (by omega) (by omega) ⟨1, 0, n, ch, L, dm, Or.inl ⟨e, rfl, sm_r⟩, by decide, rfl, fun z => absurd z (by decide), hI, Nat.le_succ ch, fun _ _ _ => rfl⟩
  · obtain ⟨p, hp, rfl⟩ := iv_in (show n < 2 ^ 31 by omega) e
    show pm_Y b (d + 30 + 1) km_L_party 0 false [some (pm_R 0), some (pm_I (nI p)), some (pm_R 60), none] [] g σ τ 0 0 1 6 _
    refine pm_aload_n d_L_party_0 rfl ?_
    refine pm_iconst' (nI 0) d_L_party_1 (by decide) ?_
    refine pm_aload_n d_L_party_2 rfl ?_
    refine pm_iload_n d_L_party_3 rfl ?_
    refine pm_callWp (i := 0) (ci := 0) (rest := [pm_I (nI 0), pm_R 60]) [pm_I (nI p)] hB d_L_party_4 hc_L_52 (k_H_party (hg.le (by decide)) hB hI hc hp) (hg.s rfl) (hg.i (by decide)) rfl rfl rfl rfl (Nat.le_of_ble_eq_true rfl) (Nat.le_of_ble_eq_true rfl) (by omega) (by omega) (fun v4 σ₁ hv4 hq4 => ?_)
    obtain ⟨rfl, h1, h2⟩ := hq4
    show pm_Y b _ km_L_party 7 true [some (pm_R 0), some (pm_I (nI p)), some (pm_R 60), none] [pm_I (nI (od_ n L p)), pm_I (nI 0), pm_R 60] g σ₁ τ 0 0 1 6 _
    refine pm_i2l d_L_party_7 ?_
    refine pm_lastore 0 d_L_party_8 (hg.s rfl) (hg.i (by decide)) rfl (by decide) (by decide) ?_
    refine pm_goto 15 d_L_party_9 rfl ?_
    refine pm_iconst' (nI 0) d_L_party_15 (by decide) ?_
    exact pm_ireturn d_L_party_16 rfl (fun _ => rfl) (by omega) (by omega) ⟨0, nI (od_ n L p), n, ch, L, dm, Or.inr ⟨p, hp, rfl, rfl, rfl, sm_r⟩, by decide, rfl, fun _ => pm_upL_at, h1, by omega, h2⟩
theorem k_L_next (hg : pm_gok 61 g) (hB : pm_base b) (hX : pm_baseX b) (hA : pm_asg b) (hI : CI_ n ch L dm σ) (hc : ch < 2 ^ 31) : pm_C b (d + 31) km_L_next [pm_R 0, pm_I x, pm_R 60] g σ τ 1 6 (wq_ (st_1 n L dm (fun p => if od_ n L p = 0 then -1 else nI (F_ n L p)) x) ch σ) := by
  have h8 := hI.w.1
  by_cases e : ob_ n x
  · skip
    show pm_Y b (d + 30 + 1) km_L_next 0 false [some (pm_R 0), some (pm_I x), some (pm_R 60), none] [] g σ τ 0 0 1 6 _
    refine pm_aload_n d_L_next_0 rfl ?_
    refine pm_iconst' (nI 0) d_L_next_1 (by decide) ?_
    refine pm_aload_n d_L_next_2 rfl ?_
    refine pm_iload_n d_L_next_3 rfl ?_
    refine pm_callVC (i := 0) (ci := 0) (rest := [pm_I (nI 0), pm_R 60]) (vs := [pm_I x]) (h := 12) ["java/lang/IndexOutOfBoundsException"] hB hA d_L_next_4 hc_L_55 (x_H_next (hg.le (by decide)) hB hI hX e) (hg.s rfl) (hg.i (by decide)) rfl rfl rfl rfl (Nat.le_of_ble_eq_true rfl) (Nat.le_of_ble_eq_true rfl) (by omega) (by omega) (fun j a1 a2 a3 a4 Y h1 h2 => by
      cases j with
      | zero => (have h1 : some (0, 9, 12, 19) = some (a1, a2, a3, a4) := h1; have h2 : some "java/lang/IndexOutOfBoundsException" = some Y := h2; cases h1; cases h2; exact ⟨⟨by decide, by decide⟩, by decide, hl_19, Or.inl rfl⟩)
      | succ j =>
        (have h2 : none = some Y := h2; cases h2)) rfl ?_
    refine pm_astore_n_j d_L_next_12 (by decide) ?_
    refine pm_iconst' (nI 1) d_L_next_13 (by decide) ?_
    exact pm_ireturn d_L_next_14 rfl (fun _ => rfl) (by omega) (by omega) ⟨1, 0, n, ch, L, dm, Or.inl ⟨e, rfl, sm_r⟩, by decide, rfl, fun z => absurd z (by decide), hI, Nat.le_succ ch, fun _ _ _ => rfl⟩
  · obtain ⟨p, hp, rfl⟩ := iv_in (show n < 2 ^ 31 by omega) e
    show pm_Y b (d + 30 + 1) km_L_next 0 false [some (pm_R 0), some (pm_I (nI p)), some (pm_R 60), none] [] g σ τ 0 0 1 6 _
    refine pm_aload_n d_L_next_0 rfl ?_
    refine pm_iconst' (nI 0) d_L_next_1 (by decide) ?_
    refine pm_aload_n d_L_next_2 rfl ?_
    refine pm_iload_n d_L_next_3 rfl ?_
    refine pm_callWp (i := 0) (ci := 0) (rest := [pm_I (nI 0), pm_R 60]) [pm_I (nI p)] hB d_L_next_4 hc_L_55 (k_H_next (hg.le (by decide)) hB hI hc hp) (hg.s rfl) (hg.i (by decide)) rfl rfl rfl rfl (Nat.le_of_ble_eq_true rfl) (Nat.le_of_ble_eq_true rfl) (by omega) (by omega) (fun v4 σ₁ hv4 hq4 => ?_)
    obtain ⟨rfl, h1, h2⟩ := hq4
    show pm_Y b _ km_L_next 7 true [some (pm_R 0), some (pm_I (nI p)), some (pm_R 60), none] [pm_I (if od_ n L p = 0 then -1 else nI (F_ n L p)), pm_I (nI 0), pm_R 60] g σ₁ τ 0 0 1 6 _
    refine pm_i2l d_L_next_7 ?_
    refine pm_lastore 0 d_L_next_8 (hg.s rfl) (hg.i (by decide)) rfl (by decide) (by decide) ?_
    refine pm_goto 15 d_L_next_9 rfl ?_
    refine pm_iconst' (nI 0) d_L_next_15 (by decide) ?_
    exact pm_ireturn d_L_next_16 rfl (fun _ => rfl) (by omega) (by omega) ⟨0, if od_ n L p = 0 then -1 else nI (F_ n L p), n, ch, L, dm, Or.inr ⟨p, hp, rfl, rfl, rfl, sm_r⟩, by decide, rfl, fun _ => pm_upL_at, h1, by omega, h2⟩
theorem k_L_extreme (hg : pm_gok 61 g) (hB : pm_base b) (hX : pm_baseX b) (hA : pm_asg b) (hI : CI_ n ch L dm σ) (hc : ch < 2 ^ 31) : pm_C b (d + 31) km_L_extreme [pm_R 0, pm_I x, pm_I y, pm_R 60] g σ τ 1 6 (wq_ (st_1 n L dm (fun p => if y = 0 then oI (best_ n L p) else oI (worst_ n L p)) x) ch σ) := by
  have h8 := hI.w.1
  by_cases e : ob_ n x
  · skip
    show pm_Y b (d + 30 + 1) km_L_extreme 0 false [some (pm_R 0), some (pm_I x), some (pm_I y), some (pm_R 60), none] [] g σ τ 0 0 1 6 _
    refine pm_aload_n d_L_extreme_0 rfl ?_
    refine pm_iconst' (nI 0) d_L_extreme_1 (by decide) ?_
    refine pm_aload_n d_L_extreme_2 rfl ?_
    refine pm_iload_n d_L_extreme_3 rfl ?_
    refine pm_iload_n d_L_extreme_4 rfl ?_
    refine pm_callVC (i := 0) (ci := 0) (rest := [pm_I (nI 0), pm_R 60]) (vs := [pm_I x, pm_I y]) (h := 13) ["java/lang/IndexOutOfBoundsException"] hB hA d_L_extreme_5 hc_L_45 (x_H_extreme (hg.le (by decide)) hB hI hX e) (hg.s rfl) (hg.i (by decide)) rfl rfl rfl rfl (Nat.le_of_ble_eq_true rfl) (Nat.le_of_ble_eq_true rfl) (by omega) (by omega) (fun j a1 a2 a3 a4 Y h1 h2 => by
      cases j with
      | zero => (have h1 : some (0, 10, 13, 19) = some (a1, a2, a3, a4) := h1; have h2 : some "java/lang/IndexOutOfBoundsException" = some Y := h2; cases h1; cases h2; exact ⟨⟨by decide, by decide⟩, by decide, hl_19, Or.inl rfl⟩)
      | succ j =>
        (have h2 : none = some Y := h2; cases h2)) rfl ?_
    refine pm_astore_j d_L_extreme_13 (by decide) ?_
    refine pm_iconst' (nI 1) d_L_extreme_15 (by decide) ?_
    exact pm_ireturn d_L_extreme_16 rfl (fun _ => rfl) (by omega) (by omega) ⟨1, 0, n, ch, L, dm, Or.inl ⟨e, rfl, sm_r⟩, by decide, rfl, fun z => absurd z (by decide), hI, Nat.le_succ ch, fun _ _ _ => rfl⟩
  · obtain ⟨p, hp, rfl⟩ := iv_in (show n < 2 ^ 31 by omega) e
    show pm_Y b (d + 30 + 1) km_L_extreme 0 false [some (pm_R 0), some (pm_I (nI p)), some (pm_I y), some (pm_R 60), none] [] g σ τ 0 0 1 6 _
    refine pm_aload_n d_L_extreme_0 rfl ?_
    refine pm_iconst' (nI 0) d_L_extreme_1 (by decide) ?_
    refine pm_aload_n d_L_extreme_2 rfl ?_
    refine pm_iload_n d_L_extreme_3 rfl ?_
    refine pm_iload_n d_L_extreme_4 rfl ?_
    refine pm_callWp (i := 0) (ci := 0) (rest := [pm_I (nI 0), pm_R 60]) [pm_I (nI p), pm_I y] hB d_L_extreme_5 hc_L_45 (k_H_extreme (hg.le (by decide)) hB hI hc hp) (hg.s rfl) (hg.i (by decide)) rfl rfl rfl rfl (Nat.le_of_ble_eq_true rfl) (Nat.le_of_ble_eq_true rfl) (by omega) (by omega) (fun v5 σ₁ hv5 hq5 => ?_)
    obtain ⟨rfl, h1, h2⟩ := hq5
    show pm_Y b _ km_L_extreme 8 true [some (pm_R 0), some (pm_I (nI p)), some (pm_I y), some (pm_R 60), none] [pm_I (if y = 0 then oI (best_ n L p) else oI (worst_ n L p)), pm_I (nI 0), pm_R 60] g σ₁ τ 0 0 1 6 _
    refine pm_i2l d_L_extreme_8 ?_
    refine pm_lastore 0 d_L_extreme_9 (hg.s rfl) (hg.i (by decide)) rfl (by decide) (by decide) ?_
    refine pm_goto 17 d_L_extreme_10 rfl ?_
    refine pm_iconst' (nI 0) d_L_extreme_17 (by decide) ?_
    exact pm_ireturn d_L_extreme_18 rfl (fun _ => rfl) (by omega) (by omega) ⟨0, if y = 0 then oI (best_ n L p) else oI (worst_ n L p), n, ch, L, dm, Or.inr ⟨p, hp, rfl, rfl, rfl, sm_r⟩, by decide, rfl, fun _ => pm_upL_at, h1, by omega, h2⟩
theorem k_L_place (hg : pm_gok 61 g) (hB : pm_base b) (hX : pm_baseX b) (hA : pm_asg b) (hI : CI_ n ch L dm σ) (hc : ch < 2 ^ 31) : pm_C b (d + 31) km_L_place [pm_R 0, pm_I x, pm_I y, pm_R 60] g σ τ 1 6 (wq_ (st_2 n L dm (fun p q => pl_ L p q) x y) ch σ) := by
  have h8 := hI.w.1
  by_cases e : ob_ n x ∨ ob_ n y
  · skip
    show pm_Y b (d + 30 + 1) km_L_place 0 false [some (pm_R 0), some (pm_I x), some (pm_I y), some (pm_R 60), none] [] g σ τ 0 0 1 6 _
    refine pm_aload_n d_L_place_0 rfl ?_
    refine pm_iconst' (nI 0) d_L_place_1 (by decide) ?_
    refine pm_aload_n d_L_place_2 rfl ?_
    refine pm_iload_n d_L_place_3 rfl ?_
    refine pm_iload_n d_L_place_4 rfl ?_
    refine pm_callVC (i := 0) (ci := 0) (rest := [pm_I (nI 0), pm_R 60]) (vs := [pm_I x, pm_I y]) (h := 13) ["java/lang/IndexOutOfBoundsException"] hB hA d_L_place_5 hc_L_33 (x_H_place (hg.le (by decide)) hB hI hX e) (hg.s rfl) (hg.i (by decide)) rfl rfl rfl rfl (Nat.le_of_ble_eq_true rfl) (Nat.le_of_ble_eq_true rfl) (by omega) (by omega) (fun j a1 a2 a3 a4 Y h1 h2 => by
      cases j with
      | zero => (have h1 : some (0, 10, 13, 19) = some (a1, a2, a3, a4) := h1; have h2 : some "java/lang/IndexOutOfBoundsException" = some Y := h2; cases h1; cases h2; exact ⟨⟨by decide, by decide⟩, by decide, hl_19, Or.inl rfl⟩)
      | succ j =>
        (have h2 : none = some Y := h2; cases h2)) rfl ?_
    refine pm_astore_j d_L_place_13 (by decide) ?_
    refine pm_iconst' (nI 1) d_L_place_15 (by decide) ?_
    exact pm_ireturn d_L_place_16 rfl (fun _ => rfl) (by omega) (by omega) ⟨1, 0, n, ch, L, dm, Or.inl ⟨e, rfl, sm_r⟩, by decide, rfl, fun z => absurd z (by decide), hI, Nat.le_succ ch, fun _ _ _ => rfl⟩
  · obtain ⟨p, hp, rfl⟩ := iv_in (show n < 2 ^ 31 by omega) (fun z => e (Or.inl z))
    obtain ⟨q, hq, rfl⟩ := iv_in (show n < 2 ^ 31 by omega) (fun z => e (Or.inr z))
    show pm_Y b (d + 30 + 1) km_L_place 0 false [some (pm_R 0), some (pm_I (nI p)), some (pm_I (nI q)), some (pm_R 60), none] [] g σ τ 0 0 1 6 _
    refine pm_aload_n d_L_place_0 rfl ?_
    refine pm_iconst' (nI 0) d_L_place_1 (by decide) ?_
    refine pm_aload_n d_L_place_2 rfl ?_
    refine pm_iload_n d_L_place_3 rfl ?_
    refine pm_iload_n d_L_place_4 rfl ?_
    refine pm_callR (i := 0) (ci := 0) (rest := [pm_I (nI 0), pm_R 60]) [pm_I (nI p), pm_I (nI q)] hB d_L_place_5 hc_L_33 (k_H_place (hg.le (by decide)) hB hI hp hq) (hg.s rfl) (hg.i (by decide)) rfl rfl rfl rfl (Nat.le_of_ble_eq_true rfl) (Nat.le_of_ble_eq_true rfl) (by omega) (by omega) ?_
    refine pm_i2l d_L_place_8 ?_
    refine pm_lastore 0 d_L_place_9 (hg.s rfl) (hg.i (by decide)) rfl (by decide) (by decide) ?_
    refine pm_goto 17 d_L_place_10 rfl ?_
    refine pm_iconst' (nI 0) d_L_place_17 (by decide) ?_
    exact pm_ireturn d_L_place_18 rfl (fun _ => rfl) (by omega) (by omega) ⟨0, pl_ L p q, n, ch, L, dm, Or.inr ⟨p, q, hp, hq, rfl, rfl, rfl, rfl, sm_r⟩, by decide, rfl, fun _ => pm_upL_at, hI, by omega, fun _ _ _ => rfl⟩
theorem k_L_together (hg : pm_gok 61 g) (hB : pm_base b) (hX : pm_baseX b) (hA : pm_asg b) (hI : CI_ n ch L dm σ) (hc : ch < 2 ^ 31) : pm_C b (d + 31) km_L_together [pm_R 0, pm_I x, pm_I y, pm_R 60] g σ τ 1 6 (wq_ (st_2 n L dm (fun p q => nI ((SA_ n L).2.1 p q)) x y) ch σ) := by
  have h8 := hI.w.1
  by_cases e : ob_ n x ∨ ob_ n y
  · skip
    show pm_Y b (d + 30 + 1) km_L_together 0 false [some (pm_R 0), some (pm_I x), some (pm_I y), some (pm_R 60), none] [] g σ τ 0 0 1 6 _
    refine pm_aload_n d_L_together_0 rfl ?_
    refine pm_iconst' (nI 0) d_L_together_1 (by decide) ?_
    refine pm_aload_n d_L_together_2 rfl ?_
    refine pm_iload_n d_L_together_3 rfl ?_
    refine pm_iload_n d_L_together_4 rfl ?_
    refine pm_callVC (i := 0) (ci := 0) (rest := [pm_I (nI 0), pm_R 60]) (vs := [pm_I x, pm_I y]) (h := 13) ["java/lang/IndexOutOfBoundsException"] hB hA d_L_together_5 hc_L_49 (x_H_together (hg.le (by decide)) hB hI hX e) (hg.s rfl) (hg.i (by decide)) rfl rfl rfl rfl (Nat.le_of_ble_eq_true rfl) (Nat.le_of_ble_eq_true rfl) (by omega) (by omega) (fun j a1 a2 a3 a4 Y h1 h2 => by
      cases j with
      | zero => (have h1 : some (0, 10, 13, 19) = some (a1, a2, a3, a4) := h1; have h2 : some "java/lang/IndexOutOfBoundsException" = some Y := h2; cases h1; cases h2; exact ⟨⟨by decide, by decide⟩, by decide, hl_19, Or.inl rfl⟩)
      | succ j =>
        (have h2 : none = some Y := h2; cases h2)) rfl ?_
    refine pm_astore_j d_L_together_13 (by decide) ?_
    refine pm_iconst' (nI 1) d_L_together_15 (by decide) ?_
    exact pm_ireturn d_L_together_16 rfl (fun _ => rfl) (by omega) (by omega) ⟨1, 0, n, ch, L, dm, Or.inl ⟨e, rfl, sm_r⟩, by decide, rfl, fun z => absurd z (by decide), hI, Nat.le_succ ch, fun _ _ _ => rfl⟩
  · obtain ⟨p, hp, rfl⟩ := iv_in (show n < 2 ^ 31 by omega) (fun z => e (Or.inl z))
    obtain ⟨q, hq, rfl⟩ := iv_in (show n < 2 ^ 31 by omega) (fun z => e (Or.inr z))
    show pm_Y b (d + 30 + 1) km_L_together 0 false [some (pm_R 0), some (pm_I (nI p)), some (pm_I (nI q)), some (pm_R 60), none] [] g σ τ 0 0 1 6 _
    refine pm_aload_n d_L_together_0 rfl ?_
    refine pm_iconst' (nI 0) d_L_together_1 (by decide) ?_
    refine pm_aload_n d_L_together_2 rfl ?_
    refine pm_iload_n d_L_together_3 rfl ?_
    refine pm_iload_n d_L_together_4 rfl ?_
    refine pm_callWp (i := 0) (ci := 0) (rest := [pm_I (nI 0), pm_R 60]) [pm_I (nI p), pm_I (nI q)] hB d_L_together_5 hc_L_49 (k_H_together (hg.le (by decide)) hB hI hc hp hq) (hg.s rfl) (hg.i (by decide)) rfl rfl rfl rfl (Nat.le_of_ble_eq_true rfl) (Nat.le_of_ble_eq_true rfl) (by omega) (by omega) (fun v5 σ₁ hv5 hq5 => ?_)
    obtain ⟨rfl, h1, h2⟩ := hq5
    show pm_Y b _ km_L_together 8 true [some (pm_R 0), some (pm_I (nI p)), some (pm_I (nI q)), some (pm_R 60), none] [pm_I (nI ((SA_ n L).2.1 p q)), pm_I (nI 0), pm_R 60] g σ₁ τ 0 0 1 6 _
    refine pm_i2l d_L_together_8 ?_
    refine pm_lastore 0 d_L_together_9 (hg.s rfl) (hg.i (by decide)) rfl (by decide) (by decide) ?_
    refine pm_goto 17 d_L_together_10 rfl ?_
    refine pm_iconst' (nI 0) d_L_together_17 (by decide) ?_
    exact pm_ireturn d_L_together_18 rfl (fun _ => rfl) (by omega) (by omega) ⟨0, nI ((SA_ n L).2.1 p q), n, ch, L, dm, Or.inr ⟨p, q, hp, hq, rfl, rfl, rfl, rfl, sm_r⟩, by decide, rfl, fun _ => pm_upL_at, h1, by omega, h2⟩
theorem k_L_put (hg : pm_gok 61 g) (hB : pm_base b) (hX : pm_baseX b) (hA : pm_asg b) (hI : CI_ n ch L dm σ) (hc : ch < 2 ^ 31) : pm_C b (d + 31) km_L_put [pm_R 0, pm_I x, pm_I y, pm_R 60] g σ τ 1 6 (wq_ (st_put n L dm x y) ch σ) := by
  have h8 := hI.w.1
  by_cases e : ob_ n x ∨ ob_ n y
  · skip
    show pm_Y b (d + 30 + 1) km_L_put 0 false [some (pm_R 0), some (pm_I x), some (pm_I y), some (pm_R 60), none] [] g σ τ 0 0 1 6 _
    refine pm_aload_n d_L_put_0 rfl ?_
    refine pm_iconst' (nI 0) d_L_put_1 (by decide) ?_
    refine pm_aload_n d_L_put_2 rfl ?_
    refine pm_iload_n d_L_put_3 rfl ?_
    refine pm_iload_n d_L_put_4 rfl ?_
    refine pm_callVC (i := 0) (ci := 0) (rest := [pm_I (nI 0), pm_R 60]) (vs := [pm_I x, pm_I y]) (h := 13) ["java/lang/IndexOutOfBoundsException"] hB hA d_L_put_5 hc_L_15 (x_H_put (hg.le (by decide)) hB hI hX e) (hg.s rfl) (hg.i (by decide)) rfl rfl rfl rfl (Nat.le_of_ble_eq_true rfl) (Nat.le_of_ble_eq_true rfl) (by omega) (by omega) (fun j a1 a2 a3 a4 Y h1 h2 => by
      cases j with
      | zero => (have h1 : some (0, 10, 13, 19) = some (a1, a2, a3, a4) := h1; have h2 : some "java/lang/IndexOutOfBoundsException" = some Y := h2; cases h1; cases h2; exact ⟨⟨by decide, by decide⟩, by decide, hl_19, Or.inl rfl⟩)
      | succ j =>
        (have h2 : none = some Y := h2; cases h2)) rfl ?_
    refine pm_astore_j d_L_put_13 (by decide) ?_
    refine pm_iconst' (nI 1) d_L_put_15 (by decide) ?_
    exact pm_ireturn d_L_put_16 rfl (fun _ => rfl) (by omega) (by omega) ⟨1, 0, n, ch, L, dm, Or.inl ⟨e, rfl, sm_r⟩, by decide, rfl, fun z => absurd z (by decide), hI, Nat.le_succ ch, fun _ _ _ => rfl⟩
  · obtain ⟨p, hp, rfl⟩ := iv_in (show n < 2 ^ 31 by omega) (fun z => e (Or.inl z))
    obtain ⟨q, hq, rfl⟩ := iv_in (show n < 2 ^ 31 by omega) (fun z => e (Or.inr z))
    by_cases e2 : p = q
    · subst e2
      show pm_Y b (d + 30 + 1) km_L_put 0 false [some (pm_R 0), some (pm_I (nI p)), some (pm_I (nI p)), some (pm_R 60), none] [] g σ τ 0 0 1 6 _
      refine pm_aload_n d_L_put_0 rfl ?_
      refine pm_iconst' (nI 0) d_L_put_1 (by decide) ?_
      refine pm_aload_n d_L_put_2 rfl ?_
      refine pm_iload_n d_L_put_3 rfl ?_
      refine pm_iload_n d_L_put_4 rfl ?_
      refine pm_callVC (i := 0) (ci := 0) (rest := [pm_I (nI 0), pm_R 60]) (vs := [pm_I (nI p), pm_I (nI p)]) (h := 17) ["java/lang/IndexOutOfBoundsException", "java/lang/IllegalArgumentException"] hB hA d_L_put_5 hc_L_15 (x_H_put2 (hg.le (by decide)) hB hI hX hp) (hg.s rfl) (hg.i (by decide)) rfl rfl rfl rfl (Nat.le_of_ble_eq_true rfl) (Nat.le_of_ble_eq_true rfl) (by omega) (by omega) (fun j a1 a2 a3 a4 Y h1 h2 => by
        cases j with
        | zero => (have h1 : some (0, 10, 13, 19) = some (a1, a2, a3, a4) := h1; have h2 : some "java/lang/IndexOutOfBoundsException" = some Y := h2; cases h1; cases h2; exact ⟨⟨by decide, by decide⟩, by decide, hl_19, Or.inr (by unfold pm_no; decide)⟩)
        | succ j =>
          cases j with
          | zero => (have h1 : some (0, 10, 17, 13) = some (a1, a2, a3, a4) := h1; have h2 : some "java/lang/IllegalArgumentException" = some Y := h2; cases h1; cases h2; exact ⟨⟨by decide, by decide⟩, by decide, hl_13, Or.inl rfl⟩)
          | succ j =>
            (have h2 : none = some Y := h2; cases h2)) rfl ?_
      refine pm_astore_j d_L_put_17 (by decide) ?_
      refine pm_iconst' (nI 2) d_L_put_19 (by decide) ?_
      exact pm_ireturn d_L_put_20 rfl (fun _ => rfl) (by omega) (by omega) ⟨2, 0, n, ch, L, dm, Or.inr ⟨p, p, hp, hq, rfl, rfl, Or.inl ⟨rfl, rfl, sm_r⟩⟩, by decide, rfl, fun z => absurd z (by decide), hI, Nat.le_succ ch, fun _ _ _ => rfl⟩
    by_cases e3 : q ∈ L p
    · skip
      show pm_Y b (d + 30 + 1) km_L_put 0 false [some (pm_R 0), some (pm_I (nI p)), some (pm_I (nI q)), some (pm_R 60), none] [] g σ τ 0 0 1 6 _
      refine pm_aload_n d_L_put_0 rfl ?_
      refine pm_iconst' (nI 0) d_L_put_1 (by decide) ?_
      refine pm_aload_n d_L_put_2 rfl ?_
      refine pm_iload_n d_L_put_3 rfl ?_
      refine pm_iload_n d_L_put_4 rfl ?_
      refine pm_callVC (i := 0) (ci := 0) (rest := [pm_I (nI 0), pm_R 60]) (vs := [pm_I (nI p), pm_I (nI q)]) (h := 21) ["java/lang/IndexOutOfBoundsException", "java/lang/IllegalArgumentException", "java/lang/IllegalStateException"] hB hA d_L_put_5 hc_L_15 (x_H_put3 (hg.le (by decide)) hB hI hX hp hq e2 e3) (hg.s rfl) (hg.i (by decide)) rfl rfl rfl rfl (Nat.le_of_ble_eq_true rfl) (Nat.le_of_ble_eq_true rfl) (by omega) (by omega) (fun j a1 a2 a3 a4 Y h1 h2 => by
        cases j with
        | zero => (have h1 : some (0, 10, 13, 19) = some (a1, a2, a3, a4) := h1; have h2 : some "java/lang/IndexOutOfBoundsException" = some Y := h2; cases h1; cases h2; exact ⟨⟨by decide, by decide⟩, by decide, hl_19, Or.inr (by unfold pm_no; decide)⟩)
        | succ j =>
          cases j with
          | zero => (have h1 : some (0, 10, 17, 13) = some (a1, a2, a3, a4) := h1; have h2 : some "java/lang/IllegalArgumentException" = some Y := h2; cases h1; cases h2; exact ⟨⟨by decide, by decide⟩, by decide, hl_13, Or.inr (by unfold pm_no; decide)⟩)
          | succ j =>
            cases j with
            | zero => (have h1 : some (0, 10, 21, 21) = some (a1, a2, a3, a4) := h1; have h2 : some "java/lang/IllegalStateException" = some Y := h2; cases h1; cases h2; exact ⟨⟨by decide, by decide⟩, by decide, hl_21, Or.inl rfl⟩)
            | succ j =>
              (have h2 : none = some Y := h2; cases h2)) rfl ?_
      refine pm_astore_j d_L_put_21 (by decide) ?_
      refine pm_iconst' (nI 3) d_L_put_23 (by decide) ?_
      exact pm_ireturn d_L_put_24 rfl (fun _ => rfl) (by omega) (by omega) ⟨3, 0, n, ch, L, dm, Or.inr ⟨p, q, hp, hq, rfl, rfl, Or.inr (Or.inl ⟨e2, e3, rfl, sm_r⟩)⟩, by decide, rfl, fun z => absurd z (by decide), hI, Nat.le_succ ch, fun _ _ _ => rfl⟩
    · skip
      show pm_Y b (d + 30 + 1) km_L_put 0 false [some (pm_R 0), some (pm_I (nI p)), some (pm_I (nI q)), some (pm_R 60), none] [] g σ τ 0 0 1 6 _
      refine pm_aload_n d_L_put_0 rfl ?_
      refine pm_iconst' (nI 0) d_L_put_1 (by decide) ?_
      refine pm_aload_n d_L_put_2 rfl ?_
      refine pm_iload_n d_L_put_3 rfl ?_
      refine pm_iload_n d_L_put_4 rfl ?_
      refine pm_callWp (i := 0) (ci := 0) (rest := [pm_I (nI 0), pm_R 60]) [pm_I (nI p), pm_I (nI q)] hB d_L_put_5 hc_L_15 (k_H_put (hg.le (by decide)) hB hI hp hq e2 e3) (hg.s rfl) (hg.i (by decide)) rfl rfl rfl rfl (Nat.le_of_ble_eq_true rfl) (Nat.le_of_ble_eq_true rfl) (by omega) (by omega) (fun v5 σ₁ hv5 hq5 => ?_)
      obtain ⟨rfl, h1, h2⟩ := hq5
      show pm_Y b _ km_L_put 8 true [some (pm_R 0), some (pm_I (nI p)), some (pm_I (nI q)), some (pm_R 60), none] [pm_I (nI ((L p).length + 1)), pm_I (nI 0), pm_R 60] g σ₁ τ 0 0 1 6 _
      refine pm_i2l d_L_put_8 ?_
      refine pm_lastore 0 d_L_put_9 (hg.s rfl) (hg.i (by decide)) rfl (by decide) (by decide) ?_
      refine pm_goto 25 d_L_put_10 rfl ?_
      refine pm_iconst' (nI 0) d_L_put_25 (by decide) ?_
      exact pm_ireturn d_L_put_26 rfl (fun _ => rfl) (by omega) (by omega) ⟨0, nI ((L p).length + 1), n, ch + 1, gw_up L p (L p ++ [q]), dm, Or.inr ⟨p, q, hp, hq, rfl, rfl, Or.inr (Or.inr ⟨e2, e3, rfl, rfl, rfl, rfl, rfl⟩)⟩, by decide, rfl, fun _ => pm_upL_at, h1, by omega, h2⟩
theorem k_L_pair (hg : pm_gok 61 g) (hB : pm_base b) (hX : pm_baseX b) (hA : pm_asg b) (hI : CI_ n ch L dm σ) (hc : ch < 2 ^ 31) : pm_C b (d + 31) km_L_pair [pm_R 0, pm_I x, pm_I y, pm_R 60] g σ τ 1 6 (wq_ (st_pair n L dm x y) ch σ) := by
  have h8 := hI.w.1
  by_cases e : ob_ n x ∨ ob_ n y
  · skip
    show pm_Y b (d + 30 + 1) km_L_pair 0 false [some (pm_R 0), some (pm_I x), some (pm_I y), some (pm_R 60), none] [] g σ τ 0 0 1 6 _
    refine pm_aload_n d_L_pair_0 rfl ?_
    refine pm_iconst' (nI 0) d_L_pair_1 (by decide) ?_
    refine pm_aload_n d_L_pair_2 rfl ?_
    refine pm_iload_n d_L_pair_3 rfl ?_
    refine pm_iload_n d_L_pair_4 rfl ?_
    refine pm_callVC (i := 0) (ci := 0) (rest := [pm_I (nI 0), pm_R 60]) (vs := [pm_I x, pm_I y]) (h := 13) ["java/lang/IndexOutOfBoundsException"] hB hA d_L_pair_5 hc_L_36 (x_H_pair (hg.le (by decide)) hB hI hX e) (hg.s rfl) (hg.i (by decide)) rfl rfl rfl rfl (Nat.le_of_ble_eq_true rfl) (Nat.le_of_ble_eq_true rfl) (by omega) (by omega) (fun j a1 a2 a3 a4 Y h1 h2 => by
      cases j with
      | zero => (have h1 : some (0, 10, 13, 19) = some (a1, a2, a3, a4) := h1; have h2 : some "java/lang/IndexOutOfBoundsException" = some Y := h2; cases h1; cases h2; exact ⟨⟨by decide, by decide⟩, by decide, hl_19, Or.inl rfl⟩)
      | succ j =>
        (have h2 : none = some Y := h2; cases h2)) rfl ?_
    refine pm_astore_j d_L_pair_13 (by decide) ?_
    refine pm_iconst' (nI 1) d_L_pair_15 (by decide) ?_
    exact pm_ireturn d_L_pair_16 rfl (fun _ => rfl) (by omega) (by omega) ⟨1, 0, n, ch, L, dm, Or.inl ⟨e, rfl, sm_r⟩, by decide, rfl, fun z => absurd z (by decide), hI, Nat.le_succ ch, fun _ _ _ => rfl⟩
  · obtain ⟨p, hp, rfl⟩ := iv_in (show n < 2 ^ 31 by omega) (fun z => e (Or.inl z))
    obtain ⟨q, hq, rfl⟩ := iv_in (show n < 2 ^ 31 by omega) (fun z => e (Or.inr z))
    by_cases e2 : p = q
    · subst e2
      show pm_Y b (d + 30 + 1) km_L_pair 0 false [some (pm_R 0), some (pm_I (nI p)), some (pm_I (nI p)), some (pm_R 60), none] [] g σ τ 0 0 1 6 _
      refine pm_aload_n d_L_pair_0 rfl ?_
      refine pm_iconst' (nI 0) d_L_pair_1 (by decide) ?_
      refine pm_aload_n d_L_pair_2 rfl ?_
      refine pm_iload_n d_L_pair_3 rfl ?_
      refine pm_iload_n d_L_pair_4 rfl ?_
      refine pm_callVC (i := 0) (ci := 0) (rest := [pm_I (nI 0), pm_R 60]) (vs := [pm_I (nI p), pm_I (nI p)]) (h := 17) ["java/lang/IndexOutOfBoundsException", "java/lang/IllegalArgumentException"] hB hA d_L_pair_5 hc_L_36 (x_H_pair2 (hg.le (by decide)) hB hI hX hp) (hg.s rfl) (hg.i (by decide)) rfl rfl rfl rfl (Nat.le_of_ble_eq_true rfl) (Nat.le_of_ble_eq_true rfl) (by omega) (by omega) (fun j a1 a2 a3 a4 Y h1 h2 => by
        cases j with
        | zero => (have h1 : some (0, 10, 13, 19) = some (a1, a2, a3, a4) := h1; have h2 : some "java/lang/IndexOutOfBoundsException" = some Y := h2; cases h1; cases h2; exact ⟨⟨by decide, by decide⟩, by decide, hl_19, Or.inr (by unfold pm_no; decide)⟩)
        | succ j =>
          cases j with
          | zero => (have h1 : some (0, 10, 17, 13) = some (a1, a2, a3, a4) := h1; have h2 : some "java/lang/IllegalArgumentException" = some Y := h2; cases h1; cases h2; exact ⟨⟨by decide, by decide⟩, by decide, hl_13, Or.inl rfl⟩)
          | succ j =>
            (have h2 : none = some Y := h2; cases h2)) rfl ?_
      refine pm_astore_j d_L_pair_17 (by decide) ?_
      refine pm_iconst' (nI 2) d_L_pair_19 (by decide) ?_
      exact pm_ireturn d_L_pair_20 rfl (fun _ => rfl) (by omega) (by omega) ⟨2, 0, n, ch, L, dm, Or.inr ⟨p, p, hp, hq, rfl, rfl, Or.inl ⟨rfl, rfl, sm_r⟩⟩, by decide, rfl, fun z => absurd z (by decide), hI, Nat.le_succ ch, fun _ _ _ => rfl⟩
    by_cases e3 : rh_rk L p q < 8
    · skip
      show pm_Y b (d + 30 + 1) km_L_pair 0 false [some (pm_R 0), some (pm_I (nI p)), some (pm_I (nI q)), some (pm_R 60), none] [] g σ τ 0 0 1 6 _
      refine pm_aload_n d_L_pair_0 rfl ?_
      refine pm_iconst' (nI 0) d_L_pair_1 (by decide) ?_
      refine pm_aload_n d_L_pair_2 rfl ?_
      refine pm_iload_n d_L_pair_3 rfl ?_
      refine pm_iload_n d_L_pair_4 rfl ?_
      refine pm_callWp (i := 0) (ci := 0) (rest := [pm_I (nI 0), pm_R 60]) [pm_I (nI p), pm_I (nI q)] hB d_L_pair_5 hc_L_36 (k_H_pair (hg.le (by decide)) hB hI hp hq e2 e3) (hg.s rfl) (hg.i (by decide)) rfl rfl rfl rfl (Nat.le_of_ble_eq_true rfl) (Nat.le_of_ble_eq_true rfl) (by omega) (by omega) (fun v5 σ₁ hv5 hq5 => ?_)
      obtain ⟨rfl, h1, h2⟩ := hq5
      show pm_Y b _ km_L_pair 8 true [some (pm_R 0), some (pm_I (nI p)), some (pm_I (nI q)), some (pm_R 60), none] [pm_I (nI (cb_ (fun l h => wb_ L l h (jn_ dm p q l) (jn_ dm p q h)) n n)), pm_I (nI 0), pm_R 60] g σ₁ τ 0 0 1 6 _
      refine pm_i2l d_L_pair_8 ?_
      refine pm_lastore 0 d_L_pair_9 (hg.s rfl) (hg.i (by decide)) rfl (by decide) (by decide) ?_
      refine pm_goto 25 d_L_pair_10 rfl ?_
      refine pm_iconst' (nI 0) d_L_pair_25 (by decide) ?_
      exact pm_ireturn d_L_pair_26 rfl (fun _ => rfl) (by omega) (by omega) ⟨0, nI (cb_ (fun l h => wb_ L l h (jn_ dm p q l) (jn_ dm p q h)) n n), n, ch, L, jn_ dm p q, Or.inr ⟨p, q, hp, hq, rfl, rfl, Or.inr (Or.inr ⟨e2, e3, rfl, rfl, rfl, rfl, rfl⟩)⟩, by decide, rfl, fun _ => pm_upL_at, h1, by omega, h2⟩
    · skip
      show pm_Y b (d + 30 + 1) km_L_pair 0 false [some (pm_R 0), some (pm_I (nI p)), some (pm_I (nI q)), some (pm_R 60), none] [] g σ τ 0 0 1 6 _
      refine pm_aload_n d_L_pair_0 rfl ?_
      refine pm_iconst' (nI 0) d_L_pair_1 (by decide) ?_
      refine pm_aload_n d_L_pair_2 rfl ?_
      refine pm_iload_n d_L_pair_3 rfl ?_
      refine pm_iload_n d_L_pair_4 rfl ?_
      refine pm_callVC (i := 0) (ci := 0) (rest := [pm_I (nI 0), pm_R 60]) (vs := [pm_I (nI p), pm_I (nI q)]) (h := 21) ["java/lang/IndexOutOfBoundsException", "java/lang/IllegalArgumentException", "java/lang/IllegalStateException"] hB hA d_L_pair_5 hc_L_36 (x_H_pair3 (hg.le (by decide)) hB hI hX hp hq e2 e3) (hg.s rfl) (hg.i (by decide)) rfl rfl rfl rfl (Nat.le_of_ble_eq_true rfl) (Nat.le_of_ble_eq_true rfl) (by omega) (by omega) (fun j a1 a2 a3 a4 Y h1 h2 => by
        cases j with
        | zero => (have h1 : some (0, 10, 13, 19) = some (a1, a2, a3, a4) := h1; have h2 : some "java/lang/IndexOutOfBoundsException" = some Y := h2; cases h1; cases h2; exact ⟨⟨by decide, by decide⟩, by decide, hl_19, Or.inr (by unfold pm_no; decide)⟩)
        | succ j =>
          cases j with
          | zero => (have h1 : some (0, 10, 17, 13) = some (a1, a2, a3, a4) := h1; have h2 : some "java/lang/IllegalArgumentException" = some Y := h2; cases h1; cases h2; exact ⟨⟨by decide, by decide⟩, by decide, hl_13, Or.inr (by unfold pm_no; decide)⟩)
          | succ j =>
            cases j with
            | zero => (have h1 : some (0, 10, 21, 21) = some (a1, a2, a3, a4) := h1; have h2 : some "java/lang/IllegalStateException" = some Y := h2; cases h1; cases h2; exact ⟨⟨by decide, by decide⟩, by decide, hl_21, Or.inl rfl⟩)
            | succ j =>
              (have h2 : none = some Y := h2; cases h2)) rfl ?_
      refine pm_astore_j d_L_pair_21 (by decide) ?_
      refine pm_iconst' (nI 3) d_L_pair_23 (by decide) ?_
      exact pm_ireturn d_L_pair_24 rfl (fun _ => rfl) (by omega) (by omega) ⟨3, 0, n, ch, L, dm, Or.inr ⟨p, q, hp, hq, rfl, rfl, Or.inr (Or.inl ⟨e2, e3, rfl, sm_r⟩)⟩, by decide, rfl, fun z => absurd z (by decide), hI, Nat.le_succ ch, fun _ _ _ => rfl⟩
theorem k_L_remove (hg : pm_gok 61 g) (hB : pm_base b) (hX : pm_baseX b) (hA : pm_asg b) (hI : CI_ n ch L dm σ) (hc : ch < 2 ^ 31) : pm_C b (d + 31) km_L_remove [pm_R 0, pm_I x, pm_I y, pm_R 60] g σ τ 1 6 (wq_ (st_remove n L dm x y) ch σ) := by
  have h8 := hI.w.1
  by_cases e : ob_ n x
  · skip
    show pm_Y b (d + 30 + 1) km_L_remove 0 false [some (pm_R 0), some (pm_I x), some (pm_I y), some (pm_R 60), none] [] g σ τ 0 0 1 6 _
    refine pm_aload_n d_L_remove_0 rfl ?_
    refine pm_iconst' (nI 0) d_L_remove_1 (by decide) ?_
    refine pm_aload_n d_L_remove_2 rfl ?_
    refine pm_iload_n d_L_remove_3 rfl ?_
    refine pm_iload_n d_L_remove_4 rfl ?_
    refine pm_callVC (i := 0) (ci := 0) (rest := [pm_I (nI 0), pm_R 60]) (vs := [pm_I x, pm_I y]) (h := 13) ["java/lang/IndexOutOfBoundsException"] hB hA d_L_remove_5 hc_L_23 (x_H_remove (hg.le (by decide)) hB hI hX e) (hg.s rfl) (hg.i (by decide)) rfl rfl rfl rfl (Nat.le_of_ble_eq_true rfl) (Nat.le_of_ble_eq_true rfl) (by omega) (by omega) (fun j a1 a2 a3 a4 Y h1 h2 => by
      cases j with
      | zero => (have h1 : some (0, 10, 13, 19) = some (a1, a2, a3, a4) := h1; have h2 : some "java/lang/IndexOutOfBoundsException" = some Y := h2; cases h1; cases h2; exact ⟨⟨by decide, by decide⟩, by decide, hl_19, Or.inl rfl⟩)
      | succ j =>
        (have h2 : none = some Y := h2; cases h2)) rfl ?_
    refine pm_astore_j d_L_remove_13 (by decide) ?_
    refine pm_iconst' (nI 1) d_L_remove_15 (by decide) ?_
    exact pm_ireturn d_L_remove_16 rfl (fun _ => rfl) (by omega) (by omega) ⟨1, 0, n, ch, L, dm, Or.inl ⟨e, rfl, sm_r⟩, by decide, rfl, fun z => absurd z (by decide), hI, Nat.le_succ ch, fun _ _ _ => rfl⟩
  · obtain ⟨p, hp, rfl⟩ := iv_in (show n < 2 ^ 31 by omega) e
    have h7 := wf_len hI.w p
    by_cases e2 : ob_ (L p).length y
    · skip
      show pm_Y b (d + 30 + 1) km_L_remove 0 false [some (pm_R 0), some (pm_I (nI p)), some (pm_I y), some (pm_R 60), none] [] g σ τ 0 0 1 6 _
      refine pm_aload_n d_L_remove_0 rfl ?_
      refine pm_iconst' (nI 0) d_L_remove_1 (by decide) ?_
      refine pm_aload_n d_L_remove_2 rfl ?_
      refine pm_iload_n d_L_remove_3 rfl ?_
      refine pm_iload_n d_L_remove_4 rfl ?_
      refine pm_callVC (i := 0) (ci := 0) (rest := [pm_I (nI 0), pm_R 60]) (vs := [pm_I (nI p), pm_I y]) (h := 13) ["java/lang/IndexOutOfBoundsException"] hB hA d_L_remove_5 hc_L_23 (x_H_remove2 (hg.le (by decide)) hB hI hX hp e2) (hg.s rfl) (hg.i (by decide)) rfl rfl rfl rfl (Nat.le_of_ble_eq_true rfl) (Nat.le_of_ble_eq_true rfl) (by omega) (by omega) (fun j a1 a2 a3 a4 Y h1 h2 => by
        cases j with
        | zero => (have h1 : some (0, 10, 13, 19) = some (a1, a2, a3, a4) := h1; have h2 : some "java/lang/IndexOutOfBoundsException" = some Y := h2; cases h1; cases h2; exact ⟨⟨by decide, by decide⟩, by decide, hl_19, Or.inl rfl⟩)
        | succ j =>
          (have h2 : none = some Y := h2; cases h2)) rfl ?_
      refine pm_astore_j d_L_remove_13 (by decide) ?_
      refine pm_iconst' (nI 1) d_L_remove_15 (by decide) ?_
      exact pm_ireturn d_L_remove_16 rfl (fun _ => rfl) (by omega) (by omega) ⟨1, 0, n, ch, L, dm, Or.inr ⟨p, hp, rfl, Or.inl ⟨e2, rfl, sm_r⟩⟩, by decide, rfl, fun z => absurd z (by decide), hI, Nat.le_succ ch, fun _ _ _ => rfl⟩
    · obtain ⟨i, hi, rfl⟩ := iv_in (show (L p).length < 2 ^ 31 by omega) e2
      show pm_Y b (d + 30 + 1) km_L_remove 0 false [some (pm_R 0), some (pm_I (nI p)), some (pm_I (nI i)), some (pm_R 60), none] [] g σ τ 0 0 1 6 _
      refine pm_aload_n d_L_remove_0 rfl ?_
      refine pm_iconst' (nI 0) d_L_remove_1 (by decide) ?_
      refine pm_aload_n d_L_remove_2 rfl ?_
      refine pm_iload_n d_L_remove_3 rfl ?_
      refine pm_iload_n d_L_remove_4 rfl ?_
      refine pm_callWp (i := 0) (ci := 0) (rest := [pm_I (nI 0), pm_R 60]) [pm_I (nI p), pm_I (nI i)] hB d_L_remove_5 hc_L_23 (k_H_remove (hg.le (by decide)) hB hI hp hi) (hg.s rfl) (hg.i (by decide)) rfl rfl rfl rfl (Nat.le_of_ble_eq_true rfl) (Nat.le_of_ble_eq_true rfl) (by omega) (by omega) (fun v5 σ₁ hv5 hq5 => ?_)
      obtain ⟨rfl, h1, h2⟩ := hq5
      show pm_Y b _ km_L_remove 8 true [some (pm_R 0), some (pm_I (nI p)), some (pm_I (nI i)), some (pm_R 60), none] [pm_I (nI ((L p).getD i 0)), pm_I (nI 0), pm_R 60] g σ₁ τ 0 0 1 6 _
      refine pm_i2l d_L_remove_8 ?_
      refine pm_lastore 0 d_L_remove_9 (hg.s rfl) (hg.i (by decide)) rfl (by decide) (by decide) ?_
      refine pm_goto 17 d_L_remove_10 rfl ?_
      refine pm_iconst' (nI 0) d_L_remove_17 (by decide) ?_
      exact pm_ireturn d_L_remove_18 rfl (fun _ => rfl) (by omega) (by omega) ⟨0, nI ((L p).getD i 0), n, ch + 1, gw_up L p (rm_list (L p) i), _, Or.inr ⟨p, hp, rfl, Or.inr ⟨i, hi, rfl, rfl, rfl, rfl, rfl, rfl⟩⟩, by decide, rfl, fun _ => pm_upL_at, h1, by omega, h2⟩
theorem k_L_move (hg : pm_gok 61 g) (hB : pm_base b) (hX : pm_baseX b) (hA : pm_asg b) (hI : CI_ n ch L dm σ) (hc : ch < 2 ^ 31) : pm_C b (d + 31) km_L_move [pm_R 0, pm_I x, pm_I y, pm_I z, pm_R 60] g σ τ 1 6 (wq_ (st_move n L dm x y z) ch σ) := by
  have h8 := hI.w.1
  by_cases e : ob_ n x
  · skip
    show pm_Y b (d + 30 + 1) km_L_move 0 false [some (pm_R 0), some (pm_I x), some (pm_I y), some (pm_I z), some (pm_R 60), none] [] g σ τ 0 0 1 6 _
    refine pm_aload d_L_move_0 rfl ?_
    refine pm_iconst' (nI 0) d_L_move_2 (by decide) ?_
    refine pm_aload_n d_L_move_3 rfl ?_
    refine pm_iload_n d_L_move_4 rfl ?_
    refine pm_iload_n d_L_move_5 rfl ?_
    refine pm_iload_n d_L_move_6 rfl ?_
    refine pm_callVC (i := 0) (ci := 0) (rest := [pm_I (nI 0), pm_R 60]) (vs := [pm_I x, pm_I y, pm_I z]) (h := 15) ["java/lang/IndexOutOfBoundsException"] hB hA d_L_move_7 hc_L_26 (x_H_move (hg.le (by decide)) hB hI hX e) (hg.s rfl) (hg.i (by decide)) rfl rfl rfl rfl (Nat.le_of_ble_eq_true rfl) (Nat.le_of_ble_eq_true rfl) (by omega) (by omega) (fun j a1 a2 a3 a4 Y h1 h2 => by
      cases j with
      | zero => (have h1 : some (0, 12, 15, 19) = some (a1, a2, a3, a4) := h1; have h2 : some "java/lang/IndexOutOfBoundsException" = some Y := h2; cases h1; cases h2; exact ⟨⟨by decide, by decide⟩, by decide, hl_19, Or.inl rfl⟩)
      | succ j =>
        (have h2 : none = some Y := h2; cases h2)) rfl ?_
    refine pm_astore_j d_L_move_15 (by decide) ?_
    refine pm_iconst' (nI 1) d_L_move_17 (by decide) ?_
    exact pm_ireturn d_L_move_18 rfl (fun _ => rfl) (by omega) (by omega) ⟨1, 0, n, ch, L, dm, Or.inl ⟨e, rfl, sm_r⟩, by decide, rfl, fun z => absurd z (by decide), hI, Nat.le_succ ch, fun _ _ _ => rfl⟩
  · obtain ⟨p, hp, rfl⟩ := iv_in (show n < 2 ^ 31 by omega) e
    have h7 := wf_len hI.w p
    by_cases e2 : ob_ (L p).length y ∨ ob_ (L p).length z
    · skip
      show pm_Y b (d + 30 + 1) km_L_move 0 false [some (pm_R 0), some (pm_I (nI p)), some (pm_I y), some (pm_I z), some (pm_R 60), none] [] g σ τ 0 0 1 6 _
      refine pm_aload d_L_move_0 rfl ?_
      refine pm_iconst' (nI 0) d_L_move_2 (by decide) ?_
      refine pm_aload_n d_L_move_3 rfl ?_
      refine pm_iload_n d_L_move_4 rfl ?_
      refine pm_iload_n d_L_move_5 rfl ?_
      refine pm_iload_n d_L_move_6 rfl ?_
      refine pm_callVC (i := 0) (ci := 0) (rest := [pm_I (nI 0), pm_R 60]) (vs := [pm_I (nI p), pm_I y, pm_I z]) (h := 15) ["java/lang/IndexOutOfBoundsException"] hB hA d_L_move_7 hc_L_26 (x_H_move2 (hg.le (by decide)) hB hI hX hp e2) (hg.s rfl) (hg.i (by decide)) rfl rfl rfl rfl (Nat.le_of_ble_eq_true rfl) (Nat.le_of_ble_eq_true rfl) (by omega) (by omega) (fun j a1 a2 a3 a4 Y h1 h2 => by
        cases j with
        | zero => (have h1 : some (0, 12, 15, 19) = some (a1, a2, a3, a4) := h1; have h2 : some "java/lang/IndexOutOfBoundsException" = some Y := h2; cases h1; cases h2; exact ⟨⟨by decide, by decide⟩, by decide, hl_19, Or.inl rfl⟩)
        | succ j =>
          (have h2 : none = some Y := h2; cases h2)) rfl ?_
      refine pm_astore_j d_L_move_15 (by decide) ?_
      refine pm_iconst' (nI 1) d_L_move_17 (by decide) ?_
      exact pm_ireturn d_L_move_18 rfl (fun _ => rfl) (by omega) (by omega) ⟨1, 0, n, ch, L, dm, Or.inr ⟨p, hp, rfl, Or.inl ⟨e2, rfl, sm_r⟩⟩, by decide, rfl, fun z => absurd z (by decide), hI, Nat.le_succ ch, fun _ _ _ => rfl⟩
    · obtain ⟨i, hi, rfl⟩ := iv_in (show (L p).length < 2 ^ 31 by omega) (fun z => e2 (Or.inl z))
      obtain ⟨j, hj, rfl⟩ := iv_in (show (L p).length < 2 ^ 31 by omega) (fun z => e2 (Or.inr z))
      show pm_Y b (d + 30 + 1) km_L_move 0 false [some (pm_R 0), some (pm_I (nI p)), some (pm_I (nI i)), some (pm_I (nI j)), some (pm_R 60), none] [] g σ τ 0 0 1 6 _
      refine pm_aload d_L_move_0 rfl ?_
      refine pm_iconst' (nI 0) d_L_move_2 (by decide) ?_
      refine pm_aload_n d_L_move_3 rfl ?_
      refine pm_iload_n d_L_move_4 rfl ?_
      refine pm_iload_n d_L_move_5 rfl ?_
      refine pm_iload_n d_L_move_6 rfl ?_
      refine pm_callWp (i := 0) (ci := 0) (rest := [pm_I (nI 0), pm_R 60]) [pm_I (nI p), pm_I (nI i), pm_I (nI j)] hB d_L_move_7 hc_L_26 (k_H_move (hg.le (by decide)) hB hI hp hi hj) (hg.s rfl) (hg.i (by decide)) rfl rfl rfl rfl (Nat.le_of_ble_eq_true rfl) (Nat.le_of_ble_eq_true rfl) (by omega) (by omega) (fun v7 σ₁ hv7 hq7 => ?_)
      obtain ⟨rfl, h1, h2⟩ := hq7
      show pm_Y b _ km_L_move 10 true [some (pm_R 0), some (pm_I (nI p)), some (pm_I (nI i)), some (pm_I (nI j)), some (pm_R 60), none] [pm_I (nI ((L p).getD i 0)), pm_I (nI 0), pm_R 60] g σ₁ τ 0 0 1 6 _
      refine pm_i2l d_L_move_10 ?_
      refine pm_lastore 0 d_L_move_11 (hg.s rfl) (hg.i (by decide)) rfl (by decide) (by decide) ?_
      refine pm_goto 19 d_L_move_12 rfl ?_
      refine pm_iconst' (nI 0) d_L_move_19 (by decide) ?_
      exact pm_ireturn d_L_move_20 rfl (fun _ => rfl) (by omega) (by omega) ⟨0, nI ((L p).getD i 0), n, ch + 1, gw_up L p (mv_list (L p) i j), dm, Or.inr ⟨p, hp, rfl, Or.inr ⟨i, j, hi, hj, rfl, rfl, rfl, rfl, rfl, rfl, rfl⟩⟩, by decide, rfl, fun _ => pm_upL_at, h1, by omega, h2⟩
theorem k_L_at (hg : pm_gok 61 g) (hB : pm_base b) (hX : pm_baseX b) (hA : pm_asg b) (hI : CI_ n ch L dm σ) (hc : ch < 2 ^ 31) : pm_C b (d + 31) km_L_at [pm_R 0, pm_I x, pm_I y, pm_R 60] g σ τ 1 6 (wq_ (st_at n L dm x y) ch σ) := by
  have h8 := hI.w.1
  by_cases e : ob_ n x
  · skip
    show pm_Y b (d + 30 + 1) km_L_at 0 false [some (pm_R 0), some (pm_I x), some (pm_I y), some (pm_R 60), none] [] g σ τ 0 0 1 6 _
    refine pm_aload_n d_L_at_0 rfl ?_
    refine pm_iconst' (nI 0) d_L_at_1 (by decide) ?_
    refine pm_aload_n d_L_at_2 rfl ?_
    refine pm_iload_n d_L_at_3 rfl ?_
    refine pm_iload_n d_L_at_4 rfl ?_
    refine pm_callVC (i := 0) (ci := 0) (rest := [pm_I (nI 0), pm_R 60]) (vs := [pm_I x, pm_I y]) (h := 13) ["java/lang/IndexOutOfBoundsException"] hB hA d_L_at_5 hc_L_30 (x_H_at (hg.le (by decide)) hB hI hX e) (hg.s rfl) (hg.i (by decide)) rfl rfl rfl rfl (Nat.le_of_ble_eq_true rfl) (Nat.le_of_ble_eq_true rfl) (by omega) (by omega) (fun j a1 a2 a3 a4 Y h1 h2 => by
      cases j with
      | zero => (have h1 : some (0, 10, 13, 19) = some (a1, a2, a3, a4) := h1; have h2 : some "java/lang/IndexOutOfBoundsException" = some Y := h2; cases h1; cases h2; exact ⟨⟨by decide, by decide⟩, by decide, hl_19, Or.inl rfl⟩)
      | succ j =>
        (have h2 : none = some Y := h2; cases h2)) rfl ?_
    refine pm_astore_j d_L_at_13 (by decide) ?_
    refine pm_iconst' (nI 1) d_L_at_15 (by decide) ?_
    exact pm_ireturn d_L_at_16 rfl (fun _ => rfl) (by omega) (by omega) ⟨1, 0, n, ch, L, dm, Or.inl ⟨e, rfl, sm_r⟩, by decide, rfl, fun z => absurd z (by decide), hI, Nat.le_succ ch, fun _ _ _ => rfl⟩
  · obtain ⟨p, hp, rfl⟩ := iv_in (show n < 2 ^ 31 by omega) e
    have h7 := wf_len hI.w p
    by_cases e2 : y < 0
    · skip
      show pm_Y b (d + 30 + 1) km_L_at 0 false [some (pm_R 0), some (pm_I (nI p)), some (pm_I y), some (pm_R 60), none] [] g σ τ 0 0 1 6 _
      refine pm_aload_n d_L_at_0 rfl ?_
      refine pm_iconst' (nI 0) d_L_at_1 (by decide) ?_
      refine pm_aload_n d_L_at_2 rfl ?_
      refine pm_iload_n d_L_at_3 rfl ?_
      refine pm_iload_n d_L_at_4 rfl ?_
      refine pm_callVC (i := 0) (ci := 0) (rest := [pm_I (nI 0), pm_R 60]) (vs := [pm_I (nI p), pm_I y]) (h := 13) ["java/lang/IndexOutOfBoundsException"] hB hA d_L_at_5 hc_L_30 (x_H_at2 (hg.le (by decide)) hB hI hX hp e2) (hg.s rfl) (hg.i (by decide)) rfl rfl rfl rfl (Nat.le_of_ble_eq_true rfl) (Nat.le_of_ble_eq_true rfl) (by omega) (by omega) (fun j a1 a2 a3 a4 Y h1 h2 => by
        cases j with
        | zero => (have h1 : some (0, 10, 13, 19) = some (a1, a2, a3, a4) := h1; have h2 : some "java/lang/IndexOutOfBoundsException" = some Y := h2; cases h1; cases h2; exact ⟨⟨by decide, by decide⟩, by decide, hl_19, Or.inl rfl⟩)
        | succ j =>
          (have h2 : none = some Y := h2; cases h2)) rfl ?_
      refine pm_astore_j d_L_at_13 (by decide) ?_
      refine pm_iconst' (nI 1) d_L_at_15 (by decide) ?_
      exact pm_ireturn d_L_at_16 rfl (fun _ => rfl) (by omega) (by omega) ⟨1, 0, n, ch, L, dm, Or.inr ⟨p, hp, rfl, Or.inl ⟨e2, rfl, sm_r⟩⟩, by decide, rfl, fun z => absurd z (by decide), hI, Nat.le_succ ch, fun _ _ _ => rfl⟩
    by_cases e3 : nI (L p).length ≤ y
    · skip
      show pm_Y b (d + 30 + 1) km_L_at 0 false [some (pm_R 0), some (pm_I (nI p)), some (pm_I y), some (pm_R 60), none] [] g σ τ 0 0 1 6 _
      refine pm_aload_n d_L_at_0 rfl ?_
      refine pm_iconst' (nI 0) d_L_at_1 (by decide) ?_
      refine pm_aload_n d_L_at_2 rfl ?_
      refine pm_iload_n d_L_at_3 rfl ?_
      refine pm_iload_n d_L_at_4 rfl ?_
      refine pm_callR (i := 0) (ci := 0) (rest := [pm_I (nI 0), pm_R 60]) [pm_I (nI p), pm_I y] hB d_L_at_5 hc_L_30 (k_H_at2 (hg.le (by decide)) hB hI hp e2 e3) (hg.s rfl) (hg.i (by decide)) rfl rfl rfl rfl (Nat.le_of_ble_eq_true rfl) (Nat.le_of_ble_eq_true rfl) (by omega) (by omega) ?_
      refine pm_i2l d_L_at_8 ?_
      refine pm_lastore 0 d_L_at_9 (hg.s rfl) (hg.i (by decide)) rfl (by decide) (by decide) ?_
      refine pm_goto 17 d_L_at_10 rfl ?_
      refine pm_iconst' (nI 0) d_L_at_17 (by decide) ?_
      exact pm_ireturn d_L_at_18 rfl (fun _ => rfl) (by omega) (by omega) ⟨0, -1, n, ch, L, dm, Or.inr ⟨p, hp, rfl, Or.inr (Or.inr ⟨e2, e3, rfl, rfl, sm_r⟩)⟩, by decide, rfl, fun _ => pm_upL_at, hI, by omega, fun _ _ _ => rfl⟩
    · obtain ⟨i, hi, rfl⟩ := iv_in (show (L p).length < 2 ^ 31 by omega) (fun z => z.elim e2 e3)
      show pm_Y b (d + 30 + 1) km_L_at 0 false [some (pm_R 0), some (pm_I (nI p)), some (pm_I (nI i)), some (pm_R 60), none] [] g σ τ 0 0 1 6 _
      refine pm_aload_n d_L_at_0 rfl ?_
      refine pm_iconst' (nI 0) d_L_at_1 (by decide) ?_
      refine pm_aload_n d_L_at_2 rfl ?_
      refine pm_iload_n d_L_at_3 rfl ?_
      refine pm_iload_n d_L_at_4 rfl ?_
      refine pm_callR (i := 0) (ci := 0) (rest := [pm_I (nI 0), pm_R 60]) [pm_I (nI p), pm_I (nI i)] hB d_L_at_5 hc_L_30 (k_H_at (hg.le (by decide)) hB hI hp hi) (hg.s rfl) (hg.i (by decide)) rfl rfl rfl rfl (Nat.le_of_ble_eq_true rfl) (Nat.le_of_ble_eq_true rfl) (by omega) (by omega) ?_
      refine pm_i2l d_L_at_8 ?_
      refine pm_lastore 0 d_L_at_9 (hg.s rfl) (hg.i (by decide)) rfl (by decide) (by decide) ?_
      refine pm_goto 17 d_L_at_10 rfl ?_
      refine pm_iconst' (nI 0) d_L_at_17 (by decide) ?_
      exact pm_ireturn d_L_at_18 rfl (fun _ => rfl) (by omega) (by omega) ⟨0, nI ((L p).getD i 0), n, ch, L, dm, Or.inr ⟨p, hp, rfl, Or.inr (Or.inl ⟨i, hi, rfl, rfl, rfl, sm_r⟩)⟩, by decide, rfl, fun _ => pm_upL_at, hI, by omega, fun _ _ _ => rfl⟩
end L1
