/-! the house's constructor -/
section CH
variable {b : pB} {d : Nat} {σ : pI} {τ : pJ} {r : Nat → Nat → Option Nat}
theorem wf_48 {r : Nat → Nat → Option Nat} (h : ∀ i j, i < 48 → r i j = pm_sr i j) : pm_gok 48 (48, pm_sh, r) := ⟨Nat.le_refl _, rfl, h⟩
theorem k_H_init (hB : pm_base b) (hBA : pm_baseA b) (hwf : pm_wf (1, pm_sh, r)) (hz : nn_ r 0 ∧ ∀ i j, σ i j = 0) : pm_C b (d + 31) km_H_init [pm_R 0] (1, pm_sh, r) σ τ 47 365 (.inr (.inr (fun g' σ' τ' => ∃ r', g' = (48, pm_sh, r') ∧ pm_gok 48 (48, pm_sh, r') ∧ nn_ r' 48 ∧ pm_wf (48, pm_sh, r') ∧ CI_ 0 1 (fun _ => []) (fun p => p) σ' ∧ (∀ c x, 48 ≤ c → σ' c x = σ c x) ∧ τ' = τ))) := by
  show pm_Y b (d + 30 + 1) km_H_init 0 false [some (pm_R 0)] [] (1, pm_sh, r) σ τ 0 0 47 365 _
  refine pm_aload_n d_H_init_0 rfl ?_
  refine pm_objInit d_H_init_1 hoi_H hoi_i hoi_c (Nat.le_of_ble_eq_true rfl) ?_
  have z0 : nn_ r 1 := nn_new hz.1
  have w0 := hwf
  have q0 : ∀ i j, 1 ≤ i → i < 1 → r i j = pm_sr i j := fun i j h1 h2 => absurd h2 (by omega)
  have o0 : ∀ j, r 0 j = (fun _ => none : Nat → Option Nat) j := fun j => hz.1 0 j (Nat.le_refl _)
  refine pm_aload_n d_H_init_4 rfl ?_
  refine pm_new d_H_init_5 hn_H_7 rfl (fun j => hz.2 _ j) (fun j => z0 _ j (Nat.le_refl _)) w0 rfl rfl (Nat.le_of_ble_eq_true rfl) (Nat.le_of_ble_eq_true rfl) ?_
  show pm_Y b (d + 30 + 1) km_H_init 8 _ [some (pm_R 0)] [pm_R 1, pm_R 0] (2, pm_sh, r) σ τ 1 6 _ _ _
  refine pm_dup d_H_init_8 rfl ?_
  refine pm_callIN (i := 1) (vs := []) (rest := [pm_R 1, pm_R 0]) hB d_H_init_9 hi_H_9 (k_W_init hBA (wf_new w0 z0) ⟨z0, (fun i j h => hz.2 i j)⟩) rfl rfl rfl (Nat.le_of_ble_eq_true rfl) (Nat.le_of_ble_eq_true rfl) (Nat.le_of_ble_eq_true rfl) (Nat.le_of_ble_eq_true rfl) rfl rfl (fun g1 σ1 τ1 hq1 => ?_)
  obtain ⟨r1, rfl, a1, b1, c1, e1, sg1, tg1⟩ := hq1
  rw [sg1, tg1]
  show pm_Y b (d + 30 + 1) km_H_init 12 true [some (pm_R 0)] [pm_R 1, pm_R 0] (30, pm_sh, r1) σ τ 29 230 _ _ _
  refine pm_putrF d_H_init_12 hp_H_10 (Or.inl ⟨_, rfl⟩) rfl ⟨_, _, rfl⟩ rfl (show 0 < 30 by decide) rfl ?_
  have z1 : nn_ (pm_upR r1 0 0 (some 1)) 30 := nn_up c1 (by decide)
  have w1 : pm_wf (30, pm_sh, pm_upR r1 0 0 (some 1)) := wf_upR e1 (by decide)
  have q1 : ∀ i j, 1 ≤ i → i < 30 → (pm_upR r1 0 0 (some 1)) i j = pm_sr i j := fun i j h1 h2 => by
    rw [pm_upR_ne (by omega)]
    rcases Nat.lt_or_ge i 1 with h3 | h3
    · rw [b1 i j h3]; exact q0 i j h1 h3
    · exact a1 i j h3 h2
  have o1 : ∀ j, (pm_upR r1 0 0 (some 1)) 0 j = if j = 0 then some 1 else none := fun j => by
    by_cases e : j = 0
    · rw [if_pos e, e, pm_upR_at]
    · rw [if_neg e, pm_upR_ne (fun z => e z.2), b1 0 j (by decide)]; exact o0 j
  show pm_Y b (d + 30 + 1) km_H_init 15 true [some (pm_R 0)] [] (30, pm_sh, pm_upR r1 0 0 (some 1)) σ τ 29 230 _ _ _
  generalize pm_upR r1 0 0 (some 1) = R1 at z1 w1 q1 o1 ⊢
  refine pm_aload_n d_H_init_15 rfl ?_
  refine pm_new d_H_init_16 hn_H_16 rfl (fun j => hz.2 _ j) (fun j => z1 _ j (Nat.le_refl _)) w1 rfl rfl (Nat.le_of_ble_eq_true rfl) (Nat.le_of_ble_eq_true rfl) ?_
  show pm_Y b (d + 30 + 1) km_H_init 19 _ [some (pm_R 0)] [pm_R 30, pm_R 0] (31, pm_sh, R1) σ τ 30 232 _ _ _
  refine pm_dup d_H_init_19 rfl ?_
  refine pm_aload_n d_H_init_20 rfl ?_
  refine pm_getr d_H_init_21 hf_H_10 rfl (show 0 < 31 by decide) rfl (o1 0) ?_
  refine pm_callI (i := 30) (vs := [pm_R 1]) (rest := [pm_R 30, pm_R 0]) hB d_H_init_24 hi_H_18 (k_D_init hBA (wf_new w1 z1) ⟨z1, (fun i j h => hz.2 i j)⟩) rfl rfl rfl (Nat.le_of_ble_eq_true rfl) (Nat.le_of_ble_eq_true rfl) (Nat.le_of_ble_eq_true rfl) (Nat.le_of_ble_eq_true rfl) rfl rfl (fun g2 σ2 τ2 hq2 => ?_)
  obtain ⟨r2, rfl, a2, b2, c2, e2, sg2, tg2⟩ := hq2
  rw [sg2, tg2]
  show pm_Y b (d + 30 + 1) km_H_init 27 true [some (pm_R 0)] [pm_R 30, pm_R 0] (32, pm_sh, r2) σ τ 31 240 _ _ _
  refine pm_putrF d_H_init_27 hp_H_21 (Or.inl ⟨_, rfl⟩) rfl ⟨_, _, rfl⟩ rfl (show 0 < 32 by decide) rfl ?_
  have z2 : nn_ (pm_upR r2 0 1 (some 30)) 32 := nn_up c2 (by decide)
  have w2 : pm_wf (32, pm_sh, pm_upR r2 0 1 (some 30)) := wf_upR e2 (by decide)
  have q2 : ∀ i j, 1 ≤ i → i < 32 → (pm_upR r2 0 1 (some 30)) i j = pm_sr i j := fun i j h1 h2 => by
    rw [pm_upR_ne (by omega)]
    rcases Nat.lt_or_ge i 30 with h3 | h3
    · rw [b2 i j h3]; exact q1 i j h1 h3
    · exact a2 i j h3 h2
  have o2 : ∀ j, (pm_upR r2 0 1 (some 30)) 0 j = if j = 1 then some 30 else if j = 0 then some 1 else none := fun j => by
    by_cases e : j = 1
    · rw [if_pos e, e, pm_upR_at]
    · rw [if_neg e, pm_upR_ne (fun z => e z.2), b2 0 j (by decide)]; exact o1 j
  show pm_Y b (d + 30 + 1) km_H_init 30 true [some (pm_R 0)] [] (32, pm_sh, pm_upR r2 0 1 (some 30)) σ τ 31 240 _ _ _
  generalize pm_upR r2 0 1 (some 30) = R2 at z2 w2 q2 o2 ⊢
  refine pm_aload_n d_H_init_30 rfl ?_
  refine pm_new d_H_init_31 hn_H_25 rfl (fun j => hz.2 _ j) (fun j => z2 _ j (Nat.le_refl _)) w2 rfl rfl (Nat.le_of_ble_eq_true rfl) (Nat.le_of_ble_eq_true rfl) ?_
  show pm_Y b (d + 30 + 1) km_H_init 34 _ [some (pm_R 0)] [pm_R 32, pm_R 0] (33, pm_sh, R2) σ τ 32 246 _ _ _
  refine pm_dup d_H_init_34 rfl ?_
  refine pm_aload_n d_H_init_35 rfl ?_
  refine pm_getr d_H_init_36 hf_H_10 rfl (show 0 < 33 by decide) rfl (o2 0) ?_
  refine pm_callI (i := 32) (vs := [pm_R 1]) (rest := [pm_R 32, pm_R 0]) hB d_H_init_39 hi_H_27 (k_S_init hBA (wf_new w2 z2) ⟨z2, (fun i j h => hz.2 i j)⟩) rfl rfl rfl (Nat.le_of_ble_eq_true rfl) (Nat.le_of_ble_eq_true rfl) (Nat.le_of_ble_eq_true rfl) (Nat.le_of_ble_eq_true rfl) rfl rfl (fun g3 σ3 τ3 hq3 => ?_)
  obtain ⟨r3, rfl, a3, b3, c3, e3, sg3, tg3⟩ := hq3
  rw [sg3, tg3]
  show pm_Y b (d + 30 + 1) km_H_init 42 true [some (pm_R 0)] [pm_R 32, pm_R 0] (44, pm_sh, r3) (pm_up σ 32 5 (-1)) τ 43 334 _ _ _
  refine pm_putrF d_H_init_42 hp_H_28 (Or.inl ⟨_, rfl⟩) rfl ⟨_, _, rfl⟩ rfl (show 0 < 44 by decide) rfl ?_
  have z3 : nn_ (pm_upR r3 0 2 (some 32)) 44 := nn_up c3 (by decide)
  have w3 : pm_wf (44, pm_sh, pm_upR r3 0 2 (some 32)) := wf_upR e3 (by decide)
  have q3 : ∀ i j, 1 ≤ i → i < 44 → (pm_upR r3 0 2 (some 32)) i j = pm_sr i j := fun i j h1 h2 => by
    rw [pm_upR_ne (by omega)]
    rcases Nat.lt_or_ge i 32 with h3 | h3
    · rw [b3 i j h3]; exact q2 i j h1 h3
    · exact a3 i j h3 h2
  have o3 : ∀ j, (pm_upR r3 0 2 (some 32)) 0 j = if j = 2 then some 32 else if j = 1 then some 30 else if j = 0 then some 1 else none := fun j => by
    by_cases e : j = 2
    · rw [if_pos e, e, pm_upR_at]
    · rw [if_neg e, pm_upR_ne (fun z => e z.2), b3 0 j (by decide)]; exact o2 j
  show pm_Y b (d + 30 + 1) km_H_init 45 true [some (pm_R 0)] [] (44, pm_sh, pm_upR r3 0 2 (some 32)) (pm_up σ 32 5 (-1)) τ 43 334 _ _ _
  generalize pm_upR r3 0 2 (some 32) = R3 at z3 w3 q3 o3 ⊢
  have s3 : ∀ i j, 44 ≤ i → (pm_up σ 32 5 (-1)) i j = 0 := fun i j h => by rw [pm_up_ne (by omega)]; exact hz.2 i j
  refine pm_aload_n d_H_init_45 rfl ?_
  refine pm_new d_H_init_46 hn_H_32 rfl (fun j => s3 _ j (Nat.le_of_ble_eq_true rfl)) (fun j => z3 _ j (Nat.le_refl _)) w3 rfl rfl (Nat.le_of_ble_eq_true rfl) (Nat.le_of_ble_eq_true rfl) ?_
  show pm_Y b (d + 30 + 1) km_H_init 49 _ [some (pm_R 0)] [pm_R 44, pm_R 0] (45, pm_sh, R3) (pm_up σ 32 5 (-1)) τ 44 341 _ _ _
  refine pm_dup d_H_init_49 rfl ?_
  refine pm_aload_n d_H_init_50 rfl ?_
  refine pm_getr d_H_init_51 hf_H_10 rfl (show 0 < 45 by decide) rfl (o3 0) ?_
  refine pm_callI (i := 44) (vs := [pm_R 1]) (rest := [pm_R 44, pm_R 0]) hB d_H_init_54 hi_H_34 (k_P_init hBA (wf_new w3 z3) ⟨z3, (fun i j h => s3 i j h)⟩) rfl rfl rfl (Nat.le_of_ble_eq_true rfl) (Nat.le_of_ble_eq_true rfl) (Nat.le_of_ble_eq_true rfl) (Nat.le_of_ble_eq_true rfl) rfl rfl (fun g4 σ4 τ4 hq4 => ?_)
  obtain ⟨r4, rfl, a4, b4, c4, e4, sg4, tg4⟩ := hq4
  rw [sg4, tg4]
  show pm_Y b (d + 30 + 1) km_H_init 57 true [some (pm_R 0)] [pm_R 44, pm_R 0] (48, pm_sh, r4) (pm_up (pm_up σ 32 5 (-1)) 44 6 (-1)) τ 47 365 _ _ _
  refine pm_putrF d_H_init_57 hp_H_35 (Or.inl ⟨_, rfl⟩) rfl ⟨_, _, rfl⟩ rfl (show 0 < 48 by decide) rfl ?_
  have z4 : nn_ (pm_upR r4 0 3 (some 44)) 48 := nn_up c4 (by decide)
  have w4 : pm_wf (48, pm_sh, pm_upR r4 0 3 (some 44)) := wf_upR e4 (by decide)
  have q4 : ∀ i j, 1 ≤ i → i < 48 → (pm_upR r4 0 3 (some 44)) i j = pm_sr i j := fun i j h1 h2 => by
    rw [pm_upR_ne (by omega)]
    rcases Nat.lt_or_ge i 44 with h3 | h3
    · rw [b4 i j h3]; exact q3 i j h1 h3
    · exact a4 i j h3 h2
  have o4 : ∀ j, (pm_upR r4 0 3 (some 44)) 0 j = if j = 3 then some 44 else if j = 2 then some 32 else if j = 1 then some 30 else if j = 0 then some 1 else none := fun j => by
    by_cases e : j = 3
    · rw [if_pos e, e, pm_upR_at]
    · rw [if_neg e, pm_upR_ne (fun z => e z.2), b4 0 j (by decide)]; exact o3 j
  show pm_Y b (d + 30 + 1) km_H_init 60 true [some (pm_R 0)] [] (48, pm_sh, pm_upR r4 0 3 (some 44)) (pm_up (pm_up σ 32 5 (-1)) 44 6 (-1)) τ 47 365 _ _ _
  generalize pm_upR r4 0 3 (some 44) = R4 at z4 w4 q4 o4 ⊢
  have hg : pm_gok 48 (48, pm_sh, R4) := wf_48 (fun i j h => by
    rcases Nat.lt_or_ge 0 i with h3 | h3
    · exact q4 i j h3 h
    · have e : i = 0 := by omega
      subst e
      rw [o4 j, sr_o0 j]
      match j with
      | 0 => rfl
      | 1 => rfl
      | 2 => rfl
      | 3 => rfl
      | j + 4 => rw [if_neg (by omega), if_neg (by omega), if_neg (by omega), if_neg (by omega), if_neg (by omega), if_neg (by omega), if_neg (by omega), if_neg (by omega)])
  refine pm_aload_n d_H_init_60 rfl ?_
  refine pm_iconst' (nI 0) d_H_init_61 (by decide) ?_
  refine pm_callWp (i := 0) (ci := 0) (rest := []) [pm_I (nI 0)] hB d_H_init_62 hc_H_39 (pm_C_up (show 0 + 1 ≤ d + 30 by omega) (k_H_startWith (n₀ := 0) (ch := 0) (L₀ := fun _ => []) (m := 0) hg hB (show (pm_up (pm_up σ 32 5 (-1)) 44 6 (-1)) 1 5 = nI 0 by rw [pm_up_ne (by omega), pm_up_ne (by omega)]; exact hz.2 1 5) ⟨none, by rw [pm_up_ne (by omega), pm_up_at]; rfl, fun x hx => by (cases hx), fun hx => by (cases hx)⟩ ⟨none, by rw [pm_up_at]; rfl, fun x hx => by (cases hx), fun hx => by (cases hx)⟩ (by decide))) (hg.s rfl) (hg.i (by decide)) rfl rfl rfl rfl (Nat.le_of_ble_eq_true rfl) (Nat.le_of_ble_eq_true rfl) (Nat.le_of_ble_eq_true rfl) (Nat.le_of_ble_eq_true rfl) (fun v62 σ5 hv62 hq62 => ?_)
  obtain ⟨rfl, h5, h6⟩ := hq62
  exact pm_returnN d_H_init_65 rfl (Nat.le_refl _) (Nat.le_refl _) ⟨R4, rfl, hg, z4, w4, h5, fun c x hc => by rw [h6 c x hc, pm_up_ne (by omega), pm_up_ne (by omega)], rfl⟩
end CH
