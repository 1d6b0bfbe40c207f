/-! the law, from its first instruction on -/
section LB
variable {b : pB} {d : Nat} {mc ms : Nat}
theorem l_law_0 (hB : pm_base b) (hX : pm_baseX b) (hA : pm_asg b) (hBA : pm_baseA b) (hl : xl_ b ≤ 2048) (hmc : 700 ≤ mc) (hms : 6000 ≤ ms) : pm_X b (d + 32) km_L_law 0 false [some pm_S, none, none, none, none, none, none] [] (0, pm_sh, fun _ _ => none) (fun _ _ => 0) (fun _ _ => 0) 0 0 mc ms (fun v _ _ => v = some (nI 1)) := by
  have w0 : pm_wf (0, pm_sh, fun _ _ => none) := fun i j c h => absurd h (Nat.not_lt_zero i)
  have z0 : nn_ (fun _ _ => none) 0 := fun _ _ _ => rfl
  refine X_new d_L_law_0 hn_L_8 rfl (fun _ => rfl) (fun _ => rfl) w0 rfl rfl (show 0 + 1 ≤ mc by omega) (show 0 + 4 ≤ ms by omega) ?_
  refine X_dup d_L_law_3 rfl ?_
  refine X_callI (i := 0) (vs := []) (rest := [pm_R 0]) hB d_L_law_4 hi_L_58 (k_H_init (σ := fun _ _ => 0) (τ := fun _ _ => 0) hB hBA (wf_new w0 z0) ⟨z0, fun _ _ => rfl⟩) rfl rfl rfl (Nat.le_of_ble_eq_true rfl) (Nat.le_of_ble_eq_true rfl) (show 0 + 1 + 47 ≤ mc by omega) (show 0 + 4 + 365 ≤ ms by omega) rfl rfl (fun g1 σ1 τ1 hq => ?_)
  obtain ⟨r1, rfl, h1, z1, w1, c1, s1, t1⟩ := hq
  refine X_astore_n d_L_law_7 (by decide) ?_
  refine X_new d_L_law_8 hn_L_59 rfl (fun j => s1 48 j (Nat.le_refl _)) (fun j => z1 48 j (Nat.le_refl _)) w1 rfl rfl (show 0 + 1 + 47 + 1 ≤ mc by omega) (show 0 + 4 + 365 + 17 ≤ ms by omega) ?_
  refine X_dup d_L_law_11 rfl ?_
  refine X_callI (i := 48) (vs := []) (rest := [pm_R 48]) hB d_L_law_12 hi_L_61 (k_M_init hBA (wf_new w1 z1) ⟨z1, fun i j h => s1 i j h⟩) rfl rfl rfl (Nat.le_of_ble_eq_true rfl) (Nat.le_of_ble_eq_true rfl) (show 0 + 1 + 47 + 1 + 11 ≤ mc by omega) (show 0 + 4 + 365 + 17 + 256 ≤ ms by omega) rfl rfl (fun g2 σ2 τ2 hq => ?_)
  obtain ⟨r2, rfl, a2, b2, z2, w2, s2, t2⟩ := hq
  rw [s2, t2]
  refine X_astore_n d_L_law_15 (by decide) ?_
  refine X_iconst (nI 1) d_L_law_16 (by decide) ?_
  refine X_newL (n := 1) d_L_law_17 hw_longs rfl rfl (by decide) (fun j => by rw [t1]) w2 rfl rfl (show 0 + 1 + 47 + 1 + 11 + 1 ≤ mc by omega) (show 0 + 4 + 365 + 17 + 256 + 1 ≤ ms by omega) ?_
  refine X_astore_n d_L_law_19 (by decide) ?_
  refine X_of ?_
  refine pm_iconst' (nI 0) d_L_law_20 (by decide) ?_
  refine pm_istore d_L_law_21 (by decide) ?_
  have hg : pm_gok 61 (61, pm_sh, r2) := ⟨Nat.le_refl _, rfl, fun i j h => by
    show r2 i j = _
    rcases Nat.lt_or_ge i 48 with h3 | h3
    · rw [b2 i j h3]; exact h1.2.2 i j h3
    · rcases Nat.lt_or_ge i 60 with h4 | h4
      · exact a2 i j h3 h4
      · rw [z2 i j h4, sr_no j (by omega)]⟩
  exact l_law_23 hg hB hX hA hl 512 0 0 1 (fun _ => []) (fun p => p) σ1 τ1 _ _ none none (by omega) (Nat.zero_le _) c1 ⟨⟨s1 48 1 (by decide), fun p hp => absurd hp (Nat.not_lt_zero p), fun p k hp => absurd hp (Nat.not_lt_zero p)⟩, fun p hp => absurd hp (Nat.not_lt_zero p), Or.inl (s1 48 5 (by decide))⟩ (show 1 + 512 < 2 ^ 31 by omega) (show 0 + 1 + 47 + 1 + 11 + 1 + 512 ≤ mc by omega) (show 0 + 4 + 365 + 17 + 256 + 1 + 6 * 512 ≤ ms by omega)
end LB
