/-! the wishes: what is read of them -/
def bI (x : Bool) : Int32 := if x = true then nI 1 else nI 0
theorem pm_inc (a : Nat) : nI a + Int32.ofInt 1 = nI (a + 1) := nI_1 a
theorem pm_dec {a : Nat} (h : 1 ≤ a) : nI a + Int32.ofInt (-1) = nI (a - 1) := by
  obtain ⟨c, rfl⟩ : ∃ c, a = c + 1 := ⟨a - 1, by omega⟩
  exact pk_m1 c
section W1
variable {b : pB} {g : pG} {σ : pI} {τ : pJ} {d p q x y i h : Nat}
theorem c_W_count (hg : pm_gok 48 g)  : pm_C b d km_W_count [pm_R 1] g σ τ 0 0 (pm_Rd (σ 1 4) σ τ) := by
  show pm_Y b d km_W_count 0 false [some (pm_R 1)] [] g σ τ 0 0 0 0 _
  refine pm_aload_n d_W_count_0 rfl ?_
  refine pm_geti d_W_count_1 hf_W_26 (hg.s rfl) (hg.i (by decide)) rfl ?_
  exact pm_ireturn d_W_count_4 rfl (fun h => h) (Nat.le_refl _) (Nat.le_refl _) ⟨rfl, rfl, rfl⟩
theorem c_W_changes (hg : pm_gok 48 g)  : pm_C b d km_W_changes [pm_R 1] g σ τ 0 0 (pm_Rd (σ 1 5) σ τ) := by
  show pm_Y b d km_W_changes 0 false [some (pm_R 1)] [] g σ τ 0 0 0 0 _
  refine pm_aload_n d_W_changes_0 rfl ?_
  refine pm_geti d_W_changes_1 hf_W_30 (hg.s rfl) (hg.i (by decide)) rfl ?_
  exact pm_ireturn d_W_changes_4 rfl (fun h => h) (Nat.le_refl _) (Nat.le_refl _) ⟨rfl, rfl, rfl⟩
theorem c_W_length (hg : pm_gok 48 g) (hp : p < 8) : pm_C b d km_W_length [pm_R 1, pm_I (nI p)] g σ τ 0 0 (pm_Rd (σ 2 p) σ τ) := by
  show pm_Y b d km_W_length 0 false [some (pm_R 1), some (pm_I (nI p))] [] g σ τ 0 0 0 0 _
  refine pm_aload_n d_W_length_0 rfl ?_
  refine pm_getr d_W_length_1 hf_W_9 (hg.s rfl) (hg.i (by decide)) rfl (hg.r (by decide) rfl) ?_
  refine pm_iload_n d_W_length_4 rfl ?_
  refine pm_iaload p d_W_length_5 (hg.s rfl) (hg.i (by decide)) rfl hp (by decide) ?_
  exact pm_ireturn d_W_length_6 rfl (fun h => h) (Nat.le_refl _) (Nat.le_refl _) ⟨rfl, rfl, rfl⟩
theorem c_W_otherAt (hg : pm_gok 48 g) (hp : p < 8) (hi : i < 8) : pm_C b d km_W_otherAt [pm_R 1, pm_I (nI p), pm_I (nI i)] g σ τ 0 0 (pm_Rd (σ (4 + p) i) σ τ) := by
  show pm_Y b d km_W_otherAt 0 false [some (pm_R 1), some (pm_I (nI p)), some (pm_I (nI i))] [] g σ τ 0 0 0 0 _
  refine pm_aload_n d_W_otherAt_0 rfl ?_
  refine pm_getr d_W_otherAt_1 hf_W_17 (hg.s rfl) (hg.i (by decide)) rfl (hg.r (by decide) rfl) ?_
  refine pm_iload_n d_W_otherAt_4 rfl ?_
  refine pm_aaload p d_W_otherAt_5 (hg.s rfl) (hg.i (by decide)) rfl hp (by decide) (hg.r (by decide) (sr_3 hp)) ?_
  refine pm_iload_n d_W_otherAt_6 rfl ?_
  refine pm_iaload i d_W_otherAt_7 (hg.s (sh_4 _ hp)) (hg.i (by have := (hp : p < 8); omega)) rfl hi (by decide) ?_
  exact pm_ireturn d_W_otherAt_8 rfl (fun h => h) (Nat.le_refl _) (Nat.le_refl _) ⟨rfl, rfl, rfl⟩
theorem c_W_placeOf (hg : pm_gok 48 g) (hp : p < 8) (hq : q < 8) : pm_C b d km_W_placeOf [pm_R 1, pm_I (nI p), pm_I (nI q)] g σ τ 0 0 (pm_Rd (σ (13 + p) q) σ τ) := by
  show pm_Y b d km_W_placeOf 0 false [some (pm_R 1), some (pm_I (nI p)), some (pm_I (nI q))] [] g σ τ 0 0 0 0 _
  refine pm_aload_n d_W_placeOf_0 rfl ?_
  refine pm_getr d_W_placeOf_1 hf_W_20 (hg.s rfl) (hg.i (by decide)) rfl (hg.r (by decide) rfl) ?_
  refine pm_iload_n d_W_placeOf_4 rfl ?_
  refine pm_aaload p d_W_placeOf_5 (hg.s rfl) (hg.i (by decide)) rfl hp (by decide) (hg.r (by decide) (sr_12 hp)) ?_
  refine pm_iload_n d_W_placeOf_6 rfl ?_
  refine pm_iaload q d_W_placeOf_7 (hg.s (sh_13 _ hp)) (hg.i (by have := (hp : p < 8); omega)) rfl hq (by decide) ?_
  exact pm_ireturn d_W_placeOf_8 rfl (fun h => h) (Nat.le_refl _) (Nat.le_refl _) ⟨rfl, rfl, rfl⟩
theorem c_W_arePossible (hg : pm_gok 48 g) (hp : p < 8) (hq : q < 8) : pm_C b d km_W_arePossible [pm_R 1, pm_I (nI p), pm_I (nI q)] g σ τ 0 0 (pm_Rd (bI (!decide (nI 8 ≤ σ (22 + p) q))) σ τ) := by
  show pm_Y b d km_W_arePossible 0 false [some (pm_R 1), some (pm_I (nI p)), some (pm_I (nI q))] [] g σ τ 0 0 0 0 _
  refine pm_aload_n d_W_arePossible_0 rfl ?_
  refine pm_getr d_W_arePossible_1 hf_W_23 (hg.s rfl) (hg.i (by decide)) rfl (hg.r (by decide) rfl) ?_
  refine pm_iload_n d_W_arePossible_4 rfl ?_
  refine pm_aaload p d_W_arePossible_5 (hg.s rfl) (hg.i (by decide)) rfl hp (by decide) (hg.r (by decide) (sr_21 hp)) ?_
  refine pm_iload_n d_W_arePossible_6 rfl ?_
  refine pm_iaload q d_W_arePossible_7 (hg.s (sh_22 _ hp)) (hg.i (by have := (hp : p < 8); omega)) rfl hq (by decide) ?_
  refine pm_bipush' (nI 8) d_W_arePossible_8 (by decide) ?_
  refine pm_icmp_ge 17 d_W_arePossible_10 rfl (fun c10 => ?_) (fun c10 => ?_)
  · refine pm_iconst' (nI 0) d_W_arePossible_17 (by decide) ?_
    exact pm_zreturn d_W_arePossible_18 rfl (Or.inl rfl) (fun h => h) (Nat.le_refl _) (Nat.le_refl _) ⟨by simp [bI, c10], rfl, rfl⟩
  · refine pm_iconst' (nI 1) d_W_arePossible_13 (by decide) ?_
    refine pm_goto 18 d_W_arePossible_14 rfl ?_
    exact pm_zreturn d_W_arePossible_18 rfl (Or.inr rfl) (fun h => h) (Nat.le_refl _) (Nat.le_refl _) ⟨by simp [bI, c10], rfl, rfl⟩
theorem c_W_prefers (hg : pm_gok 48 g) (hp : p < 8) (hq : q < 8) (hx : x < 8) : pm_C b d km_W_prefers [pm_R 1, pm_I (nI p), pm_I (nI q), pm_I (nI x)] g σ τ 0 0 (pm_Rd (bI (!decide (σ (22 + p) x ≤ σ (22 + p) q))) σ τ) := by
  show pm_Y b d km_W_prefers 0 false [some (pm_R 1), some (pm_I (nI p)), some (pm_I (nI q)), some (pm_I (nI x))] [] g σ τ 0 0 0 0 _
  refine pm_aload_n d_W_prefers_0 rfl ?_
  refine pm_getr d_W_prefers_1 hf_W_23 (hg.s rfl) (hg.i (by decide)) rfl (hg.r (by decide) rfl) ?_
  refine pm_iload_n d_W_prefers_4 rfl ?_
  refine pm_aaload p d_W_prefers_5 (hg.s rfl) (hg.i (by decide)) rfl hp (by decide) (hg.r (by decide) (sr_21 hp)) ?_
  refine pm_iload_n d_W_prefers_6 rfl ?_
  refine pm_iaload q d_W_prefers_7 (hg.s (sh_22 _ hp)) (hg.i (by have := (hp : p < 8); omega)) rfl hq (by decide) ?_
  refine pm_aload_n d_W_prefers_8 rfl ?_
  refine pm_getr d_W_prefers_9 hf_W_23 (hg.s rfl) (hg.i (by decide)) rfl (hg.r (by decide) rfl) ?_
  refine pm_iload_n d_W_prefers_12 rfl ?_
  refine pm_aaload p d_W_prefers_13 (hg.s rfl) (hg.i (by decide)) rfl hp (by decide) (hg.r (by decide) (sr_21 hp)) ?_
  refine pm_iload_n d_W_prefers_14 rfl ?_
  refine pm_iaload x d_W_prefers_15 (hg.s (sh_22 _ hp)) (hg.i (by have := (hp : p < 8); omega)) rfl hx (by decide) ?_
  refine pm_icmp_ge 23 d_W_prefers_16 rfl (fun c16 => ?_) (fun c16 => ?_)
  · refine pm_iconst' (nI 0) d_W_prefers_23 (by decide) ?_
    exact pm_zreturn d_W_prefers_24 rfl (Or.inl rfl) (fun h => h) (Nat.le_refl _) (Nat.le_refl _) ⟨by simp [bI, c16], rfl, rfl⟩
  · refine pm_iconst' (nI 1) d_W_prefers_19 (by decide) ?_
    refine pm_goto 24 d_W_prefers_20 rfl ?_
    exact pm_zreturn d_W_prefers_24 rfl (Or.inr rfl) (fun h => h) (Nat.le_refl _) (Nat.le_refl _) ⟨by simp [bI, c16], rfl, rfl⟩
theorem c_W_wouldBlock (hg : pm_gok 48 g) (hp : p < 8) (hq : q < 8) (hs : pm_sh h = (1, 8)) (hl : h < g.1) (ex : σ h p = nI x) (ey : σ h q = nI y) (hx : x < 8) (hy : y < 8) : pm_C b d km_W_wouldBlock [pm_R 1, pm_I (nI p), pm_I (nI q), pm_R h] g σ τ 0 0 (pm_Rd (bI (!decide (σ (22 + p) x ≤ σ (22 + p) q) && !decide (σ (22 + q) y ≤ σ (22 + q) p))) σ τ) := by
  show pm_Y b d km_W_wouldBlock 0 false [some (pm_R 1), some (pm_I (nI p)), some (pm_I (nI q)), some (pm_R h)] [] g σ τ 0 0 0 0 _
  refine pm_aload_n d_W_wouldBlock_0 rfl ?_
  refine pm_getr d_W_wouldBlock_1 hf_W_23 (hg.s rfl) (hg.i (by decide)) rfl (hg.r (by decide) rfl) ?_
  refine pm_iload_n d_W_wouldBlock_4 rfl ?_
  refine pm_aaload p d_W_wouldBlock_5 (hg.s rfl) (hg.i (by decide)) rfl hp (by decide) (hg.r (by decide) (sr_21 hp)) ?_
  refine pm_iload_n d_W_wouldBlock_6 rfl ?_
  refine pm_iaload q d_W_wouldBlock_7 (hg.s (sh_22 _ hp)) (hg.i (by have := (hp : p < 8); omega)) rfl hq (by decide) ?_
  refine pm_aload_n d_W_wouldBlock_8 rfl ?_
  refine pm_getr d_W_wouldBlock_9 hf_W_23 (hg.s rfl) (hg.i (by decide)) rfl (hg.r (by decide) rfl) ?_
  refine pm_iload_n d_W_wouldBlock_12 rfl ?_
  refine pm_aaload p d_W_wouldBlock_13 (hg.s rfl) (hg.i (by decide)) rfl hp (by decide) (hg.r (by decide) (sr_21 hp)) ?_
  refine pm_aload_n d_W_wouldBlock_14 rfl ?_
  refine pm_iload_n d_W_wouldBlock_15 rfl ?_
  refine pm_iaload' p (nI x) d_W_wouldBlock_16 (hg.s hs) hl rfl hp (by decide) ex ?_
  refine pm_iaload x d_W_wouldBlock_17 (hg.s (sh_22 _ hp)) (hg.i (by have := (hp : p < 8); omega)) rfl hx (by decide) ?_
  refine pm_icmp_ge 46 d_W_wouldBlock_18 rfl (fun c18 => ?_) (fun c18 => ?_)
  · refine pm_iconst' (nI 0) d_W_wouldBlock_46 (by decide) ?_
    exact pm_zreturn d_W_wouldBlock_47 rfl (Or.inl rfl) (fun h => h) (Nat.le_refl _) (Nat.le_refl _) ⟨by simp [bI, c18], rfl, rfl⟩
  · refine pm_aload_n d_W_wouldBlock_21 rfl ?_
    refine pm_getr d_W_wouldBlock_22 hf_W_23 (hg.s rfl) (hg.i (by decide)) rfl (hg.r (by decide) rfl) ?_
    refine pm_iload_n d_W_wouldBlock_25 rfl ?_
    refine pm_aaload q d_W_wouldBlock_26 (hg.s rfl) (hg.i (by decide)) rfl hq (by decide) (hg.r (by decide) (sr_21 hq)) ?_
    refine pm_iload_n d_W_wouldBlock_27 rfl ?_
    refine pm_iaload p d_W_wouldBlock_28 (hg.s (sh_22 _ hq)) (hg.i (by have := (hq : q < 8); omega)) rfl hp (by decide) ?_
    refine pm_aload_n d_W_wouldBlock_29 rfl ?_
    refine pm_getr d_W_wouldBlock_30 hf_W_23 (hg.s rfl) (hg.i (by decide)) rfl (hg.r (by decide) rfl) ?_
    refine pm_iload_n d_W_wouldBlock_33 rfl ?_
    refine pm_aaload q d_W_wouldBlock_34 (hg.s rfl) (hg.i (by decide)) rfl hq (by decide) (hg.r (by decide) (sr_21 hq)) ?_
    refine pm_aload_n d_W_wouldBlock_35 rfl ?_
    refine pm_iload_n d_W_wouldBlock_36 rfl ?_
    refine pm_iaload' q (nI y) d_W_wouldBlock_37 (hg.s hs) hl rfl hq (by decide) ey ?_
    refine pm_iaload y d_W_wouldBlock_38 (hg.s (sh_22 _ hq)) (hg.i (by have := (hq : q < 8); omega)) rfl hy (by decide) ?_
    refine pm_icmp_ge 46 d_W_wouldBlock_39 rfl (fun c39 => ?_) (fun c39 => ?_)
    · refine pm_iconst' (nI 0) d_W_wouldBlock_46 (by decide) ?_
      exact pm_zreturn d_W_wouldBlock_47 rfl (Or.inl rfl) (fun h => h) (Nat.le_refl _) (Nat.le_refl _) ⟨by simp [bI, c18, c39], rfl, rfl⟩
    · refine pm_iconst' (nI 1) d_W_wouldBlock_42 (by decide) ?_
      refine pm_goto 47 d_W_wouldBlock_43 rfl ?_
      exact pm_zreturn d_W_wouldBlock_47 rfl (Or.inr rfl) (fun h => h) (Nat.le_refl _) (Nat.le_refl _) ⟨by simp [bI, c18, c39], rfl, rfl⟩
theorem c_W_set (hg : pm_gok 48 g) (hp : p < 8) (hi : i < 8) (hq : q < 8) : pm_C b d km_W_set [pm_R 1, pm_I (nI p), pm_I (nI i), pm_I (nI q)] g σ τ 0 0 (pm_Wv (pm_up (pm_up σ (4 + p) i (nI q)) (13 + p) q (nI i)) τ) := by
  show pm_Y b d km_W_set 0 false [some (pm_R 1), some (pm_I (nI p)), some (pm_I (nI i)), some (pm_I (nI q))] [] g σ τ 0 0 0 0 _
  refine pm_aload_n d_W_set_0 rfl ?_
  refine pm_getr d_W_set_1 hf_W_17 (hg.s rfl) (hg.i (by decide)) rfl (hg.r (by decide) rfl) ?_
  refine pm_iload_n d_W_set_4 rfl ?_
  refine pm_aaload p d_W_set_5 (hg.s rfl) (hg.i (by decide)) rfl hp (by decide) (hg.r (by decide) (sr_3 hp)) ?_
  refine pm_iload_n d_W_set_6 rfl ?_
  refine pm_iload_n d_W_set_7 rfl ?_
  refine pm_iastore i d_W_set_8 (hg.s (sh_4 _ hp)) (hg.i (by have := (hp : p < 8); omega)) rfl hi (by decide) ?_
  refine pm_aload_n d_W_set_9 rfl ?_
  refine pm_getr d_W_set_10 hf_W_20 (hg.s rfl) (hg.i (by decide)) rfl (hg.r (by decide) rfl) ?_
  refine pm_iload_n d_W_set_13 rfl ?_
  refine pm_aaload p d_W_set_14 (hg.s rfl) (hg.i (by decide)) rfl hp (by decide) (hg.r (by decide) (sr_12 hp)) ?_
  refine pm_iload_n d_W_set_15 rfl ?_
  refine pm_iload_n d_W_set_16 rfl ?_
  refine pm_iastore q d_W_set_17 (hg.s (sh_13 _ hp)) (hg.i (by have := (hp : p < 8); omega)) rfl hq (by decide) ?_
  exact pm_return d_W_set_18 rfl (fun _ => rfl) (Nat.le_refl _) (Nat.le_refl _) ⟨rfl, rfl, rfl⟩
end W1
