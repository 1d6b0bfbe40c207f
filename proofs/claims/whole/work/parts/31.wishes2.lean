/-! the wishes: clear, noteChange -/
theorem pm_for {α : Type} (N : Nat) (Y I : Nat → α → Prop) (hs : ∀ i a, i < N → I i a → (∀ a', I (i + 1) a' → Y (i + 1) a') → Y i a) (hx : ∀ a, I N a → Y N a) : ∀ (m i : Nat) (a : α), i + m = N → I i a → Y i a
  | 0, i, a, h, hI => by
    have e : i = N := by omega
    subst e
    exact hx a hI
  | m + 1, i, a, h, hI => hs i a (by omega) hI (fun a' hI' => pm_for N Y I hs hx m (i + 1) a' (by omega) hI')
theorem pm_flag {b : pB} {d : Nat} {k : pK} {pc : Nat} {f : Bool} {lo : List (Option pV)} {st : List pV} {g : pG} {σ : pI} {τ : pJ} {cu su mc ms : Nat} {E : pE} (h : pm_Y b d k pc true lo st g σ τ cu su mc ms E) : pm_Y b d k pc f lo st g σ τ cu su mc ms E := by
  intro p e R s m args below meth c H locs ls ad jk hF hR hI hL
  exact h p e R s m args below meth c H locs ls ad jk hF hR ⟨hI.1, hI.2.1, hI.2.2.1, fun h => by cases h⟩ hL
def cl_row (σ₀ : pI) (p j : Nat) (σ : pI) : Prop := (∀ q, q < j → σ (13 + p) q = -1 ∧ σ (22 + p) q = nI (if p = q then 8 else 9)) ∧ ∀ c x, c ≠ 13 + p → c ≠ 22 + p → σ c x = σ₀ c x
def cl_all (σ₀ : pI) (n i : Nat) (σ : pI) : Prop := σ 1 4 = nI n ∧ σ 1 5 = σ₀ 1 5 ∧ (∀ p, p < i → σ 2 p = nI 0) ∧ (∀ p q, p < i → q < 8 → σ (13 + p) q = -1 ∧ σ (22 + p) q = nI (if p = q then 8 else 9)) ∧ ∀ c x, c = 0 ∨ (3 ≤ c ∧ c ≤ 12) ∨ 30 ≤ c → σ c x = σ₀ c x
def cl_end (σ₀ : pI) (n : Nat) (σ : pI) : Prop := σ 1 4 = nI n ∧ σ 1 5 = σ₀ 1 5 + nI 1 ∧ (∀ p, p < 8 → σ 2 p = nI 0) ∧ (∀ p q, p < 8 → q < 8 → σ (13 + p) q = -1 ∧ σ (22 + p) q = nI (if p = q then 8 else 9)) ∧ ∀ c x, c = 0 ∨ (3 ≤ c ∧ c ≤ 12) ∨ 30 ≤ c → σ c x = σ₀ c x
theorem cl_row_s {σ₀ σ : pI} {p j : Nat} (h : cl_row σ₀ p j σ) {v : Int32} (hv : v = nI (if p = j then 8 else 9)) : cl_row σ₀ p (j + 1) (pm_up (pm_up σ (13 + p) j (-1)) (22 + p) j v) := by
  refine ⟨fun q hq => ?_, fun c x h1 h2 => ?_⟩
  · by_cases e : q = j
    · subst e
      refine ⟨?_, ?_⟩
      · rw [pm_up_ne (by omega), pm_up_at]
      · rw [pm_up_at]; exact hv
    · have h3 := h.1 q (by omega)
      rw [pm_up_ne (by omega), pm_up_ne (by omega), pm_up_ne (by omega), pm_up_ne (by omega)]
      exact h3
  · rw [pm_up_ne (by omega), pm_up_ne (by omega)]
    exact h.2 c x h1 h2
theorem cl_all_s {σ₀ σ σ' : pI} {n i : Nat} (h : cl_all σ₀ n i σ) (hr : cl_row (pm_up σ 2 i (nI 0)) i 8 σ') (hi : i < 8) : cl_all σ₀ n (i + 1) σ' := by
  obtain ⟨h1, h2, h3, h4, h5⟩ := h
  obtain ⟨r1, r2⟩ := hr
  refine ⟨?_, ?_, fun p hp => ?_, fun p q hp hq => ?_, fun c x hc => ?_⟩
  · rw [r2 1 4 (by omega) (by omega), pm_up_ne (by omega)]; exact h1
  · rw [r2 1 5 (by omega) (by omega), pm_up_ne (by omega)]; exact h2
  · rw [r2 2 p (by omega) (by omega)]
    by_cases e : p = i
    · subst e; rw [pm_up_at]
    · rw [pm_up_ne (by omega)]; exact h3 p (by omega)
  · by_cases e : p = i
    · subst e; exact r1 q hq
    · rw [r2 (13 + p) q (by omega) (by omega), r2 (22 + p) q (by omega) (by omega), pm_up_ne (by omega), pm_up_ne (by omega)]
      exact h4 p q (by omega) hq
  · rw [r2 c x (by omega) (by omega), pm_up_ne (by omega)]
    exact h5 c x hc
section W2
variable {b : pB} {g : pG} {σ : pI} {τ : pJ} {d p q x y i h n : Nat}
theorem l_W_clear_22 (hg : pm_gok 48 g) (hp : p < 8) {σ₁ : pI} {E : pE} (K : ∀ σ', cl_row σ₁ p 8 σ' → pm_Y b d km_W_clear 63 true [some (pm_R 1), some (pm_I (nI n)), some (pm_I (nI p)), some (pm_I (nI 8))] [] g σ' τ 0 0 0 0 E) : pm_Y b d km_W_clear 22 true [some (pm_R 1), some (pm_I (nI n)), some (pm_I (nI p)), some (pm_I (nI 0))] [] g σ₁ τ 0 0 0 0 E := by
  refine pm_for 8 (fun j σ₂ => pm_Y b d km_W_clear 22 true [some (pm_R 1), some (pm_I (nI n)), some (pm_I (nI p)), some (pm_I (nI j))] [] g σ₂ τ 0 0 0 0 E) (cl_row σ₁ p) (fun j σ₂ hj hI ih => ?_) (fun σ₂ hI => ?_) 8 0 σ₁ rfl ⟨fun q hq => absurd hq (Nat.not_lt_zero q), fun _ _ _ _ => rfl⟩
  · refine pm_iload_n d_W_clear_22 rfl ?_
    refine pm_bipush' (nI 8) d_W_clear_23 (by decide) ?_
    refine pm_icmp_ge_f 63 d_W_clear_25 rfl (by rw [nI_leI (by omega) (by omega)]; omega) ?_
    refine pm_aload_n d_W_clear_28 rfl ?_
    refine pm_getr d_W_clear_29 hf_W_20 (hg.s rfl) (hg.i (by decide)) rfl (hg.r (by decide) rfl) ?_
    refine pm_iload_n d_W_clear_32 rfl ?_
    refine pm_aaload p d_W_clear_33 (hg.s rfl) (hg.i (by decide)) rfl hp (by decide) (hg.r (by decide) (sr_12 hp)) ?_
    refine pm_iload_n d_W_clear_34 rfl ?_
    refine pm_iconst' (-1) d_W_clear_35 (by decide) ?_
    refine pm_iastore j d_W_clear_36 (hg.s (sh_13 _ hp)) (hg.i (by have := (hp : p < 8); omega)) rfl hj (by decide) ?_
    refine pm_aload_n d_W_clear_37 rfl ?_
    refine pm_getr d_W_clear_38 hf_W_23 (hg.s rfl) (hg.i (by decide)) rfl (hg.r (by decide) rfl) ?_
    refine pm_iload_n d_W_clear_41 rfl ?_
    refine pm_aaload p d_W_clear_42 (hg.s rfl) (hg.i (by decide)) rfl hp (by decide) (hg.r (by decide) (sr_21 hp)) ?_
    refine pm_iload_n d_W_clear_43 rfl ?_
    refine pm_iload_n d_W_clear_44 rfl ?_
    refine pm_iload_n d_W_clear_45 rfl ?_
    refine pm_icmp_neN 54 d_W_clear_46 rfl (by omega) (by omega) (fun c46 => ?_) (fun c46 => ?_)
    · refine pm_bipush' (nI 9) d_W_clear_54 (by decide) ?_
      refine pm_iastore j d_W_clear_56 (hg.s (sh_22 _ hp)) (hg.i (by have := (hp : p < 8); omega)) rfl hj (by decide) ?_
      refine pm_iinc' (nI (j + 1)) d_W_clear_57 (by decide) rfl (pm_inc _) ?_
      refine pm_goto 22 d_W_clear_60 rfl ?_
      -- at 22: lo=[some (pm_R 1), some (pm_I (nI n)), some (pm_I (nI p)), some (pm_I (nI (j + 1)))] st=[]
      exact ih _ (cl_row_s hI (by simp [c46]))
    · refine pm_bipush' (nI 8) d_W_clear_49 (by decide) ?_
      refine pm_goto 56 d_W_clear_51 rfl ?_
      refine pm_iastore j d_W_clear_56 (hg.s (sh_22 _ hp)) (hg.i (by have := (hp : p < 8); omega)) rfl hj (by decide) ?_
      refine pm_iinc' (nI (j + 1)) d_W_clear_57 (by decide) rfl (pm_inc _) ?_
      refine pm_goto 22 d_W_clear_60 rfl ?_
      -- at 22: lo=[some (pm_R 1), some (pm_I (nI n)), some (pm_I (nI p)), some (pm_I (nI (j + 1)))] st=[]
      exact ih _ (cl_row_s hI (by simp [c46]))
  · refine pm_iload_n d_W_clear_22 rfl ?_
    refine pm_bipush' (nI 8) d_W_clear_23 (by decide) ?_
    refine pm_icmp_ge_t 63 d_W_clear_25 rfl (by decide) ?_
    exact K σ₂ hI
theorem cl_fin {σ₀ σ : pI} {n : Nat} (h : cl_all σ₀ n 8 σ) : cl_end σ₀ n (pm_up σ 1 5 (σ 1 5 + nI 1)) := by
  obtain ⟨h1, h2, h3, h4, h5⟩ := h
  refine ⟨?_, ?_, fun p hp => ?_, fun p q hp hq => ?_, fun c x hc => ?_⟩
  · rw [pm_up_ne (by omega)]; exact h1
  · rw [pm_up_at, h2]
  · rw [pm_up_ne (by omega)]; exact h3 p hp
  · rw [pm_up_ne (by omega), pm_up_ne (by omega)]; exact h4 p q hp hq
  · rw [pm_up_ne (by omega)]; exact h5 c x hc
theorem l_W_clear_7 (hg : pm_gok 48 g) {σ₁ : pI} (h0 : cl_all σ n 0 σ₁) (l3 : Option pV) : pm_Y b d km_W_clear 7 true [some (pm_R 1), some (pm_I (nI n)), some (pm_I (nI 0)), l3] [] g σ₁ τ 0 0 0 0 (pm_Wp (fun v σ' => v = none ∧ cl_end σ n σ') τ) := by
  refine pm_for 8 (fun p σ₂ => ∀ l3 : Option pV, pm_Y b d km_W_clear 7 true [some (pm_R 1), some (pm_I (nI n)), some (pm_I (nI p)), l3] [] g σ₂ τ 0 0 0 0 (pm_Wp (fun v σ' => v = none ∧ cl_end σ n σ') τ)) (cl_all σ n) (fun p σ₂ hp hI ih3 l3 => ?_) (fun σ₂ hI l3 => ?_) 8 0 σ₁ rfl h0 l3
  · refine pm_iload_n d_W_clear_7 rfl ?_
    refine pm_bipush' (nI 8) d_W_clear_8 (by decide) ?_
    refine pm_icmp_ge_f 69 d_W_clear_10 rfl (by rw [nI_leI (by omega) (by omega)]; omega) ?_
    refine pm_aload_n d_W_clear_13 rfl ?_
    refine pm_getr d_W_clear_14 hf_W_9 (hg.s rfl) (hg.i (by decide)) rfl (hg.r (by decide) rfl) ?_
    refine pm_iload_n d_W_clear_17 rfl ?_
    refine pm_iconst' (nI 0) d_W_clear_18 (by decide) ?_
    refine pm_iastore p d_W_clear_19 (hg.s rfl) (hg.i (by decide)) rfl hp (by decide) ?_
    refine pm_iconst' (nI 0) d_W_clear_20 (by decide) ?_
    refine pm_istore_n d_W_clear_21 (by decide) ?_
    -- at 22: lo=[some (pm_R 1), some (pm_I (nI n)), some (pm_I (nI p)), some (pm_I (nI 0))] st=[]
    refine l_W_clear_22 hg hp (fun σ₃ hr => ?_)
    refine pm_iinc' (nI (p + 1)) d_W_clear_63 (by decide) rfl (pm_inc _) ?_
    refine pm_goto 7 d_W_clear_66 rfl ?_
    -- at 7: lo=[some (pm_R 1), some (pm_I (nI n)), some (pm_I (nI (p + 1))), some (pm_I (nI 8))] st=[]
    exact ih3 _ (cl_all_s hI hr hp) _
  · refine pm_iload_n d_W_clear_7 rfl ?_
    refine pm_bipush' (nI 8) d_W_clear_8 (by decide) ?_
    refine pm_icmp_ge_t 69 d_W_clear_10 rfl (by decide) ?_
    refine pm_aload_n d_W_clear_69 rfl ?_
    refine pm_dup d_W_clear_70 rfl ?_
    refine pm_geti d_W_clear_71 hf_W_30 (hg.s rfl) (hg.i (by decide)) rfl ?_
    refine pm_iconst' (nI 1) d_W_clear_74 (by decide) ?_
    refine pm_iadd d_W_clear_75 ?_
    refine pm_puti d_W_clear_76 hp_W_30 (hg.s rfl) (hg.i (by decide)) rfl ?_
    exact pm_return d_W_clear_79 rfl (fun _ => rfl) (Nat.le_refl _) (Nat.le_refl _) ⟨⟨rfl, cl_fin hI⟩, rfl⟩
theorem c_W_clear (hg : pm_gok 48 g) : pm_C b d km_W_clear [pm_R 1, pm_I (nI n)] g σ τ 0 0 (pm_Wp (fun v σ' => v = none ∧ cl_end σ n σ') τ) := by
  show pm_Y b d km_W_clear 0 false [some (pm_R 1), some (pm_I (nI n)), none, none] [] g σ τ 0 0 0 0 _
  refine pm_aload_n d_W_clear_0 rfl ?_
  refine pm_iload_n d_W_clear_1 rfl ?_
  refine pm_puti d_W_clear_2 hp_W_26 (hg.s rfl) (hg.i (by decide)) rfl ?_
  refine pm_iconst' (nI 0) d_W_clear_5 (by decide) ?_
  refine pm_istore_n d_W_clear_6 (by decide) ?_
  -- at 7: lo=[some (pm_R 1), some (pm_I (nI n)), some (pm_I (nI 0)), none] st=[]
  refine l_W_clear_7 hg ⟨pm_up_at, pm_up_ne (by omega), fun p hp => absurd hp (Nat.not_lt_zero p), fun p q hp => absurd hp (Nat.not_lt_zero p), fun c x hc => pm_up_ne (by omega)⟩ none
end W2
