/-! the wishes: noteChange, slide -/
def nc_v (σ : pI) (p q : Nat) : Int32 := if σ (13 + p) q = -1 ∨ σ (13 + q) p = -1 then nI 9 else σ (13 + p) q
def nc_I (σ₀ : pI) (p i : Nat) (σ : pI) : Prop := (∀ q, q < i → q ≠ p → σ (22 + p) q = nc_v σ₀ p q ∧ σ (22 + q) p = nc_v σ₀ q p) ∧ σ (22 + p) p = σ₀ (22 + p) p ∧ ∀ c x, ¬ (22 ≤ c ∧ c < 30 ∧ (c = 22 + p ∨ x = p)) → σ c x = σ₀ c x
def nc_end (σ₀ : pI) (p : Nat) (σ : pI) : Prop := (∀ q, q < 8 → q ≠ p → σ (22 + p) q = nc_v σ₀ p q ∧ σ (22 + q) p = nc_v σ₀ q p) ∧ σ (22 + p) p = σ₀ (22 + p) p ∧ σ 1 5 = σ₀ 1 5 + nI 1 ∧ ∀ c x, ¬ (22 ≤ c ∧ c < 30 ∧ (c = 22 + p ∨ x = p)) → ¬ (c = 1 ∧ x = 5) → σ c x = σ₀ c x
theorem nc_skip {σ₀ σ : pI} {p : Nat} (h : nc_I σ₀ p p σ) : nc_I σ₀ p (p + 1) σ := ⟨fun q hq hne => h.1 q (by omega) hne, h.2⟩
theorem nc_step {σ₀ σ : pI} {p i : Nat} (h : nc_I σ₀ p i σ) (hp : p < 8) (hi : i < 8) (hne : i ≠ p) {v w : Int32} (hv : v = nc_v σ p i) (hw : w = nc_v σ i p) : nc_I σ₀ p (i + 1) (pm_up (pm_up σ (22 + p) i v) (22 + i) p w) := by
  obtain ⟨h1, h2, h3⟩ := h
  have e1 : nc_v σ p i = nc_v σ₀ p i := by unfold nc_v; rw [h3 (13 + p) i (by omega), h3 (13 + i) p (by omega)]
  have e2 : nc_v σ i p = nc_v σ₀ i p := by unfold nc_v; rw [h3 (13 + p) i (by omega), h3 (13 + i) p (by omega)]
  refine ⟨fun q hq hqp => ?_, ?_, fun c x hc => ?_⟩
  · by_cases e : q = i
    · subst e
      rw [pm_up_ne (by omega), pm_up_at, pm_up_at, hv, hw, e1, e2]
      exact ⟨rfl, rfl⟩
    · rw [pm_up_ne (by omega), pm_up_ne (by omega), pm_up_ne (by omega), pm_up_ne (by omega)]
      exact h1 q (by omega) hqp
  · rw [pm_up_ne (by omega), pm_up_ne (by omega)]; exact h2
  · rw [pm_up_ne (by omega), pm_up_ne (by omega)]; exact h3 c x hc
theorem nc_fin {σ₀ σ : pI} {p : Nat} (h : nc_I σ₀ p 8 σ) : nc_end σ₀ p (pm_up σ 1 5 (σ 1 5 + nI 1)) := by
  obtain ⟨h1, h2, h3⟩ := h
  refine ⟨fun q hq hqp => ?_, ?_, ?_, fun c x hc hn => ?_⟩
  · rw [pm_up_ne (by omega), pm_up_ne (by omega)]; exact h1 q hq hqp
  · rw [pm_up_ne (by omega)]; exact h2
  · rw [pm_up_at, h3 1 5 (by omega)]
  · rw [pm_up_ne (by omega)]; exact h3 c x hc
section W3
variable {b : pB} {g : pG} {σ : pI} {τ : pJ} {d p q x y i h n : Nat}
theorem c_W_noteChange (hg : pm_gok 48 g) (hp : p < 8) : pm_C b d km_W_noteChange [pm_R 1, pm_I (nI p)] g σ τ 0 0 (pm_Wp (fun v σ' => v = none ∧ nc_end σ p σ') τ) := by
  show pm_Y b d km_W_noteChange 0 false [some (pm_R 1), some (pm_I (nI p)), none, none] [] g σ τ 0 0 0 0 _
  refine pm_iconst' (nI 0) d_W_noteChange_0 (by decide) ?_
  refine pm_istore_n d_W_noteChange_1 (by decide) ?_
  refine pm_flag ?_
  refine pm_for 8 (fun i σ₂ => ∀ l3 : Option pV, pm_Y b d km_W_noteChange 2 true [some (pm_R 1), some (pm_I (nI p)), some (pm_I (nI i)), l3] [] g σ₂ τ 0 0 0 0 (pm_Wp (fun v σ' => v = none ∧ nc_end σ p σ') τ)) (nc_I σ p) (fun i σ₂ hi hI ih l3 => ?_) (fun σ₂ hI l3 => ?_) 8 0 σ rfl ⟨fun q hq => absurd hq (Nat.not_lt_zero q), rfl, fun _ _ _ => rfl⟩ none
  · refine pm_iload_n d_W_noteChange_2 rfl ?_
    refine pm_bipush' (nI 8) d_W_noteChange_3 (by decide) ?_
    refine pm_icmp_ge_f 99 d_W_noteChange_5 rfl (by rw [nI_leI (by omega) (by omega)]; omega) ?_
    refine pm_iload_n d_W_noteChange_8 rfl ?_
    refine pm_iload_n d_W_noteChange_9 rfl ?_
    refine pm_icmp_eqN 93 d_W_noteChange_10 rfl (by omega) (by omega) (fun c10 => ?_) (fun c10 => ?_)
    · refine pm_iinc' (nI (i + 1)) d_W_noteChange_93 (by decide) rfl (pm_inc _) ?_
      refine pm_goto 2 d_W_noteChange_96 rfl ?_
      -- at 2: lo=[some (pm_R 1), some (pm_I (nI p)), some (pm_I (nI (i + 1))), none] st=[]
      exact ih _ (by subst c10; exact nc_skip hI) _
    · refine pm_aload_n d_W_noteChange_13 rfl ?_
      refine pm_getr d_W_noteChange_14 hf_W_20 (hg.s rfl) (hg.i (by decide)) rfl (hg.r (by decide) rfl) ?_
      refine pm_iload_n d_W_noteChange_17 rfl ?_
      refine pm_aaload p d_W_noteChange_18 (hg.s rfl) (hg.i (by decide)) rfl hp (by decide) (hg.r (by decide) (sr_12 hp)) ?_
      refine pm_iload_n d_W_noteChange_19 rfl ?_
      refine pm_iaload i d_W_noteChange_20 (hg.s (sh_13 _ hp)) (hg.i (by have := (hp : p < 8); omega)) rfl hi (by decide) ?_
      refine pm_iconst' (-1) d_W_noteChange_21 (by decide) ?_
      refine pm_icmp_eq 41 d_W_noteChange_22 rfl (fun c22 => ?_) (fun c22 => ?_)
      · refine pm_iconst' (nI 0) d_W_noteChange_41 (by decide) ?_
        refine pm_istore_n d_W_noteChange_42 (by decide) ?_
        refine pm_aload_n d_W_noteChange_43 rfl ?_
        refine pm_getr d_W_noteChange_44 hf_W_23 (hg.s rfl) (hg.i (by decide)) rfl (hg.r (by decide) rfl) ?_
        refine pm_iload_n d_W_noteChange_47 rfl ?_
        refine pm_aaload p d_W_noteChange_48 (hg.s rfl) (hg.i (by decide)) rfl hp (by decide) (hg.r (by decide) (sr_21 hp)) ?_
        refine pm_iload_n d_W_noteChange_49 rfl ?_
        refine pm_iload_n d_W_noteChange_50 rfl ?_
        refine pm_if_eq_t 65 d_W_noteChange_51 rfl (by decide) ?_
        refine pm_bipush' (nI 9) d_W_noteChange_65 (by decide) ?_
        refine pm_iastore i d_W_noteChange_67 (hg.s (sh_22 _ hp)) (hg.i (by have := (hp : p < 8); omega)) rfl hi (by decide) ?_
        refine pm_aload_n d_W_noteChange_68 rfl ?_
        refine pm_getr d_W_noteChange_69 hf_W_23 (hg.s rfl) (hg.i (by decide)) rfl (hg.r (by decide) rfl) ?_
        refine pm_iload_n d_W_noteChange_72 rfl ?_
        refine pm_aaload i d_W_noteChange_73 (hg.s rfl) (hg.i (by decide)) rfl hi (by decide) (hg.r (by decide) (sr_21 hi)) ?_
        refine pm_iload_n d_W_noteChange_74 rfl ?_
        refine pm_iload_n d_W_noteChange_75 rfl ?_
        refine pm_if_eq_t 90 d_W_noteChange_76 rfl (by decide) ?_
        refine pm_bipush' (nI 9) d_W_noteChange_90 (by decide) ?_
        refine pm_iastore p d_W_noteChange_92 (hg.s (sh_22 _ hi)) (hg.i (by have := (hi : i < 8); omega)) rfl hp (by decide) ?_
        refine pm_iinc' (nI (i + 1)) d_W_noteChange_93 (by decide) rfl (pm_inc _) ?_
        refine pm_goto 2 d_W_noteChange_96 rfl ?_
        -- at 2: lo=[some (pm_R 1), some (pm_I (nI p)), some (pm_I (nI (i + 1))), some (pm_I (nI 0))] st=[]
        exact ih _ (nc_step hI hp hi c10 (by first | simp [nc_v, c22, c34] | simp [nc_v, c22]) (by (try rw [pm_up_ne (by omega)]); first | simp [nc_v, c22, c34] | simp [nc_v, c22])) _
      · refine pm_aload_n d_W_noteChange_25 rfl ?_
        refine pm_getr d_W_noteChange_26 hf_W_20 (hg.s rfl) (hg.i (by decide)) rfl (hg.r (by decide) rfl) ?_
        refine pm_iload_n d_W_noteChange_29 rfl ?_
        refine pm_aaload i d_W_noteChange_30 (hg.s rfl) (hg.i (by decide)) rfl hi (by decide) (hg.r (by decide) (sr_12 hi)) ?_
        refine pm_iload_n d_W_noteChange_31 rfl ?_
        refine pm_iaload p d_W_noteChange_32 (hg.s (sh_13 _ hi)) (hg.i (by have := (hi : i < 8); omega)) rfl hp (by decide) ?_
        refine pm_iconst' (-1) d_W_noteChange_33 (by decide) ?_
        refine pm_icmp_eq 41 d_W_noteChange_34 rfl (fun c34 => ?_) (fun c34 => ?_)
        · refine pm_iconst' (nI 0) d_W_noteChange_41 (by decide) ?_
          refine pm_istore_n d_W_noteChange_42 (by decide) ?_
          refine pm_aload_n d_W_noteChange_43 rfl ?_
          refine pm_getr d_W_noteChange_44 hf_W_23 (hg.s rfl) (hg.i (by decide)) rfl (hg.r (by decide) rfl) ?_
          refine pm_iload_n d_W_noteChange_47 rfl ?_
          refine pm_aaload p d_W_noteChange_48 (hg.s rfl) (hg.i (by decide)) rfl hp (by decide) (hg.r (by decide) (sr_21 hp)) ?_
          refine pm_iload_n d_W_noteChange_49 rfl ?_
          refine pm_iload_n d_W_noteChange_50 rfl ?_
          refine pm_if_eq_t 65 d_W_noteChange_51 rfl (by decide) ?_
          refine pm_bipush' (nI 9) d_W_noteChange_65 (by decide) ?_
          refine pm_iastore i d_W_noteChange_67 (hg.s (sh_22 _ hp)) (hg.i (by have := (hp : p < 8); omega)) rfl hi (by decide) ?_
          refine pm_aload_n d_W_noteChange_68 rfl ?_
          refine pm_getr d_W_noteChange_69 hf_W_23 (hg.s rfl) (hg.i (by decide)) rfl (hg.r (by decide) rfl) ?_
          refine pm_iload_n d_W_noteChange_72 rfl ?_
          refine pm_aaload i d_W_noteChange_73 (hg.s rfl) (hg.i (by decide)) rfl hi (by decide) (hg.r (by decide) (sr_21 hi)) ?_
          refine pm_iload_n d_W_noteChange_74 rfl ?_
          refine pm_iload_n d_W_noteChange_75 rfl ?_
          refine pm_if_eq_t 90 d_W_noteChange_76 rfl (by decide) ?_
          refine pm_bipush' (nI 9) d_W_noteChange_90 (by decide) ?_
          refine pm_iastore p d_W_noteChange_92 (hg.s (sh_22 _ hi)) (hg.i (by have := (hi : i < 8); omega)) rfl hp (by decide) ?_
          refine pm_iinc' (nI (i + 1)) d_W_noteChange_93 (by decide) rfl (pm_inc _) ?_
          refine pm_goto 2 d_W_noteChange_96 rfl ?_
          -- at 2: lo=[some (pm_R 1), some (pm_I (nI p)), some (pm_I (nI (i + 1))), some (pm_I (nI 0))] st=[]
          exact ih _ (nc_step hI hp hi c10 (by first | simp [nc_v, c22, c34] | simp [nc_v, c22]) (by (try rw [pm_up_ne (by omega)]); first | simp [nc_v, c22, c34] | simp [nc_v, c22])) _
        · refine pm_iconst' (nI 1) d_W_noteChange_37 (by decide) ?_
          refine pm_goto 42 d_W_noteChange_38 rfl ?_
          refine pm_istore_n d_W_noteChange_42 (by decide) ?_
          refine pm_aload_n d_W_noteChange_43 rfl ?_
          refine pm_getr d_W_noteChange_44 hf_W_23 (hg.s rfl) (hg.i (by decide)) rfl (hg.r (by decide) rfl) ?_
          refine pm_iload_n d_W_noteChange_47 rfl ?_
          refine pm_aaload p d_W_noteChange_48 (hg.s rfl) (hg.i (by decide)) rfl hp (by decide) (hg.r (by decide) (sr_21 hp)) ?_
          refine pm_iload_n d_W_noteChange_49 rfl ?_
          refine pm_iload_n d_W_noteChange_50 rfl ?_
          refine pm_if_eq_f 65 d_W_noteChange_51 rfl (by decide) ?_
          refine pm_aload_n d_W_noteChange_54 rfl ?_
          refine pm_getr d_W_noteChange_55 hf_W_20 (hg.s rfl) (hg.i (by decide)) rfl (hg.r (by decide) rfl) ?_
          refine pm_iload_n d_W_noteChange_58 rfl ?_
          refine pm_aaload p d_W_noteChange_59 (hg.s rfl) (hg.i (by decide)) rfl hp (by decide) (hg.r (by decide) (sr_12 hp)) ?_
          refine pm_iload_n d_W_noteChange_60 rfl ?_
          refine pm_iaload i d_W_noteChange_61 (hg.s (sh_13 _ hp)) (hg.i (by have := (hp : p < 8); omega)) rfl hi (by decide) ?_
          refine pm_goto 67 d_W_noteChange_62 rfl ?_
          refine pm_iastore i d_W_noteChange_67 (hg.s (sh_22 _ hp)) (hg.i (by have := (hp : p < 8); omega)) rfl hi (by decide) ?_
          refine pm_aload_n d_W_noteChange_68 rfl ?_
          refine pm_getr d_W_noteChange_69 hf_W_23 (hg.s rfl) (hg.i (by decide)) rfl (hg.r (by decide) rfl) ?_
          refine pm_iload_n d_W_noteChange_72 rfl ?_
          refine pm_aaload i d_W_noteChange_73 (hg.s rfl) (hg.i (by decide)) rfl hi (by decide) (hg.r (by decide) (sr_21 hi)) ?_
          refine pm_iload_n d_W_noteChange_74 rfl ?_
          refine pm_iload_n d_W_noteChange_75 rfl ?_
          refine pm_if_eq_f 90 d_W_noteChange_76 rfl (by decide) ?_
          refine pm_aload_n d_W_noteChange_79 rfl ?_
          refine pm_getr d_W_noteChange_80 hf_W_20 (hg.s rfl) (hg.i (by decide)) rfl (hg.r (by decide) rfl) ?_
          refine pm_iload_n d_W_noteChange_83 rfl ?_
          refine pm_aaload i d_W_noteChange_84 (hg.s rfl) (hg.i (by decide)) rfl hi (by decide) (hg.r (by decide) (sr_12 hi)) ?_
          refine pm_iload_n d_W_noteChange_85 rfl ?_
          refine pm_iaload p d_W_noteChange_86 (hg.s (sh_13 _ hi)) (hg.i (by have := (hi : i < 8); omega)) rfl hp (by decide) ?_
          refine pm_goto 92 d_W_noteChange_87 rfl ?_
          refine pm_iastore p d_W_noteChange_92 (hg.s (sh_22 _ hi)) (hg.i (by have := (hi : i < 8); omega)) rfl hp (by decide) ?_
          refine pm_iinc' (nI (i + 1)) d_W_noteChange_93 (by decide) rfl (pm_inc _) ?_
          refine pm_goto 2 d_W_noteChange_96 rfl ?_
          -- at 2: lo=[some (pm_R 1), some (pm_I (nI p)), some (pm_I (nI (i + 1))), some (pm_I (nI 1))] st=[]
          exact ih _ (nc_step hI hp hi c10 (by first | simp [nc_v, c22, c34] | simp [nc_v, c22]) (by (try rw [pm_up_ne (by omega)]); first | simp [nc_v, c22, c34] | simp [nc_v, c22])) _
  · refine pm_iload_n d_W_noteChange_2 rfl ?_
    refine pm_bipush' (nI 8) d_W_noteChange_3 (by decide) ?_
    refine pm_icmp_ge_t 99 d_W_noteChange_5 rfl (by decide) ?_
    refine pm_aload_n d_W_noteChange_99 rfl ?_
    refine pm_dup d_W_noteChange_100 rfl ?_
    refine pm_geti d_W_noteChange_101 hf_W_30 (hg.s rfl) (hg.i (by decide)) rfl ?_
    refine pm_iconst' (nI 1) d_W_noteChange_104 (by decide) ?_
    refine pm_iadd d_W_noteChange_105 ?_
    refine pm_puti d_W_noteChange_106 hp_W_30 (hg.s rfl) (hg.i (by decide)) rfl ?_
    exact pm_return d_W_noteChange_109 rfl (fun _ => rfl) (Nat.le_refl _) (Nat.le_refl _) ⟨⟨rfl, nc_fin hI⟩, rfl⟩
end W3
def sl_R (σ₀ : pI) (p : Nat) (l : List Nat) (Aa Bb : Nat → Nat) (σ : pI) : Prop := (∀ k, k < l.length → σ (4 + p) k = nI (l.getD (Aa k) 0)) ∧ (∀ j, j < l.length → σ (13 + p) (l.getD j 0) = nI (Bb j)) ∧ (∀ q, q ∉ l → σ (13 + p) q = σ₀ (13 + p) q) ∧ ∀ c x, c ≠ 4 + p → c ≠ 13 + p → σ c x = σ₀ c x
theorem sl_step {σ₀ σ : pI} {p i j : Nat} {l : List Nat} {Aa Bb Aa' Bb' : Nat → Nat} (h : sl_R σ₀ p l Aa Bb σ) (hp : p < 8) (hl : l.Nodup) (hj : j < l.length) (hA : ∀ k, Aa' k = if k = i then j else Aa k) (hB : ∀ k, Bb' k = if k = j then i else Bb k) :
    sl_R σ₀ p l Aa' Bb' (pm_up (pm_up σ (4 + p) i (nI (l.getD j 0))) (13 + p) (l.getD j 0) (nI i)) := by
  obtain ⟨h1, h2, h3, h4⟩ := h
  have hm : l.getD j 0 ∈ l := (mem_get l _).mpr ⟨j, hj, rfl⟩
  refine ⟨fun k hk => ?_, fun k hk => ?_, fun q hq => ?_, fun c x hc hc2 => ?_⟩
  · rw [hA k, pm_up_ne (by omega)]
    by_cases e : k = i
    · subst e; rw [pm_up_at, if_pos rfl]
    · rw [pm_up_ne (by omega), if_neg e]; exact h1 k hk
  · rw [hB k]
    by_cases e : k = j
    · subst e; rw [pm_up_at, if_pos rfl]
    · have hne : l.getD k 0 ≠ l.getD j 0 := fun z => e ((nd_iff l).mp hl k j hk hj z)
      rw [pm_up_ne (fun z => hne z.2), pm_up_ne (by omega), if_neg e]; exact h2 k hk
  · rw [pm_up_ne (fun z => hq (by rw [z.2]; exact hm)), pm_up_ne (by omega)]; exact h3 q hq
  · rw [pm_up_ne (by omega), pm_up_ne (by omega)]; exact h4 c x hc hc2
theorem sl_eq {σ₀ σ : pI} {p : Nat} {l : List Nat} {Aa Bb Aa' Bb' : Nat → Nat} (h : sl_R σ₀ p l Aa Bb σ) (hA : ∀ k, Aa' k = Aa k) (hB : ∀ k, Bb' k = Bb k) : sl_R σ₀ p l Aa' Bb' σ := by
  have e1 : Aa' = Aa := funext hA
  have e2 : Bb' = Bb := funext hB
  rw [e1, e2]
  exact h
section W4
variable {b : pB} {g : pG} {σ : pI} {τ : pJ} {d p q x y i f t : Nat} {l : List Nat}
def sl_end (σ₀ : pI) (p : Nat) (l : List Nat) (f t : Nat) (σ : pI) : Prop := (∀ k, k < l.length → σ (4 + p) k = nI (l.getD (mv_at f t k) 0)) ∧ (∀ k, k < l.length → σ (13 + p) (l.getD (mv_at f t k) 0) = nI k) ∧ (∀ q, q ∉ l → σ (13 + p) q = σ₀ (13 + p) q) ∧ ∀ c x, c ≠ 4 + p → c ≠ 13 + p → σ c x = σ₀ c x
theorem sl_fin {σ₀ σ : pI} {Aa Bb : Nat → Nat} (h : sl_R σ₀ p l Aa Bb σ) (hf : f < l.length) (ht : t < l.length) (hA : ∀ k, Aa k = mv_at f t k) (hB : ∀ k, Bb (mv_at f t k) = k) : sl_end σ₀ p l f t σ := by
  obtain ⟨h1, h2, h3, h4⟩ := h
  refine ⟨fun k hk => ?_, fun k hk => ?_, h3, h4⟩
  · rw [h1 k hk, hA k]
  · rw [h2 _ (mv_at_lt hf ht hk), hB k]
theorem l_W_slide_13 (hg : pm_gok 48 g) (hB : pm_base b) (hp : p < 8) (hn : l.Nodup) (hm : l.length ≤ 7) (hb : ∀ k, l.getD k 0 < 8) (ht : t < l.length) (hft : f ≤ t) {E : pE} {σ₁ : pI} (h0 : sl_R σ p l (fun k => k) (fun k => k) σ₁)
    (K : ∀ σ', sl_R σ p l (fun k => if f ≤ k ∧ k < t then k + 1 else k) (fun k => if f < k ∧ k ≤ t then k - 1 else k) σ' → pm_Y b (d + 1) km_W_slide 43 true [some (pm_R 1), some (pm_I (nI p)), some (pm_I (nI f)), some (pm_I (nI t)), some (pm_I (nI (l.getD f 0))), some (pm_I (nI t))] [] g σ' τ 0 0 0 0 E) : pm_Y b (d + 1) km_W_slide 13 true [some (pm_R 1), some (pm_I (nI p)), some (pm_I (nI f)), some (pm_I (nI t)), some (pm_I (nI (l.getD f 0))), some (pm_I (nI f))] [] g σ₁ τ 0 0 0 0 E := by
  refine pm_for t (fun i σ₂ => pm_Y b (d + 1) km_W_slide 13 true [some (pm_R 1), some (pm_I (nI p)), some (pm_I (nI f)), some (pm_I (nI t)), some (pm_I (nI (l.getD f 0))), some (pm_I (nI i))] [] g σ₂ τ 0 0 0 0 E) (fun i σ₂ => f ≤ i ∧ sl_R σ p l (fun k => if f ≤ k ∧ k < i then k + 1 else k) (fun k => if f < k ∧ k ≤ i then k - 1 else k) σ₂) (fun i σ₂ hi hI ih => ?_) (fun σ₂ hI => ?_) (t - f) f σ₁ (by omega) ⟨Nat.le_refl _, sl_eq h0 (fun k => if_neg (by omega)) (fun k => if_neg (by omega))⟩
  · obtain ⟨hfi, hI⟩ := hI
    have ih : ∀ σ', sl_R σ p l (fun k => if f ≤ k ∧ k < i + 1 then k + 1 else k) (fun k => if f < k ∧ k ≤ i + 1 then k - 1 else k) σ' → _ := fun σ' h => ih σ' ⟨by omega, h⟩
    refine pm_iload d_W_slide_13 rfl ?_
    refine pm_iload_n d_W_slide_15 rfl ?_
    refine pm_icmp_ge_f 43 d_W_slide_16 rfl (by rw [nI_leI (by omega) (by omega)]; omega) ?_
    refine pm_aload_n d_W_slide_19 rfl ?_
    refine pm_iload_n d_W_slide_20 rfl ?_
    refine pm_iload d_W_slide_21 rfl ?_
    refine pm_aload_n d_W_slide_23 rfl ?_
    refine pm_getr d_W_slide_24 hf_W_17 (hg.s rfl) (hg.i (by decide)) rfl (hg.r (by decide) rfl) ?_
    refine pm_iload_n d_W_slide_27 rfl ?_
    refine pm_aaload p d_W_slide_28 (hg.s rfl) (hg.i (by decide)) rfl hp (by decide) (hg.r (by decide) (sr_3 hp)) ?_
    refine pm_iload d_W_slide_29 rfl ?_
    refine pm_iconst' (nI 1) d_W_slide_31 (by decide) ?_
    refine pm_iaddN d_W_slide_32 ?_
    refine pm_iaload' (i + 1) (nI (l.getD (i + 1) 0)) d_W_slide_33 (hg.s (sh_4 _ hp)) (hg.i (by have := (hp : p < 8); omega)) rfl (by omega) (by decide) ((hI.1 (i + 1) (by omega)).trans (congrArg (fun z => nI (l.getD z 0)) (if_neg (by omega)))) ?_
    refine pm_callWv (i := 1) (ci := 1) (rest := []) [pm_I (nI p), pm_I (nI i), pm_I (nI (l.getD (i + 1) 0))] hB d_W_slide_34 hc_W_33 (c_W_set hg hp (by omega) (hb _)) (hg.s rfl) (hg.i (by decide)) rfl rfl rfl rfl (Nat.le_of_ble_eq_true rfl) (Nat.le_of_ble_eq_true rfl) (by omega) (by omega) ?_
    refine pm_iinc' (nI (i + 1)) d_W_slide_37 (by decide) rfl (pm_inc _) ?_
    refine pm_goto 13 d_W_slide_40 rfl ?_
    -- at 13: lo=[some (pm_R 1), some (pm_I (nI p)), some (pm_I (nI f)), some (pm_I (nI t)), some (pm_I (nI (l.getD f 0))), some (pm_I (nI (i + 1)))] st=[]
    exact ih _ (sl_step hI hp hn (show i + 1 < l.length by omega) (fun k => by (try dsimp only); (repeat' split) <;> omega) (fun k => by (try dsimp only); (repeat' split) <;> omega))
  · refine pm_iload d_W_slide_13 rfl ?_
    refine pm_iload_n d_W_slide_15 rfl ?_
    refine pm_icmp_ge_t 43 d_W_slide_16 rfl (by rw [nI_leI (by omega) (by omega)]; omega) ?_
    exact K σ₂ hI.2
theorem l_W_slide_46 (hg : pm_gok 48 g) (hB : pm_base b) (hp : p < 8) (hn : l.Nodup) (hm : l.length ≤ 7) (hb : ∀ k, l.getD k 0 < 8) (hf : f < l.length) {E : pE}
    (K : ∀ σ', sl_R σ p l (fun k => if t < k ∧ k ≤ f then k - 1 else k) (fun k => if t ≤ k ∧ k < f then k + 1 else k) σ' → pm_Y b (d + 1) km_W_slide 76 true [some (pm_R 1), some (pm_I (nI p)), some (pm_I (nI f)), some (pm_I (nI t)), some (pm_I (nI (l.getD f 0))), some (pm_I (nI t))] [] g σ' τ 0 0 0 0 E) : ∀ (m i : Nat) (σ₂ : pI), i = t + m → i ≤ f → sl_R σ p l (fun k => if i < k ∧ k ≤ f then k - 1 else k) (fun k => if i ≤ k ∧ k < f then k + 1 else k) σ₂ → pm_Y b (d + 1) km_W_slide 46 true [some (pm_R 1), some (pm_I (nI p)), some (pm_I (nI f)), some (pm_I (nI t)), some (pm_I (nI (l.getD f 0))), some (pm_I (nI i))] [] g σ₂ τ 0 0 0 0 E
  | 0, i, σ₂, hi, hif, hI => by
    have e : i = t := by omega
    subst e
    refine pm_iload d_W_slide_46 rfl ?_
    refine pm_iload_n d_W_slide_48 rfl ?_
    refine pm_icmp_le_t 76 d_W_slide_49 rfl (by rw [nI_leI (by omega) (by omega)]; omega) ?_
    exact K σ₂ hI
  | m + 1, i, σ₂, hi, hif, hI => by
    have ih := fun σ' h => l_W_slide_46 hg hB hp hn hm hb hf K m (i - 1) σ' (by omega) (by omega) h
    refine pm_iload d_W_slide_46 rfl ?_
    refine pm_iload_n d_W_slide_48 rfl ?_
    refine pm_icmp_le_f 76 d_W_slide_49 rfl (by rw [nI_leI (by omega) (by omega)]; omega) ?_
    refine pm_aload_n d_W_slide_52 rfl ?_
    refine pm_iload_n d_W_slide_53 rfl ?_
    refine pm_iload d_W_slide_54 rfl ?_
    refine pm_aload_n d_W_slide_56 rfl ?_
    refine pm_getr d_W_slide_57 hf_W_17 (hg.s rfl) (hg.i (by decide)) rfl (hg.r (by decide) rfl) ?_
    refine pm_iload_n d_W_slide_60 rfl ?_
    refine pm_aaload p d_W_slide_61 (hg.s rfl) (hg.i (by decide)) rfl hp (by decide) (hg.r (by decide) (sr_3 hp)) ?_
    refine pm_iload d_W_slide_62 rfl ?_
    refine pm_iconst' (nI 1) d_W_slide_64 (by decide) ?_
    refine pm_isubN d_W_slide_65 (by omega) ?_
    refine pm_iaload' (i - 1) (nI (l.getD (i - 1) 0)) d_W_slide_66 (hg.s (sh_4 _ hp)) (hg.i (by have := (hp : p < 8); omega)) rfl (by omega) (by decide) ((hI.1 (i - 1) (by omega)).trans (congrArg (fun z => nI (l.getD z 0)) (if_neg (by omega)))) ?_
    refine pm_callWv (i := 1) (ci := 1) (rest := []) [pm_I (nI p), pm_I (nI i), pm_I (nI (l.getD (i - 1) 0))] hB d_W_slide_67 hc_W_33 (c_W_set hg hp (by omega) (hb _)) (hg.s rfl) (hg.i (by decide)) rfl rfl rfl rfl (Nat.le_of_ble_eq_true rfl) (Nat.le_of_ble_eq_true rfl) (by omega) (by omega) ?_
    refine pm_iinc' (nI (i - 1)) d_W_slide_70 (by decide) rfl (pm_dec (by omega)) ?_
    refine pm_goto 46 d_W_slide_73 rfl ?_
    -- at 46: lo=[some (pm_R 1), some (pm_I (nI p)), some (pm_I (nI f)), some (pm_I (nI t)), some (pm_I (nI (l.getD f 0))), some (pm_I (nI (i - 1)))] st=[]
    exact ih _ (sl_step hI hp hn (show i - 1 < l.length by omega) (fun k => by (try dsimp only); (repeat' split) <;> omega) (fun k => by (try dsimp only); (repeat' split) <;> omega))
theorem l_W_slide_76 (hg : pm_gok 48 g) (hB : pm_base b) (hp : p < 8) (hb : ∀ k, l.getD k 0 < 8) (ht : t < 8) {σ₂ : pI} (hF : sl_end σ p l f t (pm_up (pm_up σ₂ (4 + p) t (nI (l.getD f 0))) (13 + p) (l.getD f 0) (nI t))) : pm_Y b (d + 1) km_W_slide 76 true [some (pm_R 1), some (pm_I (nI p)), some (pm_I (nI f)), some (pm_I (nI t)), some (pm_I (nI (l.getD f 0))), some (pm_I (nI i))] [] g σ₂ τ 0 0 0 0 (pm_Wp (fun v σ' => v = none ∧ sl_end σ p l f t σ') τ) := by
  refine pm_aload_n d_W_slide_76 rfl ?_
  refine pm_iload_n d_W_slide_77 rfl ?_
  refine pm_iload_n d_W_slide_78 rfl ?_
  refine pm_iload d_W_slide_79 rfl ?_
  refine pm_callWv (i := 1) (ci := 1) (rest := []) [pm_I (nI p), pm_I (nI t), pm_I (nI (l.getD f 0))] hB d_W_slide_81 hc_W_33 (c_W_set hg hp (by omega) (hb _)) (hg.s rfl) (hg.i (by decide)) rfl rfl rfl rfl (Nat.le_of_ble_eq_true rfl) (Nat.le_of_ble_eq_true rfl) (by omega) (by omega) ?_
  exact pm_return d_W_slide_84 rfl (fun _ => rfl) (Nat.le_refl _) (Nat.le_refl _) ⟨⟨rfl, hF⟩, rfl⟩
theorem c_W_slide (hg : pm_gok 48 g) (hB : pm_base b) (hp : p < 8) (hn : l.Nodup) (hm : l.length ≤ 7) (hb : ∀ k, l.getD k 0 < 8) (hf : f < l.length) (ht : t < l.length) (ho : ∀ k, k < l.length → σ (4 + p) k = nI (l.getD k 0)) (hq : ∀ k, k < l.length → σ (13 + p) (l.getD k 0) = nI k) : pm_C b (d + 1) km_W_slide [pm_R 1, pm_I (nI p), pm_I (nI f), pm_I (nI t)] g σ τ 0 0 (pm_Wp (fun v σ' => v = none ∧ sl_end σ p l f t σ') τ) := by
  show pm_Y b (d + 1) km_W_slide 0 false [some (pm_R 1), some (pm_I (nI p)), some (pm_I (nI f)), some (pm_I (nI t)), none, none] [] g σ τ 0 0 0 0 _
  refine pm_aload_n d_W_slide_0 rfl ?_
  refine pm_getr d_W_slide_1 hf_W_17 (hg.s rfl) (hg.i (by decide)) rfl (hg.r (by decide) rfl) ?_
  refine pm_iload_n d_W_slide_4 rfl ?_
  refine pm_aaload p d_W_slide_5 (hg.s rfl) (hg.i (by decide)) rfl hp (by decide) (hg.r (by decide) (sr_3 hp)) ?_
  refine pm_iload_n d_W_slide_6 rfl ?_
  refine pm_iaload' f (nI (l.getD f 0)) d_W_slide_7 (hg.s (sh_4 _ hp)) (hg.i (by have := (hp : p < 8); omega)) rfl (by omega) (by decide) (ho f hf) ?_
  refine pm_istore d_W_slide_8 (by decide) ?_
  refine pm_iload_n d_W_slide_10 rfl ?_
  refine pm_istore d_W_slide_11 (by decide) ?_
  -- at 13: lo=[some (pm_R 1), some (pm_I (nI p)), some (pm_I (nI f)), some (pm_I (nI t)), some (pm_I (nI (l.getD f 0))), some (pm_I (nI f))] st=[]
  refine pm_flag ?_
  have h0 : sl_R σ p l (fun k => k) (fun k => k) σ := ⟨ho, hq, fun _ _ => rfl, fun _ _ _ _ => rfl⟩
  by_cases hft : f ≤ t
  · refine l_W_slide_13 hg hB hp hn hm hb ht hft h0 (fun σ₂ hI => ?_)
    refine pm_iload_n d_W_slide_43 rfl ?_
    refine pm_istore d_W_slide_44 (by decide) ?_
    refine pm_iload d_W_slide_46 rfl ?_
    refine pm_iload_n d_W_slide_48 rfl ?_
    refine pm_icmp_le_t 76 d_W_slide_49 rfl (by rw [nI_leI (by omega) (by omega)]; omega) ?_
    refine l_W_slide_76 (i := f) hg hB hp hb (by omega) (sl_fin (sl_step hI hp hn hf (Aa' := fun k => if k = t then f else if f ≤ k ∧ k < t then k + 1 else k) (Bb' := fun k => if k = f then t else if f < k ∧ k ≤ t then k - 1 else k) (fun k => rfl) (fun k => rfl)) hf ht (fun k => ?_) (fun k => ?_))
    · (try dsimp only); unfold mv_at
      (repeat' split) <;> omega
    · (try dsimp only); unfold mv_at
      (repeat' split) <;> omega
  · refine pm_iload d_W_slide_13 rfl ?_
    refine pm_iload_n d_W_slide_15 rfl ?_
    refine pm_icmp_ge_t 43 d_W_slide_16 rfl (by rw [nI_leI (by omega) (by omega)]; omega) ?_
    refine pm_iload_n d_W_slide_43 rfl ?_
    refine pm_istore d_W_slide_44 (by decide) ?_
    refine l_W_slide_46 (σ := σ) hg hB hp hn hm hb hf (fun σ₂ hI => ?_) (f - t) f σ (by omega) (Nat.le_refl _) ?_
    · refine l_W_slide_76 (i := t) hg hB hp hb (by omega) (sl_fin (sl_step hI hp hn hf (Aa' := fun k => if k = t then f else if t < k ∧ k ≤ f then k - 1 else k) (Bb' := fun k => if k = f then t else if t ≤ k ∧ k < f then k + 1 else k) (fun k => rfl) (fun k => rfl)) hf ht (fun k => ?_) (fun k => ?_))
      · (try dsimp only); unfold mv_at
        (repeat' split) <;> omega
      · (try dsimp only); unfold mv_at
        (repeat' split) <;> omega
    · exact sl_eq h0 (fun k => if_neg (by omega)) (fun k => if_neg (by omega))
end W4
