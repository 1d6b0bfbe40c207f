/-! the stable matchings: keep, search -/
def ci_T (c : Nat) (t : Nat → Option Nat) (σ : pI) : Prop := ∀ a, a < 8 → σ c a = oI (t a)
def ci_A (n : Nat) (A : rh_A) (σ : pI) : Prop := σ 32 4 = nI A.1 ∧ (∀ p q, p < 8 → q < 8 → σ (36 + p) q = nI (A.2.1 p q)) ∧ (0 < A.1 → ∀ p, p < n → σ 34 p = nI (A.2.2 p))
def st_fr (σ₀ σ : pI) : Prop := ∀ c x, c ≠ 33 → c ≠ 34 → ¬ (c = 32 ∧ x = 4) → ¬ (36 ≤ c ∧ c < 44) → σ c x = σ₀ c x
def env_ (n : Nat) (L : Nat → List Nat) (σ : pI) : Prop := σ 1 4 = nI n ∧ ci_L L σ ∧ ci_S L σ
theorem env_of {n : Nat} {L : Nat → List Nat} {σ σ' : pI} (h : env_ n L σ) (hf : ∀ c x, c < 30 → σ' c x = σ c x) : env_ n L σ' := by
  obtain ⟨h1, h2, h3⟩ := h
  refine ⟨by rw [hf 1 4 (by omega)]; exact h1, ⟨fun p hp => ?_, fun p k hp hk => ?_, fun p q hp hq => ?_⟩, fun p q hp hq => ?_⟩
  · rw [hf 2 p (by omega)]; exact h2.1 p hp
  · rw [hf (4 + p) k (by omega)]; exact h2.2.1 p k hp hk
  · rw [hf (13 + p) q (by omega)]; exact h2.2.2 p q hp hq
  · rw [hf (22 + p) q (by omega)]; exact h3 p q hp hq
theorem st_fr.lo {σ₀ σ : pI} (h : st_fr σ₀ σ) : ∀ c x, c < 30 → σ c x = σ₀ c x := fun c x hc => h c x (by omega) (by omega) (by omega) (by omega)
theorem st_fr.tr {σ₀ σ₁ σ₂ : pI} (h : st_fr σ₀ σ₁) (h' : st_fr σ₁ σ₂) : st_fr σ₀ σ₂ := fun c x a1 a2 a3 a4 => (h' c x a1 a2 a3 a4).trans (h c x a1 a2 a3 a4)
theorem T_up {c : Nat} {t : Nat → Option Nat} {σ : pI} {a x : Nat} (h : ci_T c t σ) : ci_T c (cs_up t a (some x)) (pm_up σ c a (nI x)) := by
  intro q hq
  by_cases e : q = a
  · subst e; rw [pm_up_at]; unfold cs_up; rw [if_pos rfl]; rfl
  · rw [pm_up_ne (by omega)]; unfold cs_up; rw [if_neg e]; exact h q hq
theorem T_dn {c : Nat} {t : Nat → Option Nat} {σ : pI} {a : Nat} (h : ci_T c t σ) : ci_T c (cs_up t a none) (pm_up σ c a (-1)) := by
  intro q hq
  by_cases e : q = a
  · subst e; rw [pm_up_at]; unfold cs_up; rw [if_pos rfl]; rfl
  · rw [pm_up_ne (by omega)]; unfold cs_up; rw [if_neg e]; exact h q hq
theorem T_of {c : Nat} {t : Nat → Option Nat} {σ σ' : pI} (h : ci_T c t σ) (hf : ∀ x, σ' c x = σ c x) : ci_T c t σ' := fun a ha => (hf a).trans (h a ha)
theorem A_of {n : Nat} {A : rh_A} {σ σ' : pI} (h : ci_A n A σ) (h1 : σ' 32 4 = σ 32 4) (h2 : ∀ c x, 36 ≤ c → c < 44 → σ' c x = σ c x) (h3 : ∀ x, σ' 34 x = σ 34 x) : ci_A n A σ' :=
  ⟨h1.trans h.1, fun p q hp hq => (h2 (36 + p) q (by omega) (by omega)).trans (h.2.1 p q hp hq), fun hA p hp => (h3 p).trans (h.2.2 hA p hp)⟩
/-- keep, as far as i -/
def kp_I (n : Nat) (A : rh_A) (m : Nat → Nat) (σ₀ : pI) (i : Nat) (σ : pI) : Prop := σ 32 4 = nI (A.1 + 1) ∧ (∀ p q, p < 8 → q < 8 → σ (36 + p) q = nI (if p < i ∧ m p = q then A.2.1 p q + 1 else A.2.1 p q)) ∧ (∀ p, p < n → (A.1 = 0 → p < i → σ 34 p = nI (m p)) ∧ (0 < A.1 → σ 34 p = nI (A.2.2 p))) ∧ ∀ c x, c ≠ 34 → ¬ (c = 32 ∧ x = 4) → ¬ (36 ≤ c ∧ c < 44) → σ c x = σ₀ c x
theorem kp_end {n : Nat} {A : rh_A} {m : Nat → Nat} {σ₀ σ : pI} (h : kp_I n A m σ₀ n σ) : ci_A n (rh_acc n A m) σ := by
  obtain ⟨h1, h2, h3, h4⟩ := h
  refine ⟨h1, fun p q hp hq => h2 p q hp hq, fun _ p hp => ?_⟩
  show σ 34 p = nI (if A.1 = 0 ∧ p < n then m p else A.2.2 p)
  by_cases e : A.1 = 0
  · rw [if_pos ⟨e, hp⟩]; exact (h3 p hp).1 e hp
  · rw [if_neg (fun z => e z.1)]; exact (h3 p hp).2 (by omega)
theorem kp_often {n : Nat} {A : rh_A} {m : Nat → Nat} {σ₀ σ : pI} {i : Nat} (h : kp_I n A m σ₀ i σ) (hi : i < 8) (hm : m i < 8) :
    (pm_up σ (36 + i) (m i) (nI (A.2.1 i (m i) + 1))) 32 4 = nI (A.1 + 1) ∧ (∀ p q, p < 8 → q < 8 → (pm_up σ (36 + i) (m i) (nI (A.2.1 i (m i) + 1))) (36 + p) q = nI (if p < i + 1 ∧ m p = q then A.2.1 p q + 1 else A.2.1 p q)) := by
  refine ⟨by rw [pm_up_ne (by omega)]; exact h.1, fun p q hp hq => ?_⟩
  by_cases e : p = i ∧ q = m i
  · obtain ⟨e1, e2⟩ := e
    subst e1; subst e2
    rw [pm_up_at, if_pos ⟨Nat.lt_succ_self _, rfl⟩]
  · rw [pm_up_ne (by omega), h.2.1 p q hp hq]
    by_cases c : p < i ∧ m p = q
    · rw [if_pos c, if_pos ⟨by omega, c.2⟩]
    · rw [if_neg c, if_neg (fun z => by
        by_cases e1 : p = i
        · exact e ⟨e1, by rw [← z.2, e1]⟩
        · exact c ⟨by omega, z.2⟩)]
theorem kp_a {n : Nat} {A : rh_A} {m : Nat → Nat} {σ₀ σ : pI} {i : Nat} (h : kp_I n A m σ₀ i σ) (hi : i < 8) (hm : m i < 8) (hA : A.1 ≠ 0) : kp_I n A m σ₀ (i + 1) (pm_up σ (36 + i) (m i) (nI (A.2.1 i (m i) + 1))) :=
  ⟨(kp_often h hi hm).1, (kp_often h hi hm).2, fun p hp => ⟨fun z => absurd z hA, fun z => by rw [pm_up_ne (by omega)]; exact (h.2.2.1 p hp).2 z⟩, fun c x a1 a2 a3 => by rw [pm_up_ne (by omega)]; exact h.2.2.2 c x a1 a2 a3⟩
theorem kp_b {n : Nat} {A : rh_A} {m : Nat → Nat} {σ₀ σ : pI} {i : Nat} (h : kp_I n A m σ₀ i σ) (hi : i < 8) (hm : m i < 8) (hA : A.1 = 0) : kp_I n A m σ₀ (i + 1) (pm_up (pm_up σ (36 + i) (m i) (nI (A.2.1 i (m i) + 1))) 34 i (nI (m i))) := by
  refine ⟨by rw [pm_up_ne (by omega)]; exact (kp_often h hi hm).1, fun p q hp hq => by rw [pm_up_ne (by omega)]; exact (kp_often h hi hm).2 p q hp hq, fun p hp => ⟨fun z hpi => ?_, fun z => by omega⟩, fun c x a1 a2 a3 => by rw [pm_up_ne (by omega), pm_up_ne (by omega)]; exact h.2.2.2 c x a1 a2 a3⟩
  by_cases e : p = i
  · subst e; rw [pm_up_at]
  · rw [pm_up_ne (by omega), pm_up_ne (by omega)]; exact (h.2.2.1 p hp).1 z (by omega)
section S1
variable {b : pB} {g : pG} {σ : pI} {τ : pJ} {d p q n : Nat} {L : Nat → List Nat} {t : Nat → Option Nat} {A : rh_A} {m : Nat → Nat}
theorem k_S_keep (hg : pm_gok 48 g) (hB : pm_base b) (hn : n ≤ 8) (h4 : σ 1 4 = nI n) (ht : ci_T 33 t σ) (hmt : ∀ p, p < n → t p = some (m p)) (hm : ∀ p, p < n → m p < 8) (hA : ci_A n A σ) (hb : A.1 + 1 ≤ 43046721) : pm_C b (d + 1) km_S_keep [pm_R 32] g σ τ 0 0 (pm_Wp (fun v σ' => v = none ∧ ci_A n (rh_acc n A m) σ' ∧ ∀ c x, c ≠ 34 → ¬ (c = 32 ∧ x = 4) → ¬ (36 ≤ c ∧ c < 44) → σ' c x = σ c x) τ) := by
  show pm_Y b (d + 1) km_S_keep 0 false [some (pm_R 32), none] [] g σ τ 0 0 0 0 _
  refine pm_aload_n d_S_keep_0 rfl ?_
  refine pm_dup d_S_keep_1 rfl ?_
  refine pm_geti' (nI A.1) d_S_keep_2 hf_S_34 (hg.s rfl) (hg.i (by decide)) rfl hA.1 ?_
  refine pm_iconst' (nI 1) d_S_keep_5 (by decide) ?_
  refine pm_iaddN d_S_keep_6 ?_
  refine pm_puti d_S_keep_7 hp_S_34 (hg.s rfl) (hg.i (by decide)) rfl ?_
  refine pm_iconst' (nI 0) d_S_keep_10 (by decide) ?_
  refine pm_istore_n d_S_keep_11 (by decide) ?_
  -- at 12: lo=[some (pm_R 32), some (pm_I (nI 0))] st=[]
  refine pm_for n (fun i σ₂ => pm_Y b (d + 1) km_S_keep 12 true [some (pm_R 32), some (pm_I (nI i))] [] g σ₂ τ 0 0 0 0 (pm_Wp (fun v σ' => v = none ∧ ci_A n (rh_acc n A m) σ' ∧ ∀ c x, c ≠ 34 → ¬ (c = 32 ∧ x = 4) → ¬ (36 ≤ c ∧ c < 44) → σ' c x = σ c x) τ)) (kp_I n A m σ) (fun i σ₂ hi hI ih => ?_) (fun σ₂ hI => ?_) n 0 _ (by omega) ⟨pm_up_at, fun p q hp hq => by rw [pm_up_ne (by omega), if_neg (by omega)]; exact hA.2.1 p q hp hq, fun p hp => ⟨fun _ z => absurd z (Nat.not_lt_zero p), fun z => by rw [pm_up_ne (by omega)]; exact hA.2.2 z p hp⟩, fun c x a1 a2 a3 => pm_up_ne a2⟩
  · have h4' : σ₂ 1 4 = nI n := by rw [hI.2.2.2 1 4 (by omega) (by omega) (by omega)]; exact h4
    refine pm_iload_n d_S_keep_12 rfl ?_
    refine pm_aload_n d_S_keep_13 rfl ?_
    refine pm_getr d_S_keep_14 hf_S_27 (hg.s rfl) (hg.i (by decide)) rfl (hg.r (by decide) rfl) ?_
    refine pm_callR (i := 1) (ci := 1) (rest := [pm_I (nI i)]) [] hB d_S_keep_17 hc_S_55 (k_W_count hg h4') (hg.s rfl) (hg.i (by decide)) rfl rfl rfl rfl (Nat.le_of_ble_eq_true rfl) (Nat.le_of_ble_eq_true rfl) (by omega) (by omega) ?_
    refine pm_icmp_ge_f 66 d_S_keep_20 rfl (by rw [nI_leI (by omega) (by omega)]; omega) ?_
    refine pm_aload_n d_S_keep_23 rfl ?_
    refine pm_getr d_S_keep_24 hf_S_20 (hg.s rfl) (hg.i (by decide)) rfl (hg.r (by decide) rfl) ?_
    refine pm_iload_n d_S_keep_27 rfl ?_
    refine pm_aaload i d_S_keep_28 (hg.s rfl) (hg.i (by decide)) rfl (by omega) (by decide) (hg.r (by decide) (sr_35 (by omega))) ?_
    refine pm_aload_n d_S_keep_29 rfl ?_
    refine pm_getr d_S_keep_30 hf_S_9 (hg.s rfl) (hg.i (by decide)) rfl (hg.r (by decide) rfl) ?_
    refine pm_iload_n d_S_keep_33 rfl ?_
    refine pm_iaload' i (nI (m i)) d_S_keep_34 (hg.s rfl) (hg.i (by decide)) rfl (by omega) (by decide) (by rw [hI.2.2.2 33 i (by omega) (by omega) (by omega), ht i (by omega), hmt i hi]; rfl) ?_
    refine pm_dup2 d_S_keep_35 rfl rfl ?_
    refine pm_iaload' (m i) (nI (A.2.1 i (m i))) d_S_keep_36 (hg.s (sh_36 _ (by omega))) (hg.i (by have := ((by omega) : i < 8); omega)) rfl (hm i hi) (by decide) (by rw [hI.2.1 i (m i) (by omega) (hm i hi), if_neg (by omega)]) ?_
    refine pm_iconst' (nI 1) d_S_keep_37 (by decide) ?_
    refine pm_iaddN d_S_keep_38 ?_
    refine pm_iastore (m i) d_S_keep_39 (hg.s (sh_36 _ (by omega))) (hg.i (by have := ((by omega) : i < 8); omega)) rfl (hm i hi) (by decide) ?_
    refine pm_aload_n d_S_keep_40 rfl ?_
    refine pm_geti' (nI (A.1 + 1)) d_S_keep_41 hf_S_34 (hg.s rfl) (hg.i (by decide)) rfl (kp_often hI (by omega) (hm i hi)).1 ?_
    refine pm_iconst' (nI 1) d_S_keep_44 (by decide) ?_
    refine pm_icmp_neN 60 d_S_keep_45 rfl (by omega) (by omega) (fun c45 => ?_) (fun c45 => ?_)
    · refine pm_iinc' (nI (i + 1)) d_S_keep_60 (by decide) rfl (pm_inc _) ?_
      refine pm_goto 12 d_S_keep_63 rfl ?_
      -- at 12: lo=[some (pm_R 32), some (pm_I (nI (i + 1)))] st=[]
      exact ih _ (kp_a hI (by omega) (hm i hi) (by omega))
    · refine pm_aload_n d_S_keep_48 rfl ?_
      refine pm_getr d_S_keep_49 hf_S_15 (hg.s rfl) (hg.i (by decide)) rfl (hg.r (by decide) rfl) ?_
      refine pm_iload_n d_S_keep_52 rfl ?_
      refine pm_aload_n d_S_keep_53 rfl ?_
      refine pm_getr d_S_keep_54 hf_S_9 (hg.s rfl) (hg.i (by decide)) rfl (hg.r (by decide) rfl) ?_
      refine pm_iload_n d_S_keep_57 rfl ?_
      refine pm_iaload' i (nI (m i)) d_S_keep_58 (hg.s rfl) (hg.i (by decide)) rfl (by omega) (by decide) (by rw [pm_up_ne (by omega), hI.2.2.2 33 i (by omega) (by omega) (by omega), ht i (by omega), hmt i hi]; rfl) ?_
      refine pm_iastore i d_S_keep_59 (hg.s rfl) (hg.i (by decide)) rfl (by omega) (by decide) ?_
      refine pm_iinc' (nI (i + 1)) d_S_keep_60 (by decide) rfl (pm_inc _) ?_
      refine pm_goto 12 d_S_keep_63 rfl ?_
      -- at 12: lo=[some (pm_R 32), some (pm_I (nI (i + 1)))] st=[]
      exact ih _ (kp_b hI (by omega) (hm i hi) (by omega))
  · have h4' : σ₂ 1 4 = nI n := by rw [hI.2.2.2 1 4 (by omega) (by omega) (by omega)]; exact h4
    refine pm_iload_n d_S_keep_12 rfl ?_
    refine pm_aload_n d_S_keep_13 rfl ?_
    refine pm_getr d_S_keep_14 hf_S_27 (hg.s rfl) (hg.i (by decide)) rfl (hg.r (by decide) rfl) ?_
    refine pm_callR (i := 1) (ci := 1) (rest := [pm_I (nI n)]) [] hB d_S_keep_17 hc_S_55 (k_W_count hg h4') (hg.s rfl) (hg.i (by decide)) rfl rfl rfl rfl (Nat.le_of_ble_eq_true rfl) (Nat.le_of_ble_eq_true rfl) (by omega) (by omega) ?_
    refine pm_icmp_ge_t 66 d_S_keep_20 rfl (by rw [nI_leI (by omega) (by omega)]; omega) ?_
    exact pm_return d_S_keep_66 rfl (fun _ => rfl) (Nat.le_refl _) (Nat.le_refl _) ⟨⟨rfl, kp_end hI, hI.2.2.2⟩, rfl⟩
end S1
