/-! the house as a whole: what holds between calls -/
abbrev pm_Rv (σ : pI) (τ : pJ) : pE := .inl (false, fun v σ' τ' => v = none ∧ σ' = σ ∧ τ' = τ)
theorem pm_callRv {b : pB} {d : Nat} {k k' : pK} {pc : Nat} {f : Bool} {lo : List (Option pV)} {rest : List pV} {g : pG} {σ : pI} {τ : pJ} {cu su mc ms : Nat} {E : pE} {idx i ci : Nat} {stk : List pV} {T : u_T} {N : Nat} (vs : List pV) (hB : pm_base b) (hd : decode k.2.1 pc = .ok (.invokevirtual idx, 3)) (hc : pm_CV k.1.cls idx k' vs.length)
    (hC : pm_C b d k' (pm_R i :: vs) g σ τ 0 0 (pm_Rv σ τ)) (hs : g.2.1 i = (0, ci)) (hi : i < g.1) (hcl : pm_cl[ci]? = some (k'.1.cls, T, N))
    (hstk : stk = vs.reverse ++ pm_R i :: rest) (h1 : vs.all pm_one = true) (hj : vs.all pm_nj = true) (hn : vs.length + 1 ≤ k'.2.2.1) (hw : (rest.map pm_wt).sum ≤ 8) (hcu : cu ≤ mc) (hsu : su ≤ ms)
    (K : pm_Y b (d + 1) k (pc + 3) f lo rest g σ τ cu su mc ms E) : pm_Y b (d + 1) k pc f lo stk g σ τ cu su mc ms E :=
  pm_callV hB hd hc hC hs hi hcl hstk h1 hj hn hw hcu hsu (fun v σ' τ' _ hq => by
    obtain ⟨rfl, rfl, rfl⟩ := hq
    rw [Bool.or_false]
    exact K)
theorem ms_at {dm : Nat → Nat} {p x : Nat} : ms_ dm p x = if x = p then p else if x = dm p then dm p else dm x := rfl
theorem jn_at {dm : Nat → Nat} {p q x : Nat} : jn_ dm p q x = if x = q then p else if x = p then q else if x = ms_ dm p q then ms_ dm p q else ms_ dm p x := by
  unfold jn_
  rw [show gw_up (gw_up (ms_ (ms_ dm p) q) p q) q p x = if x = q then p else if x = p then q else ms_ (ms_ dm p) q x from rfl]
  by_cases e1 : x = q
  · rw [if_pos e1, if_pos e1]
  · rw [if_neg e1, if_neg e1]
    by_cases e2 : x = p
    · rw [if_pos e2, if_pos e2]
    · rw [if_neg e2, if_neg e2, ms_at (dm := ms_ dm p), if_neg e1]
section MD
variable {n : Nat} {L L' : Nat → List Nat} {dm : Nat → Nat} {p q : Nat}
theorem md_id : md_ n L (fun p => p) := ⟨fun p hp => ⟨hp, rfl⟩, fun p _ h => absurd rfl h⟩
theorem md_keep (h : md_ n L dm) (hr : ∀ x, x < n → dm x < n → rh_rk L x (dm x) < 8 → rh_rk L' x (dm x) < 8) : md_ n L' dm :=
  ⟨h.1, fun x hx hne => ⟨(h.2 x hx hne).1, (h.2 x hx hne).2.1, hr x (h.2 x hx hne).1 (h.2 x hx hne).2.1 (h.2 x hx hne).2.2⟩⟩
/-- p and its partner are parted; the others keep theirs -/
theorem md_ms (h : md_ n L dm) (hp : p < 8) (hr : ∀ x, x < n → dm x < n → x ≠ p → x ≠ dm p → rh_rk L x (dm x) < 8 → rh_rk L' x (dm x) < 8) : md_ n L' (ms_ dm p) := by
  have hdp := (h.1 p hp).1
  have hdd := (h.1 p hp).2
  refine ⟨fun x hx => ?_, fun x hx hne => ?_⟩
  · rw [ms_at]
    by_cases e1 : x = p
    · subst e1; rw [if_pos rfl]; exact ⟨hx, by rw [ms_at, if_pos rfl]⟩
    · rw [if_neg e1]
      by_cases e2 : x = dm p
      · rw [if_pos e2]
        refine ⟨hdp, ?_⟩
        rw [ms_at, ← e2, if_neg e1, if_pos rfl]
      · rw [if_neg e2]
        obtain ⟨a1, a2⟩ := h.1 x hx
        refine ⟨a1, ?_⟩
        have n1 : dm x ≠ p := fun z => e2 (by rw [← z, a2])
        have n2 : dm x ≠ dm p := fun z => e1 (by rw [← a2, z, hdd])
        rw [ms_at, if_neg n1, if_neg n2, a2]
  · rw [ms_at] at hne ⊢
    by_cases e1 : x = p
    · rw [if_pos e1] at hne; exact absurd e1.symm hne
    · rw [if_neg e1] at hne ⊢
      by_cases e2 : x = dm p
      · rw [if_pos e2] at hne; exact absurd e2.symm hne
      · rw [if_neg e2] at hne ⊢
        obtain ⟨b1, b2, b3⟩ := h.2 x hx hne
        exact ⟨b1, b2, hr x b1 b2 e1 e2 b3⟩
theorem md_jn (hw : rh_wf n L) (h : md_ n L dm) (hp : p < n) (hq : q < n) (hne : p ≠ q) (hr : rh_rk L p q < 8) : md_ n L (jn_ dm p q) := by
  have h8 := hw.1
  have h1 := md_ms (p := p) h (by omega) (fun x _ _ _ _ z => z)
  have hr' : rh_rk L q p < 8 := by
    rw [rh_rk_lt hw hp] at hr
    rw [rh_rk_lt hw hq]
    exact ⟨hr.2, hr.1⟩
  generalize hd : ms_ dm p = dn at h1
  have hpp : dn p = p := by rw [← hd, ms_at, if_pos rfl]
  have at' : ∀ x, jn_ dm p q x = if x = q then p else if x = p then q else if x = dn q then dn q else dn x := fun x => by rw [jn_at, hd]
  have hdq := h1.1 q (by omega)
  have nqp : dn q ≠ p := fun z => by
    have := hdq.2
    rw [z, hpp] at this
    exact hne this
  refine ⟨fun x hx => ?_, fun x hx hn => ?_⟩
  · rw [at']
    by_cases e1 : x = q
    · rw [if_pos e1]
      refine ⟨by omega, ?_⟩
      rw [at', if_neg hne, if_pos rfl, e1]
    · rw [if_neg e1]
      by_cases e2 : x = p
      · rw [if_pos e2]
        refine ⟨by omega, ?_⟩
        rw [at', if_pos rfl, e2]
      · rw [if_neg e2]
        by_cases e3 : x = dn q
        · rw [if_pos e3]
          refine ⟨hdq.1, ?_⟩
          rw [at', ← e3, if_neg e1, if_neg e2, if_pos rfl]
        · rw [if_neg e3]
          obtain ⟨a1, a2⟩ := h1.1 x hx
          refine ⟨a1, ?_⟩
          have n1 : dn x ≠ q := fun z => e3 (by rw [← z, a2])
          have n2 : dn x ≠ p := fun z => e2 (by rw [← a2, z, hpp])
          have n3 : dn x ≠ dn q := fun z => e1 (by rw [← a2, z, hdq.2])
          rw [at', if_neg n1, if_neg n2, if_neg n3, a2]
  · rw [at'] at hn ⊢
    by_cases e1 : x = q
    · rw [if_pos e1, e1]; exact ⟨hq, hp, hr'⟩
    · rw [if_neg e1] at hn ⊢
      by_cases e2 : x = p
      · rw [if_pos e2, e2]; exact ⟨hp, hq, hr⟩
      · rw [if_neg e2] at hn ⊢
        by_cases e3 : x = dn q
        · rw [if_pos e3] at hn; exact absurd e3.symm hn
        · rw [if_neg e3] at hn ⊢
          exact h1.2 x hx hn
/-- the lists change at p alone: who was possible stays so -/
theorem md_up {l : List Nat} (hw : rh_wf n L) (hw' : rh_wf n (gw_up L p l)) (h : md_ n L dm) (hl : ∀ x, x ∈ L p → x ∈ l) : md_ n (gw_up L p l) dm := by
  refine md_keep h (fun x hx hd hr => ?_)
  rw [rh_rk_lt hw hx] at hr
  rw [rh_rk_lt hw' hx]
  refine ⟨?_, ?_⟩
  · by_cases e : x = p
    · subst e; rw [gw_up_self]; exact hl _ hr.1
    · rw [gw_up_ne _ _ e]; exact hr.1
  · by_cases e : dm x = p
    · rw [e, gw_up_self]; exact hl _ (e ▸ hr.2)
    · rw [gw_up_ne _ _ e]; exact hr.2
/-- one is taken out of the list of p -/
theorem md_rm (hw : rh_wf n L) (h : md_ n L dm) (hp : p < n) {i : Nat} (hi : i < (L p).length) :
    md_ n (gw_up L p (rm_list (L p) i)) (if dm p = (L p).getD i 0 ∧ ¬ rh_rk (gw_up L p (rm_list (L p) i)) p ((L p).getD i 0) < 8 then ms_ dm p else dm) := by
  have h8 := hw.1
  have hw' := rm_wf hw hp hi
  have hm : (L p).getD i 0 ∈ L p := (mem_get _ _).mpr ⟨i, hi, rfl⟩
  have hnp := ((hw.2.1 p hp).2 _ hm).2
  have keep : ∀ x, x < n → (x = p → dm x ≠ (L p).getD i 0) → (dm x = p → x ≠ (L p).getD i 0) → rh_rk L x (dm x) < 8 → rh_rk (gw_up L p (rm_list (L p) i)) x (dm x) < 8 := by
    intro x hx h1 h2 hr
    rw [rh_rk_lt hw hx] at hr
    rw [rh_rk_lt hw' hx]
    refine ⟨?_, ?_⟩
    · by_cases e : x = p
      · have h3 := h1 e
        rw [e] at hr h3 ⊢
        rw [gw_up_self, rm_mem (hw.2.1 p hp).1 hi]
        exact ⟨hr.1, h3⟩
      · rw [gw_up_ne _ _ e]; exact hr.1
    · by_cases e : dm x = p
      · have h3 := h2 e
        have h4 := hr.2
        rw [e] at h4 ⊢
        rw [gw_up_self, rm_mem (hw.2.1 p hp).1 hi]
        exact ⟨h4, h3⟩
      · rw [gw_up_ne _ _ e]; exact hr.2
  split
  · rename_i hc
    exact md_ms h (by omega) (fun x hx hd h1 h2 hr => keep x hx (fun z => absurd z h1) (fun z z2 => h2 (by rw [hc.1, z2])) hr)
  · rename_i hc
    refine md_keep h (fun x hx hd hr => ?_)
    by_cases e : dm p = (L p).getD i 0
    · have h9 : rh_rk (gw_up L p (rm_list (L p) i)) p ((L p).getD i 0) < 8 := Classical.byContradiction fun z => hc ⟨e, z⟩
      rw [rh_rk_lt hw' hp, gw_up_self, rm_mem (hw.2.1 p hp).1 hi] at h9
      exact absurd rfl h9.1.2
    · refine keep x hx (fun z => by rw [z]; exact e) (fun z z2 => e ?_) hr
      have := (h.1 x (by omega)).2
      rw [z] at this
      rw [this, z2]
end MD
def hfr_ (σ₀ σ : pI) : Prop := ∀ c x, 48 ≤ c → σ c x = σ₀ c x
def CI_ (n ch : Nat) (L : Nat → List Nat) (dm : Nat → Nat) (σ : pI) : Prop := rh_wf n L ∧ ci_W n ch L σ ∧ md_ n L dm ∧ ci_D dm σ ∧ sc_ n ch L σ ∧ pc_ n ch L σ
section CI
variable {n n' ch : Nat} {L L' : Nat → List Nat} {dm dm' : Nat → Nat} {σ σ' : pI}
theorem CI_.env (h : CI_ n ch L dm σ) : env_ n L σ := ⟨h.2.1.1, h.2.1.2.2.1, h.2.1.2.2.2⟩
theorem CI_.w (h : CI_ n ch L dm σ) : rh_wf n L := h.1
theorem CI_.c (h : CI_ n ch L dm σ) : σ 1 5 = nI ch := h.2.1.2.1
theorem CI_.m (h : CI_ n ch L dm σ) : ∀ p, p < 8 → dm p < 8 := fun p hp => (h.2.2.1.1 p hp).1
theorem sc_old (h : sc_ n ch L σ) (hf : σ' 32 5 = σ 32 5) : sc_ n' (ch + 1) L' σ' := by
  obtain ⟨r, h1, h2, -⟩ := h
  exact ⟨r, hf.trans h1, fun x hx => Nat.le_succ_of_le (h2 x hx), fun z => absurd (h2 _ z) (by omega)⟩
theorem pc_old (h : pc_ n ch L σ) (hf : σ' 44 6 = σ 44 6) : pc_ n' (ch + 1) L' σ' := by
  obtain ⟨r, h1, h2, -⟩ := h
  exact ⟨r, hf.trans h1, fun x hx => Nat.le_succ_of_le (h2 x hx), fun z => absurd (h2 _ z) (by omega)⟩
theorem sc_same (h : sc_ n ch L σ) (hf : ∀ c x, 32 ≤ c → c < 44 → σ' c x = σ c x) : sc_ n ch L σ' := by
  obtain ⟨r, h1, h2, h3⟩ := h
  exact ⟨r, (hf 32 5 (by omega) (by omega)).trans h1, h2, fun z => A_of (h3 z) (hf 32 4 (by omega) (by omega)) (fun c x a1 a2 => hf c x (by omega) (by omega)) (fun x => hf 34 x (by omega) (by omega))⟩
theorem pc_same (h : pc_ n ch L σ) (hf : ∀ c x, 44 ≤ c → c < 48 → σ' c x = σ c x) : pc_ n ch L σ' := by
  obtain ⟨r, h1, h2, h3⟩ := h
  refine ⟨r, (hf 44 6 (by omega) (by omega)).trans h1, h2, fun z => ?_⟩
  obtain ⟨q1, q2, q3, q4⟩ := h3 z
  exact ⟨fun p hp => (hf 45 p (by omega) (by omega)).trans (q1 p hp), fun p hp => (hf 47 p (by omega) (by omega)).trans (q2 p hp), (hf 44 4 (by omega) (by omega)).trans q3, (hf 44 5 (by omega) (by omega)).trans q4⟩
theorem W_same (h : ci_W n ch L σ) (hf : ∀ c x, c < 30 → σ' c x = σ c x) : ci_W n ch L σ' := by
  obtain ⟨q1, q2, q3⟩ := env_of ⟨h.1, h.2.2.1, h.2.2.2⟩ hf
  exact ⟨q1, (hf 1 5 (by omega)).trans h.2.1, q2, q3⟩
theorem D_same (h : ci_D dm σ) (hf : ∀ x, σ' 31 x = σ 31 x) : ci_D dm σ' := fun p hp => (hf p).trans (h p hp)
/-- behind a change of the lists -/
theorem CI_lists (h : CI_ n ch L dm σ) (hw : rh_wf n' L') (hW : ci_W n' (ch + 1) L' σ') (hf : wf_fr σ σ') (hm : md_ n' L' dm) : CI_ n' (ch + 1) L' dm σ' :=
  ⟨hw, hW, hm, D_same h.2.2.2.1 (fun x => hf 31 x (by omega)), sc_old h.2.2.2.2.1 (hf 32 5 (by omega)), pc_old h.2.2.2.2.2 (hf 44 6 (by omega))⟩
/-- behind a change of the draft -/
theorem CI_draft (h : CI_ n ch L dm σ) (hD : ci_D dm' σ') (hf : dr_fr σ σ') (hm : md_ n L dm') : CI_ n ch L dm' σ' :=
  ⟨h.1, W_same h.2.1 (fun c x hc => hf c x (by omega)), hm, hD, sc_same h.2.2.2.2.1 (fun c x a1 a2 => hf c x (by omega)), pc_same h.2.2.2.2.2 (fun c x a1 a2 => hf c x (by omega))⟩
theorem CI_sp (h : CI_ n ch L dm σ) (hs : sp_ n ch L σ σ') : CI_ n ch L dm σ' ∧ hfr_ σ σ' :=
  ⟨⟨h.1, W_same h.2.1 hs.2.2.lo, h.2.2.1, D_same h.2.2.2.1 (fun x => hs.2.2 31 x (by omega)), sp_sc hs, pc_same h.2.2.2.2.2 (fun c x a1 a2 => hs.2.2 c x (by omega))⟩, fun c x hc => hs.2.2 c x (by omega)⟩
theorem CI_pq (h : CI_ n ch L dm σ) (hs : pq_ n ch L σ σ') : CI_ n ch L dm σ' ∧ hfr_ σ σ' :=
  ⟨⟨h.1, W_same h.2.1 (fun c x hc => hs.2.2 c x (by omega)), h.2.2.1, D_same h.2.2.2.1 (fun x => hs.2.2 31 x (by omega)), sc_same h.2.2.2.2.1 (fun c x a1 a2 => hs.2.2 c x (by omega)), pq_pc hs⟩, fun c x hc => hs.2.2 c x (by omega)⟩
end CI
