/-! would somebody block -/
theorem bI_01 (x : Bool) : bI x = 0 ∨ bI x = 1 := by cases x <;> decide
theorem bI_t {x : Bool} (h : ¬ bI x = 0) : x = true := by cases x; exact absurd (by decide) h; rfl
theorem bI_f {x : Bool} (h : bI x = 0) : x = false := by cases x; rfl; exact absurd h (by decide)
def oI (x : Option Nat) : Int32 := match x with
  | none => -1
  | some a => nI a
section W6
variable {b : pB} {d : Nat} {k : pK} {pc : Nat} {f : Bool} {lo : List (Option pV)} {st : List pV} {g : pG} {σ : pI} {τ : pJ} {cu su mc ms : Nat} {E : pE}
theorem pm_if_eqB {x : Bool} {off : Int} (tgt : Nat) (hd : decode k.2.1 pc = .ok (.ifCond .eq off, 3)) (ht : (pc : Int) + off = (tgt : Int)) (kt : x = false → pm_Y b d k tgt f lo st g σ τ cu su mc ms E) (kf : x = true → pm_Y b d k (pc + 3) f lo st g σ τ cu su mc ms E) : pm_Y b d k pc f lo (pm_I (bI x) :: st) g σ τ cu su mc ms E :=
  pm_if_eq tgt hd ht (fun h => kt (bI_f h)) (fun h => kf (bI_t h))
theorem pm_if_neB {x : Bool} {off : Int} (tgt : Nat) (hd : decode k.2.1 pc = .ok (.ifCond .ne off, 3)) (ht : (pc : Int) + off = (tgt : Int)) (kt : x = true → pm_Y b d k tgt f lo st g σ τ cu su mc ms E) (kf : x = false → pm_Y b d k (pc + 3) f lo st g σ τ cu su mc ms E) : pm_Y b d k pc f lo (pm_I (bI x) :: st) g σ τ cu su mc ms E :=
  pm_if_ne tgt hd ht (fun h => kt (bI_t h)) (fun h => kf (bI_f h))
end W6
theorem rk_9 {n : Nat} {L : Nat → List Nat} (hw : rh_wf n L) (p q : Nat) : rh_rk L p q ≤ 9 := by
  unfold rh_rk
  split
  · decide
  · split
    · rename_i h
      have h1 := (get_idx h.1).1
      have h2 : p < n := Nat.lt_of_not_le fun z => by
        have h3 := h.1
        rw [hw.2.2 p z] at h3
        cases h3
      have h3 := wf_l hw h2
      omega
    · exact Nat.le_refl _
/-- two would rather have each other -/
def wb_ (L : Nat → List Nat) (p q x y : Nat) : Bool := decide (rh_rk L p q < rh_rk L p x) && decide (rh_rk L q p < rh_rk L q y)
theorem wb_eq {n : Nat} {L : Nat → List Nat} {σ : pI} (hw : rh_wf n L) (h : ci_S L σ) {p q x y : Nat} (hp : p < 8) (hq : q < 8) (hx : x < 8) (hy : y < 8) : (!decide (σ (22 + p) x ≤ σ (22 + p) q) && !decide (σ (22 + q) y ≤ σ (22 + q) p)) = wb_ L p q x y := by
  have l := fun a c => rk_9 hw a c
  have e1 : (!decide (σ (22 + p) x ≤ σ (22 + p) q)) = decide (rh_rk L p q < rh_rk L p x) := by
    rw [h p x hp hx, h p q hp hq, ← decide_not]
    apply decide_eq_decide.mpr
    rw [nI_leI (by have := l p x; omega) (by have := l p q; omega)]
    omega
  have e2 : (!decide (σ (22 + q) y ≤ σ (22 + q) p)) = decide (rh_rk L q p < rh_rk L q y) := by
    rw [h q y hq hy, h q p hq hp, ← decide_not]
    apply decide_eq_decide.mpr
    rw [nI_leI (by have := l q y; omega) (by have := l q p; omega)]
    omega
  rw [e1, e2]
  rfl
theorem ap_eq {n : Nat} {L : Nat → List Nat} {σ : pI} (hw : rh_wf n L) (h : ci_S L σ) {p q : Nat} (hp : p < 8) (hq : q < 8) : (!decide (nI 8 ≤ σ (22 + p) q)) = decide (rh_rk L p q < 8) := by
  have l := rk_9 hw p q
  rw [h p q hp hq, ← decide_not]
  apply decide_eq_decide.mpr
  rw [nI_leI (by omega) (by omega)]
  omega
theorem pf_eq {n : Nat} {L : Nat → List Nat} {σ : pI} (hw : rh_wf n L) (h : ci_S L σ) {p q x : Nat} (hp : p < 8) (hq : q < 8) (hx : x < 8) : (!decide (σ (22 + p) x ≤ σ (22 + p) q)) = decide (rh_rk L p q < rh_rk L p x) := by
  have l1 := rk_9 hw p q
  have l2 := rk_9 hw p x
  rw [h p q hp hq, h p x hp hx, ← decide_not]
  apply decide_eq_decide.mpr
  rw [nI_leI (by omega) (by omega)]
  omega
section W7
variable {b : pB} {g : pG} {σ : pI} {τ : pJ} {d p q x y h n ch : Nat} {L : Nat → List Nat} {t : Nat → Option Nat}
theorem k_W_wouldBlock (hg : pm_gok 48 g) (hw : rh_wf n L) (hS : ci_S L σ) (hp : p < 8) (hq : q < 8) (hs : pm_sh h = (1, 8)) (hl : h < g.1) (ex : σ h p = nI x) (ey : σ h q = nI y) (hx : x < 8) (hy : y < 8) : pm_C b d km_W_wouldBlock [pm_R 1, pm_I (nI p), pm_I (nI q), pm_R h] g σ τ 0 0 (pm_Rd (bI (wb_ L p q x y)) σ τ) := by
  rw [← wb_eq hw hS hp hq hx hy]
  exact c_W_wouldBlock hg hp hq hs hl ex ey hx hy
theorem k_W_arePossible (hg : pm_gok 48 g) (hw : rh_wf n L) (hS : ci_S L σ) (hp : p < 8) (hq : q < 8) : pm_C b d km_W_arePossible [pm_R 1, pm_I (nI p), pm_I (nI q)] g σ τ 0 0 (pm_Rd (bI (decide (rh_rk L p q < 8))) σ τ) := by
  rw [← ap_eq hw hS hp hq]
  exact c_W_arePossible hg hp hq
theorem k_W_prefers (hg : pm_gok 48 g) (hw : rh_wf n L) (hS : ci_S L σ) (hp : p < 8) (hq : q < 8) (hx : x < 8) : pm_C b d km_W_prefers [pm_R 1, pm_I (nI p), pm_I (nI q), pm_I (nI x)] g σ τ 0 0 (pm_Rd (bI (decide (rh_rk L p q < rh_rk L p x))) σ τ) := by
  rw [← pf_eq hw hS hp hq hx]
  exact c_W_prefers hg hp hq hx
theorem blk_no {rk : Nat → Nat → Nat} (h : ∀ o a c, o < n → t o = some c → t p = some a → (decide (rk p o < rk p a) && decide (rk o p < rk o c)) = false) : cs_blk n rk p t = false := by
  cases e : cs_blk n rk p t with
  | false => rfl
  | true =>
    obtain ⟨o, a, c, h1, h2, h3, h4, h5⟩ := cs_blk_iff.mp e
    have := h o a c h1 h2 h3
    rw [decide_eq_true h4, decide_eq_true h5] at this
    cases this
theorem k_W_wouldBlockWithAny (hg : pm_gok 48 g) (hB : pm_base b) (hw : rh_wf n L) (h4 : σ 1 4 = nI n) (hS : ci_S L σ) (hp : p < 8) (hs : pm_sh h = (1, 8)) (hl : h < g.1) (ht : ∀ a, a < 8 → σ h a = oI (t a)) (hb : ∀ a c, t a = some c → c < 8) (hx : t p = some x) : pm_C b (d + 1) km_W_wouldBlockWithAny [pm_R 1, pm_I (nI p), pm_R h] g σ τ 0 0 (pm_Rd (bI (cs_blk n (rh_rk L) p t)) σ τ) := by
  have h8 := hw.1
  show pm_Y b (d + 1) km_W_wouldBlockWithAny 0 false [some (pm_R 1), some (pm_I (nI p)), some (pm_R h), none] [] g σ τ 0 0 0 0 _
  refine pm_iconst' (nI 0) d_W_wouldBlockWithAny_0 (by decide) ?_
  refine pm_istore_n d_W_wouldBlockWithAny_1 (by decide) ?_
  refine pm_for n (fun i (_ : Unit) => pm_Y b (d + 1) km_W_wouldBlockWithAny 2 false [some (pm_R 1), some (pm_I (nI p)), some (pm_R h), some (pm_I (nI i))] [] g σ τ 0 0 0 0 (pm_Rd (bI (cs_blk n (rh_rk L) p t)) σ τ)) (fun i _ => ∀ o, o < i → ∀ a c, t o = some c → t p = some a → (decide (rh_rk L p o < rh_rk L p a) && decide (rh_rk L o p < rh_rk L o c)) = false) (fun i _ hi hI ih => ?_) (fun _ hI => ?_) n 0 () (by omega) (fun o ho => absurd ho (Nat.not_lt_zero o))
  · refine pm_iload_n d_W_wouldBlockWithAny_2 rfl ?_
    refine pm_aload_n d_W_wouldBlockWithAny_3 rfl ?_
    refine pm_geti' (nI n) d_W_wouldBlockWithAny_4 hf_W_26 (hg.s rfl) (hg.i (by decide)) rfl h4 ?_
    refine pm_icmp_ge_f 35 d_W_wouldBlockWithAny_7 rfl (by rw [nI_leI (by omega) (by omega)]; omega) ?_
    cases e : t i with
    | none =>
      refine pm_aload_n d_W_wouldBlockWithAny_10 rfl ?_
      refine pm_iload_n d_W_wouldBlockWithAny_11 rfl ?_
      refine pm_iaload' i (-1) d_W_wouldBlockWithAny_12 (hg.s hs) hl rfl (by omega) (by decide) (by rw [ht i (by omega), e]; rfl) ?_
      refine pm_iconst' (-1) d_W_wouldBlockWithAny_13 (by decide) ?_
      refine pm_icmp_eq_t 29 d_W_wouldBlockWithAny_14 rfl rfl ?_
      refine pm_iinc' (nI (i + 1)) d_W_wouldBlockWithAny_29 (by decide) rfl (pm_inc _) ?_
      refine pm_goto 2 d_W_wouldBlockWithAny_32 rfl ?_
      -- at 2: lo=[some (pm_R 1), some (pm_I (nI p)), some (pm_R h), some (pm_I (nI (i + 1)))] st=[]
      exact ih () (fun o ho a c e1 e2 => by
        by_cases eo : o = i
        · subst eo; rw [e] at e1; cases e1
        · exact hI o (by omega) a c e1 e2)
    | some y =>
      refine pm_aload_n d_W_wouldBlockWithAny_10 rfl ?_
      refine pm_iload_n d_W_wouldBlockWithAny_11 rfl ?_
      refine pm_iaload' i (nI y) d_W_wouldBlockWithAny_12 (hg.s hs) hl rfl (by omega) (by decide) (by rw [ht i (by omega), e]; rfl) ?_
      refine pm_iconst' (-1) d_W_wouldBlockWithAny_13 (by decide) ?_
      refine pm_icmp_eq_f 29 d_W_wouldBlockWithAny_14 rfl (nI_m1 (by have := hb i y e; omega)) ?_
      refine pm_aload_n d_W_wouldBlockWithAny_17 rfl ?_
      refine pm_iload_n d_W_wouldBlockWithAny_18 rfl ?_
      refine pm_iload_n d_W_wouldBlockWithAny_19 rfl ?_
      refine pm_aload_n d_W_wouldBlockWithAny_20 rfl ?_
      refine pm_callR (i := 1) (ci := 1) (rest := []) [pm_I (nI p), pm_I (nI i), pm_R h] hB d_W_wouldBlockWithAny_21 hc_W_44 (k_W_wouldBlock hg hw hS hp (by omega) hs hl (by rw [ht p hp, hx]; rfl) (by rw [ht i (by omega), e]; rfl) (hb p x hx) (hb i y e)) (hg.s rfl) (hg.i (by decide)) rfl rfl rfl rfl (Nat.le_of_ble_eq_true rfl) (Nat.le_of_ble_eq_true rfl) (by omega) (by omega) ?_
      refine pm_if_eqB 29 d_W_wouldBlockWithAny_24 rfl (fun c24 => ?_) (fun c24 => ?_)
      · refine pm_iinc' (nI (i + 1)) d_W_wouldBlockWithAny_29 (by decide) rfl (pm_inc _) ?_
        refine pm_goto 2 d_W_wouldBlockWithAny_32 rfl ?_
        -- at 2: lo=[some (pm_R 1), some (pm_I (nI p)), some (pm_R h), some (pm_I (nI (i + 1)))] st=[]
        exact ih () (fun o ho a c e1 e2 => by
          by_cases eo : o = i
          · subst eo
            rw [e] at e1
            rw [hx] at e2
            cases e1; cases e2
            exact c24
          · exact hI o (by omega) a c e1 e2)
      · refine pm_iconst' (nI 1) d_W_wouldBlockWithAny_27 (by decide) ?_
        exact pm_zreturn d_W_wouldBlockWithAny_28 rfl (Or.inr rfl) (fun h => h) (Nat.le_refl _) (Nat.le_refl _) ⟨by
          have hc : cs_blk n (rh_rk L) p t = true := cs_blk_iff.mpr ⟨i, x, y, hi, e, hx, by
            have := c24
            unfold wb_ at this
            rw [Bool.and_eq_true, decide_eq_true_eq, decide_eq_true_eq] at this
            exact this⟩
          rw [hc]
          rfl, rfl, rfl⟩
  · refine pm_iload_n d_W_wouldBlockWithAny_2 rfl ?_
    refine pm_aload_n d_W_wouldBlockWithAny_3 rfl ?_
    refine pm_geti' (nI n) d_W_wouldBlockWithAny_4 hf_W_26 (hg.s rfl) (hg.i (by decide)) rfl h4 ?_
    refine pm_icmp_ge_t 35 d_W_wouldBlockWithAny_7 rfl (by rw [nI_leI (by omega) (by omega)]; omega) ?_
    refine pm_iconst' (nI 0) d_W_wouldBlockWithAny_35 (by decide) ?_
    exact pm_zreturn d_W_wouldBlockWithAny_36 rfl (Or.inl rfl) (fun h => h) (Nat.le_refl _) (Nat.le_refl _) ⟨by rw [blk_no (fun o a c h1 h2 h3 => hI o h1 a c h2 h3)]; rfl, rfl, rfl⟩
end W7
