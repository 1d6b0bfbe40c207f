/-! the other side: all assignments are gone through, to the end -/
def gr_ (n : Nat) (L : Nat → List Nat) (ch : Nat → Option Nat) (w : Nat → Nat) (p : Nat) : List (List Nat) := if p < n then gw_rest L n ch w (p + 1) else rh_ext L 0 (gw_pre w n) ++ gw_rest L n ch w n
theorem gw_m_pos (n : Nat) (ch : Nat → Option Nat) (p : Nat) : 1 ≤ gw_m n ch p := by
  unfold gw_m
  split
  · show 1 ≤ _ * _ + 1 + _; omega
  · omega
section GR
variable {n : Nat} {L : Nat → List Nat} {T : List Nat → Bool} {ch la : Nat → Option Nat} {w : Nat → Nat} {p c : Nat} {A : rh_A}
theorem gr_take (hp : p < n) (hn : ch (p + 1) = none) (hf : gw_from (ch p) ≤ c) (hc : c ≤ (L p).length) (h : ∀ i, gw_from (ch p) ≤ i → i < c → (rh_ext L (n - (p + 1)) (gw_pre w p ++ [gw_cho L p i])).filter T = []) :
    (gr_ n L ch w p).filter T = (gr_ n L (gw_up ch p (some c)) (gw_up w p (gw_cho L p c)) (p + 1)).filter T := by
  unfold gr_
  rw [if_pos hp, gw_take hf hc h]
  by_cases e : p + 1 < n
  · rw [if_pos e, ← gw_begin e (by rw [gw_up_ne _ _ (by omega)]; exact hn)]
  · have e2 : p + 1 = n := by omega
    subst e2
    rw [if_neg e, Nat.sub_self]
theorem gr_none (hp : p < n) (hf : gw_from (ch p) ≤ (L p).length + 1) (h : ∀ i, gw_from (ch p) ≤ i → i ≤ (L p).length → (rh_ext L (n - (p + 1)) (gw_pre w p ++ [gw_cho L p i])).filter T = []) : (gr_ n L ch w p).filter T = (gw_rest L n ch w p).filter T := by
  unfold gr_
  rw [if_pos hp, gw_none hf h]
theorem gr_dec {ch' : Nat → Option Nat} (hp : p < n) (h : ∀ i, i < p + 1 → ch' i = ch i) : gr_ n L ch' w p = gw_rest L n ch w (p + 1) := by
  unfold gr_
  rw [if_pos hp]
  exact gw_rest_congr (p + 1) h (fun _ _ => rfl)
theorem gr_leaf (hp : ¬ p < n) : gr_ n L ch w p = gw_pre w n :: gw_rest L n ch w n := by
  unfold gr_
  rw [if_neg hp]
  rfl
theorem rh_fold_ge : ∀ (l : List (List Nat)) (A : rh_A), A.1 ≤ (rh_fold n A l).1
  | [], A => Nat.le_refl _
  | m :: l, A => Nat.le_trans (Nat.le_succ A.1) (rh_fold_ge l (rh_acc n A (fun p => m.getD p 0)))
theorem g1_forget (h : (ch p = none ∧ gs_Good n (rh_rk L) w p ∧ gs_LA w p la) ∨ ((ch p).isSome = true ∧ p < n ∧ gs_Good n (rh_rk L) w (p + 1) ∧ gs_LA w (p + 1) la)) : gs_Good n (rh_rk L) w p ∧ gs_LA w p (fg_ true (ch p) w la p) := by
  rcases h with ⟨h1, h2, h3⟩ | ⟨h1, -, h2, h3⟩
  · rw [h1]; exact ⟨h2, h3⟩
  · refine ⟨fun r hr => h2 r (by omega), ?_⟩
    cases e : ch p with
    | none => rw [e] at h1; cases h1
    | some c =>
      show gs_LA w p (if true = true then (if w p < p then la else gw_up (gw_up la (w p) none) p none) else gw_up la (w p) none)
      rw [if_pos rfl]
      by_cases z : w p < p
      · rw [if_pos z]; exact gs_LA_stay h3 h2 z
      · rw [if_neg z]; exact gs_LA_back h3 h2 (by omega)
theorem g0_forget (h : (ch p = none ∧ gp_Good n (rh_rk L) w p ∧ gp_LA w p la) ∨ ((ch p).isSome = true ∧ p < n ∧ gp_Good n (rh_rk L) w (p + 1) ∧ gp_LA w (p + 1) la)) : gp_Good n (rh_rk L) w p ∧ gp_LA w p (fg_ false (ch p) w la p) := by
  rcases h with ⟨h1, h2, h3⟩ | ⟨h1, -, h2, h3⟩
  · rw [h1]; exact ⟨h2, h3⟩
  · refine ⟨fun r hr => h2 r (by omega), ?_⟩
    cases e : ch p with
    | none => rw [e] at h1; cases h1
    | some c =>
      show gp_LA w p (if false = true then (if w p < p then la else gw_up (gw_up la (w p) none) p none) else gw_up la (w p) none)
      rw [if_neg (by decide)]
      exact gp_LA_back h3 (fun r hr => ((h2 p (Nat.lt_succ_self p)).2.2.1 r hr).1)
theorem g1_b (hp : p ≤ n) (hG : gs_Good n (rh_rk L) w p) (hA : gs_LA w p la) : ∀ x y, la x = some y → y < n := by
  intro x y h
  obtain ⟨r, hr, ⟨h1, h2⟩ | ⟨h1, h2⟩⟩ := (hA x y).mp h
  · rw [h2]; exact (hG r hr).1
  · omega
theorem g0_b (hp : p ≤ n) (hA : gp_LA w p la) : ∀ x y, la x = some y → y < n := by
  intro x y h
  have := (hA x y).mp h
  omega
theorem ns_sm (hw : rh_wf n L) (hG : gs_Good n (rh_rk L) w n) : ns_ (fun l k => wl_ L l k (w l) (w k)) n = rh_sm n L (gw_pre w n) := by
  apply bool_iff
  rw [rh_sm_iff, gs_leaf hw hG, ns_iff]
  constructor
  · intro h a c h1 h2 h3 h4 h5
    have := h a c h1 h2
    unfold wl_ at this
    rw [decide_eq_true h3, decide_eq_true h4, decide_eq_true h5] at this
    cases this
  · intro h a c h1 h2
    apply Bool.eq_false_iff.mpr
    intro z
    unfold wl_ at z
    simp only [Bool.and_eq_true, decide_eq_true_eq] at z
    exact h a c h1 h2 z.1 z.2.1 z.2.2
theorem ns_pt (hw : rh_wf n L) (hG : gp_Good n (rh_rk L) w n) (hA : gp_LA w n la) {u : Nat → Nat} (hu : ∀ x, x < n → la x = some (u x)) : ns_ (fun l k => wl_ L l k (u l) (u k)) n = rh_pt n L (gw_pre w n) := by
  apply bool_iff
  rw [rh_pt_iff, gp_leaf hw hG hA, ns_iff]
  constructor
  · intro h a c i j h1 h2 hi hj h3 h4 h5
    rw [hu a (by omega)] at hi
    rw [hu c h2] at hj
    have hi := Option.some.inj hi
    have hj := Option.some.inj hj
    subst hi
    subst hj
    have := h a c h1 h2
    unfold wl_ at this
    rw [decide_eq_true h3, decide_eq_true h4, decide_eq_true h5] at this
    cases this
  · intro h a c h1 h2
    apply Bool.eq_false_iff.mpr
    intro z
    unfold wl_ at z
    simp only [Bool.and_eq_true, decide_eq_true_eq] at z
    exact h a c (u a) (u c) h1 h2 (hu a (by omega)) (hu c h2) z.1 z.2.1 z.2.2
theorem cy_it_cg {F G : Nat → Nat} (hF : ∀ i, i < n → F i < n) (h : ∀ i, i < n → F i = G i) (hp : p < n) : ∀ k, cy_it G k p = cy_it F k p
  | 0 => rfl
  | k + 1 => by
    show G (cy_it G k p) = F (cy_it F k p)
    rw [cy_it_cg hF h hp k, h _ (cy_it_lt hF hp k)]
theorem cy_is_cg {F G : Nat → Nat} (hF : ∀ i, i < n → F i < n) (h : ∀ i, i < n → F i = G i) (hp : p < n) {k : Nat} (hk : cy_is F p k) : cy_is G p k :=
  ⟨hk.1, by rw [cy_it_cg hF h hp]; exact hk.2.1, fun j h1 h2 => by rw [cy_it_cg hF h hp]; exact hk.2.2 j h1 h2⟩
theorem F_pre {l : List (List Nat)} (h : gw_pre w n :: l = (rh_ext L n []).filter (rh_pt n L)) : ∀ r, r < n → F_ n L r = w r := by
  intro r hr
  unfold F_ PM_
  rw [← h]
  exact gw_pre_at hr
end GR
def g1_I (n : Nat) (L : Nat → List Nat) (σ₀ : pI) (p : Nat) (ch : Nat → Option Nat) (w : Nat → Nat) (la : Nat → Option Nat) (A : rh_A) (σ : pI) : Prop :=
  (∀ c x, c ≠ 52 → c ≠ 53 → c ≠ 56 → c ≠ 57 → c ≠ 58 → ¬ (c = 48 ∧ x = 6) → σ c x = σ₀ c x) ∧ mt_ n 57 la σ ∧ mt_ n 58 ch σ ∧ mA_ n A σ ∧ (∀ r, r < n → (ch r).isSome = true → σ 56 r = nI (w r) ∧ w r < n) ∧
  (∀ r, r < p → (ch r).isSome = true) ∧ (∀ r, p < r → ch r = none) ∧ (∀ r c, ch r = some c → c ≤ (L r).length) ∧
  ((ch p = none ∧ gs_Good n (rh_rk L) w p ∧ gs_LA w p la) ∨ ((ch p).isSome = true ∧ p < n ∧ gs_Good n (rh_rk L) w (p + 1) ∧ gs_LA w (p + 1) la)) ∧
  rh_fold n A ((gr_ n L ch w p).filter (rh_sm n L)) = SA_ n L
def g0_I (n : Nat) (L : Nat → List Nat) (σ₀ : pI) (p : Nat) (ch : Nat → Option Nat) (w : Nat → Nat) (la : Nat → Option Nat) (σ : pI) : Prop :=
  (∀ c x, c ≠ 54 → c ≠ 55 → c ≠ 56 → c ≠ 57 → c ≠ 58 → σ c x = σ₀ c x) ∧ mt_ n 57 la σ ∧ mt_ n 58 ch σ ∧ (∀ r, r < n → (ch r).isSome = true → σ 56 r = nI (w r) ∧ w r < n) ∧
  (∀ r, r < p → (ch r).isSome = true) ∧ (∀ r, p < r → ch r = none) ∧ (∀ r c, ch r = some c → c ≤ (L r).length) ∧
  ((ch p = none ∧ gp_Good n (rh_rk L) w p ∧ gp_LA w p la) ∨ ((ch p).isSome = true ∧ p < n ∧ gp_Good n (rh_rk L) w (p + 1) ∧ gp_LA w (p + 1) la)) ∧
  (gr_ n L ch w p).filter (rh_pt n L) = (rh_ext L n []).filter (rh_pt n L)
section M7
variable {b : pB} {g : pG} {σ₀ : pI} {τ : pJ} {d n : Nat} {L : Nat → List Nat}
theorem g1_main (hg : pm_gok 61 g) (hB : pm_base b) (hw : rh_wf n L) (hM0 : mi_ n L σ₀) (hR0 : mr_ n L σ₀) : ∀ (m p : Nat) (ch : Nat → Option Nat) (w : Nat → Nat) (la : Nat → Option Nat) (A : rh_A) (σ : pI), gw_m n ch p ≤ m → p ≤ n → g1_I n L σ₀ p ch w la A σ → ∀ l4 : Option pV, pm_Y b (d + 6) km_M_goThrough 38 true [some (pm_R 48), some (pm_I (nI 1)), some (pm_I (nI p)), some (pm_I (nI 0)), l4] [] g σ τ 0 0 0 0 (pm_Wp (fun v σ' => v = none ∧ mA_ n (SA_ n L) σ' ∧ ∀ c x, c ≠ 52 → c ≠ 53 → c ≠ 56 → c ≠ 57 → c ≠ 58 → ¬ (c = 48 ∧ x = 6) → σ' c x = σ₀ c x) τ)
  | 0, p, ch, w, la, A, σ, hm, hp, hI, l4 => by
    have := gw_m_pos n ch p
    omega
  | m + 1, p, ch, w, la, A, σ, hm, hp, hI, l4 => by
    have ih := g1_main hg hB hw hM0 hR0 m
    obtain ⟨fr, hT, hC, hA, hW, hpre, hpost, hcb, hst, hfo⟩ := hI
    have hM : mi_ n L σ := mi_of hM0 (fr 48 1 (by omega) (by omega) (by omega) (by omega) (by omega) (by omega) ) (fun c x hc => fr c x (by omega) (by omega) (by omega) (by omega) (by omega) (by omega) )
    have hR : mr_ n L σ := fun p q hp hq => (fr 59 _ (by omega) (by omega) (by omega) (by omega) (by omega) (by omega) ).trans (hR0 p q hp hq)
    have h8 := hw.1
    rcases Nat.lt_or_ge p n with hlt | hge
    rotate_left
    · skip
      have hpn : p = n := by omega
      subst hpn
      have hnone : ch p = none := by
        rcases hst with h | h
        · exact h.1
        · exact absurd h.2.1 (by omega)
      have hG : gs_Good p (rh_rk L) w p ∧ gs_LA w p la := by
        rcases hst with h | h
        · exact h.2
        · exact absurd h.2.1 (by omega)
      have hA9 : A.1 < 2 ^ 31 := by
        have h1 := rh_fold_ge (n := p) ((gr_ p L ch w p).filter (rh_sm p L)) A
        rw [hfo] at h1
        have := SA_le hw
        omega
      have hnext : rh_fold p (if ns_ (fun l k => wl_ L l k (w l) (w k)) p = true then rh_acc p A w else A) ((gw_rest L p ch w p).filter (rh_sm p L)) = SA_ p L := by
        rw [gr_leaf (Nat.lt_irrefl p)] at hfo
        rw [ns_sm hw hG.1]
        by_cases z : rh_sm p L (gw_pre w p) = true
        · rw [if_pos z]
          rw [List.filter_cons_of_pos z] at hfo
          rw [← hfo, rh_acc_congr A (m := w) (m' := fun r => (gw_pre w p).getD r 0) (fun r hr => (gw_pre_at hr).symm)]
          rfl
        · rw [if_neg z]
          rw [List.filter_cons_of_neg z] at hfo
          exact hfo
      cases p with
      | zero =>
        refine pm_iload_n d_M_goThrough_38 rfl ?_
        refine pm_if_ne_f 190 d_M_goThrough_39 rfl (by decide) ?_
        refine pm_iload_n d_M_goThrough_42 rfl ?_
        refine pm_aload_n d_M_goThrough_43 rfl ?_
        refine pm_geti' (nI 0) d_M_goThrough_44 hf_M_47 (hg.s rfl) (hg.i (by decide)) rfl hM.1 ?_
        refine pm_icmp_ne_f 62 d_M_goThrough_47 rfl rfl ?_
        refine pm_aload_n d_M_goThrough_50 rfl ?_
        refine pm_iload_n d_M_goThrough_51 rfl ?_
        refine pm_callWp (i := 48) (ci := 5) (rest := []) [pm_I (nI 1)] hB d_M_goThrough_52 hc_M_101 (pm_C_up (show 0 + 2 ≤ d + 5 by omega) (k_M_look_1 hg hB hw hM.1 hR (fun x hx => (hW x hx (hpre x hx)).1) (fun x hx => (hW x hx (hpre x hx)).2) hA hA9)) (hg.s rfl) (hg.i (by decide)) rfl rfl rfl rfl (Nat.le_of_ble_eq_true rfl) (Nat.le_of_ble_eq_true rfl) (by omega) (by omega) (fun v52 σ₁ hv52 hq52 => ?_)
        obtain ⟨rfl, m1, m2⟩ := hq52
        show pm_Y b _ km_M_goThrough 55 true [some (pm_R 48), some (pm_I (nI 1)), some (pm_I (nI 0)), some (pm_I (nI 0)), l4] [pm_I (nI 0)] g σ₁ τ 0 0 0 0 _
        refine pm_istore_n d_M_goThrough_55 (by decide) ?_
        refine pm_iinc' ((nI 0) + Int32.ofInt (-1)) d_M_goThrough_56 (by decide) rfl rfl ?_
        refine pm_goto 173 d_M_goThrough_59 rfl ?_
        refine pm_iload_n d_M_goThrough_173 rfl ?_
        refine pm_if_ne_f 181 d_M_goThrough_174 rfl (by decide) ?_
        refine pm_iload_n d_M_goThrough_177 rfl ?_
        refine pm_if_ge_f 185 d_M_goThrough_178 rfl (by decide) ?_
        refine pm_iconst' (nI 1) d_M_goThrough_181 (by decide) ?_
        refine pm_goto 186 d_M_goThrough_182 rfl ?_
        refine pm_istore_n d_M_goThrough_186 (by decide) ?_
        refine pm_goto 38 d_M_goThrough_187 rfl ?_
        refine pm_iload_n d_M_goThrough_38 rfl ?_
        refine pm_if_ne_t 190 d_M_goThrough_39 rfl (by decide) ?_
        exact pm_return d_M_goThrough_190 rfl (fun _ => rfl) (Nat.le_refl _) (Nat.le_refl _) ⟨⟨rfl, by rw [← hnext]; exact m1, fun c x e1 e2 e3 e4 e5 e6 => (m2 c x e1 e2 e6).trans (fr c x e1 e2 e3 e4 e5 e6)⟩, rfl⟩
      | succ k =>
        refine pm_iload_n d_M_goThrough_38 rfl ?_
        refine pm_if_ne_f 190 d_M_goThrough_39 rfl (by decide) ?_
        refine pm_iload_n d_M_goThrough_42 rfl ?_
        refine pm_aload_n d_M_goThrough_43 rfl ?_
        refine pm_geti' (nI (k + 1)) d_M_goThrough_44 hf_M_47 (hg.s rfl) (hg.i (by decide)) rfl hM.1 ?_
        refine pm_icmp_ne_f 62 d_M_goThrough_47 rfl rfl ?_
        refine pm_aload_n d_M_goThrough_50 rfl ?_
        refine pm_iload_n d_M_goThrough_51 rfl ?_
        refine pm_callWp (i := 48) (ci := 5) (rest := []) [pm_I (nI 1)] hB d_M_goThrough_52 hc_M_101 (pm_C_up (show 0 + 2 ≤ d + 5 by omega) (k_M_look_1 hg hB hw hM.1 hR (fun x hx => (hW x hx (hpre x hx)).1) (fun x hx => (hW x hx (hpre x hx)).2) hA hA9)) (hg.s rfl) (hg.i (by decide)) rfl rfl rfl rfl (Nat.le_of_ble_eq_true rfl) (Nat.le_of_ble_eq_true rfl) (by omega) (by omega) (fun v52 σ₁ hv52 hq52 => ?_)
        obtain ⟨rfl, m1, m2⟩ := hq52
        show pm_Y b _ km_M_goThrough 55 true [some (pm_R 48), some (pm_I (nI 1)), some (pm_I (nI (k + 1))), some (pm_I (nI 0)), l4] [pm_I (nI 0)] g σ₁ τ 0 0 0 0 _
        refine pm_istore_n d_M_goThrough_55 (by decide) ?_
        refine pm_iinc' (nI ((k + 1) - 1)) d_M_goThrough_56 (by decide) rfl (pm_dec (by omega)) ?_
        refine pm_goto 173 d_M_goThrough_59 rfl ?_
        refine pm_iload_n d_M_goThrough_173 rfl ?_
        refine pm_if_ne_f 181 d_M_goThrough_174 rfl (by decide) ?_
        refine pm_iload_n d_M_goThrough_177 rfl ?_
        refine pm_if_ge_t 185 d_M_goThrough_178 rfl (Int32.not_lt.mp (nI_nn (by omega))) ?_
        refine pm_iconst' (nI 0) d_M_goThrough_185 (by decide) ?_
        refine pm_istore_n d_M_goThrough_186 (by decide) ?_
        refine pm_goto 38 d_M_goThrough_187 rfl ?_
        -- at 38: lo=[some (pm_R 48), some (pm_I (nI 1)), some (pm_I (nI ((k + 1) - 1))), some (pm_I (nI 0)), l4] st=[]
        exact ih k ch w la _ σ₁ (by have := gw_m_leaf (n := k + 1) (ch := ch) (p := k) rfl; omega) (by omega) ⟨fun c x e1 e2 e3 e4 e5 e6 => (m2 c x e1 e2 e6).trans (fr c x e1 e2 e3 e4 e5 e6), fun x hx => (m2 57 x (by omega) (by omega) (by omega)).trans (hT x hx), fun x hx => (m2 58 x (by omega) (by omega) (by omega)).trans (hC x hx), m1, fun r hr hs => ⟨(m2 56 r (by omega) (by omega) (by omega)).trans (hW r hr hs).1, (hW r hr hs).2⟩, fun r hr => hpre r (by omega), fun r hr => by
          by_cases e : r = k + 1
          · rw [e]; exact hnone
          · exact hpost r (by omega), hcb, Or.inr ⟨hpre k (by omega), by omega, hG.1, hG.2⟩, by rw [gr_dec (ch := ch) (by omega) (fun _ _ => rfl)]; exact hnext⟩ l4
  
    · skip
      have hF := g1_forget hst
      have h7 := wf_len hw p
      have hfr : gw_from (ch p) ≤ (L p).length + 1 := by
        cases e : ch p with
        | none => exact Nat.zero_le _
        | some c => have := hcb p c e; show c + 1 ≤ _; omega
      obtain ⟨c, hc0⟩ : ∃ c, nx_ (fun c => gk_ true n L w (fg_ true (ch p) w la p) p (gw_cho L p c)) ((L p).length + 1 - gw_from (ch p)) (gw_from (ch p)) = c := ⟨_, rfl⟩
      have hnx := nx_is (ok := (fun c => gk_ true n L w (fg_ true (ch p) w la p) p (gw_cho L p c))) ((L p).length + 1 - gw_from (ch p)) (gw_from (ch p))
      rw [hc0] at hnx
      refine l_M_gt_step (fl := true) hg hB hw hM hR hT hC hlt hW hcb hpre (g1_b (by omega) hF.1 hF.2) hc0 (fun hcl σ' hg' => ?_) (fun hcl σ' hg' => ?_)
      · skip
        have hok := gk_s.mp (hnx.2.2.2 (by omega))
        obtain ⟨q1, q2, q3, q4, q5⟩ := hg'
        have hfold := gr_take hlt (hpost _ (by omega)) hnx.1 hcl (fun i a1 a2 => gs_sound hlt (cho_lt hw hlt i) hF.1 hF.2 (fun z => by
            have z1 := hnx.2.2.1 i a1 (by omega)
            have z2 := gk_s.mpr z
            have z1 : gk_ true n L w (fg_ true (ch p) w la p) p (gw_cho L p i) = false := z1
            rw [z1] at z2
            cases z2) _)
        exact ih (p + 1) (gw_up ch p (some c)) (gw_up w p (gw_cho L p c)) (gw_up (gw_up (fg_ true (ch p) w la p) (gw_cho L p c) (some p)) p (some (gw_cho L p c))) A σ' (by have := gw_m_take (n := n) (ch := ch) hlt hnx.1 (show c ≤ 8 by omega) (fun _ => hpost _ (by omega)); omega) (by omega)
          ⟨fun c x e1 e2 e3 e4 e5 e6 => (q5 c x (by omega) (by omega) (by omega)).trans (fr c x e1 e2 e3 e4 e5 e6), q1, q2, ⟨(q5 48 6 (by omega) (by omega) (by omega)).trans hA.1, fun a c' ha hc' => (q5 52 _ (by omega) (by omega) (by omega)).trans (hA.2.1 a c' ha hc'), fun z a ha => (q5 53 a (by omega) (by omega) (by omega)).trans (hA.2.2 z a ha)⟩, fun r hr hs => by
            by_cases e : r = p
            · rw [e, gw_up_self]; exact ⟨q3, cho_lt hw hlt c⟩
            · rw [gw_up_ne _ _ e] at hs ⊢; rw [q4 r e]; exact hW r hr hs, fun r hr => by
            by_cases e : r = p
            · rw [e, gw_up_self]; rfl
            · rw [gw_up_ne _ _ e]; exact hpre r (by omega), fun r hr => by rw [gw_up_ne _ _ (by omega)]; exact hpost r (by omega), fun r c' hc' => by
            by_cases e : r = p
            · rw [e, gw_up_self] at hc'; rw [e, ← Option.some.inj hc']; exact hcl
            · rw [gw_up_ne _ _ e] at hc'; exact hcb r c' hc', Or.inl ⟨by rw [gw_up_ne _ _ (by omega)]; exact hpost _ (by omega), gs_next (cho_lt hw hlt c) hF.1 hok, gs_LA_put hF.2 (gs_next (cho_lt hw hlt c) hF.1 hok)⟩, by rw [← hfold]; exact hfo⟩ l4
      · skip
        have hno := (gr_none hlt hfr (fun i a1 a2 => gs_sound hlt (cho_lt hw hlt i) hF.1 hF.2 (fun z => by
            have z1 := hnx.2.2.1 i a1 (by omega)
            have z2 := gk_s.mpr z
            have z1 : gk_ true n L w (fg_ true (ch p) w la p) p (gw_cho L p i) = false := z1
            rw [z1] at z2
            cases z2) _))
        obtain ⟨q1, q2, q3⟩ := hg'
        cases p with
        | zero =>
          refine pm_iinc' ((nI 0) + Int32.ofInt (-1)) d_M_goThrough_170 (by decide) rfl rfl ?_
          refine pm_iload_n d_M_goThrough_173 rfl ?_
          refine pm_if_ne_f 181 d_M_goThrough_174 rfl (by decide) ?_
          refine pm_iload_n d_M_goThrough_177 rfl ?_
          refine pm_if_ge_f 185 d_M_goThrough_178 rfl (by decide) ?_
          refine pm_iconst' (nI 1) d_M_goThrough_181 (by decide) ?_
          refine pm_goto 186 d_M_goThrough_182 rfl ?_
          refine pm_istore_n d_M_goThrough_186 (by decide) ?_
          refine pm_goto 38 d_M_goThrough_187 rfl ?_
          refine pm_iload_n d_M_goThrough_38 rfl ?_
          refine pm_if_ne_t 190 d_M_goThrough_39 rfl (by decide) ?_
          exact pm_return d_M_goThrough_190 rfl (fun _ => rfl) (Nat.le_refl _) (Nat.le_refl _) ⟨⟨rfl, by rw [hno] at hfo; rw [← hfo]; exact ⟨(q3 48 6 (by omega) (by omega)).trans hA.1, fun a c' ha hc' => (q3 52 _ (by omega) (by omega)).trans (hA.2.1 a c' ha hc'), fun z a ha => (q3 53 a (by omega) (by omega)).trans (hA.2.2 z a ha)⟩, fun c x e1 e2 e3 e4 e5 e6 => (q3 c x (by omega) (by omega)).trans (fr c x e1 e2 e3 e4 e5 e6)⟩, rfl⟩
        | succ p =>
          refine pm_iinc' (nI ((p + 1) - 1)) d_M_goThrough_170 (by decide) rfl (pm_dec (by omega)) ?_
          refine pm_iload_n d_M_goThrough_173 rfl ?_
          refine pm_if_ne_f 181 d_M_goThrough_174 rfl (by decide) ?_
          refine pm_iload_n d_M_goThrough_177 rfl ?_
          refine pm_if_ge_t 185 d_M_goThrough_178 rfl (Int32.not_lt.mp (nI_nn (by omega))) ?_
          refine pm_iconst' (nI 0) d_M_goThrough_185 (by decide) ?_
          refine pm_istore_n d_M_goThrough_186 (by decide) ?_
          refine pm_goto 38 d_M_goThrough_187 rfl ?_
          -- at 38: lo=[some (pm_R 48), some (pm_I (nI 1)), some (pm_I (nI ((p + 1) - 1))), some (pm_I (nI 0)), l4] st=[]
          exact ih p (gw_up ch (p + 1) none) w (fg_ true (ch (p + 1)) w la (p + 1)) A σ' (by have := gw_m_none (n := n) (ch := ch) (p := p) (v := none) hlt; omega) (by omega) ⟨fun c x e1 e2 e3 e4 e5 e6 => (q3 c x (by omega) (by omega)).trans (fr c x e1 e2 e3 e4 e5 e6), q1, q2, ⟨(q3 48 6 (by omega) (by omega)).trans hA.1, fun a c' ha hc' => (q3 52 _ (by omega) (by omega)).trans (hA.2.1 a c' ha hc'), fun z a ha => (q3 53 a (by omega) (by omega)).trans (hA.2.2 z a ha)⟩, fun r hr hs => by
            by_cases e : r = p + 1
            · rw [e, gw_up_self] at hs; cases hs
            · rw [gw_up_ne _ _ e] at hs; rw [q3 56 r (by omega) (by omega)]; exact hW r hr hs, fun r hr => by rw [gw_up_ne _ _ (by omega)]; exact hpre r (by omega), fun r hr => by
            by_cases e : r = p + 1
            · rw [e, gw_up_self]
            · rw [gw_up_ne _ _ e]; exact hpost r (by omega), fun r c' hc' => by
            by_cases e : r = p + 1
            · rw [e, gw_up_self] at hc'; cases hc'
            · rw [gw_up_ne _ _ e] at hc'; exact hcb r c' hc', Or.inr ⟨by rw [gw_up_ne _ _ (by omega)]; exact hpre p (by omega), by omega, hF.1, hF.2⟩, by rw [gr_dec (ch := ch) (by omega) (fun i hi => gw_up_ne _ _ (by omega)), ← hno]; exact hfo⟩ l4
  
theorem g0_main (hg : pm_gok 61 g) (hB : pm_base b) (hw : rh_wf n L) (hM0 : mi_ n L σ₀) (hR0 : mr_ n L σ₀) : ∀ (m p : Nat) (ch : Nat → Option Nat) (w : Nat → Nat) (la : Nat → Option Nat) (σ : pI), gw_m n ch p ≤ m → p ≤ n → g0_I n L σ₀ p ch w la σ → ∀ l4 : Option pV, pm_Y b (d + 6) km_M_goThrough 38 true [some (pm_R 48), some (pm_I (nI 0)), some (pm_I (nI p)), some (pm_I (nI 0)), l4] [] g σ τ 0 0 0 0 (pm_Wp (fun v σ' => v = none ∧ (∀ r, r < n → σ' 56 r = nI (F_ n L r)) ∧ tp_ (F_ n L) (sz_ n L) n σ' ∧ ∀ c x, c ≠ 54 → c ≠ 55 → c ≠ 56 → c ≠ 57 → c ≠ 58 → σ' c x = σ₀ c x) τ)
  | 0, p, ch, w, la, σ, hm, hp, hI, l4 => by
    have := gw_m_pos n ch p
    omega
  | m + 1, p, ch, w, la, σ, hm, hp, hI, l4 => by
    have ih := g0_main hg hB hw hM0 hR0 m
    obtain ⟨fr, hT, hC, hW, hpre, hpost, hcb, hst, hfo⟩ := hI
    have hM : mi_ n L σ := mi_of hM0 (fr 48 1 (by omega) (by omega) (by omega) (by omega) (by omega) ) (fun c x hc => fr c x (by omega) (by omega) (by omega) (by omega) (by omega) )
    have hR : mr_ n L σ := fun p q hp hq => (fr 59 _ (by omega) (by omega) (by omega) (by omega) (by omega) ).trans (hR0 p q hp hq)
    have h8 := hw.1
    rcases Nat.lt_or_ge p n with hlt | hge
    rotate_left
    · skip
      have hpn : p = n := by omega
      subst hpn
      have hnone : ch p = none := by
        rcases hst with h | h
        · exact h.1
        · exact absurd h.2.1 (by omega)
      have hG : gp_Good p (rh_rk L) w p ∧ gp_LA w p la := by
        rcases hst with h | h
        · exact h.2
        · exact absurd h.2.1 (by omega)
      obtain ⟨u, hu⟩ : ∃ u : Nat → Nat, ∀ x, x < p → la x = some (u x) ∧ u x < p := ⟨fun x => (la x).getD 0, fun x hx => by
        obtain ⟨y, y1, y2⟩ := gp_full hG.1 hG.2 hx
        show la x = some ((la x).getD 0) ∧ (la x).getD 0 < p
        rw [y2]; exact ⟨rfl, y1⟩⟩
      have hla : ∀ r, r < p → la (w r) = some r := fun r hr => (hG.2 (w r) r).mpr ⟨hr, rfl⟩
      have hnp := ns_pt hw hG.1 hG.2 (fun x hx => (hu x hx).1)
      rw [gr_leaf (Nat.lt_irrefl p)] at hfo
      have hF : ns_ (fun l k => wl_ L l k (u l) (u k)) p = true → ∀ r, r < p → F_ p L r = w r := fun z => by
        rw [hnp] at z
        rw [List.filter_cons_of_pos z] at hfo
        exact F_pre hfo
      have hsz : ns_ (fun l k => wl_ L l k (u l) (u k)) p = true → ∀ r, r < p → cy_is w r (sz_ p L r) ∧ sz_ p L r ≤ p := fun z r hr => ⟨cy_is_cg (F_lt hw) (hF z) hr (sz_is hw hr).1, (sz_is hw hr).2⟩
      have hdone : ∀ σ₁ : pI, ns_ (fun l k => wl_ L l k (u l) (u k)) p = true → tp_ w (sz_ p L) p σ₁ → (∀ r, r < p → σ₁ 56 r = σ 56 r) → (∀ r, r < p → σ₁ 56 r = nI (F_ p L r)) ∧ tp_ (F_ p L) (sz_ p L) p σ₁ := fun σ₁ z m2 m3 => ⟨fun r hr => by rw [m3 r hr, hF z r hr]; exact (hW r hr (hpre r hr)).1, fun r hr => by rw [hF z r hr]; exact m2 r hr⟩
      cases p with
      | zero =>
        cases hns : ns_ (fun l k => wl_ L l k (u l) (u k)) 0 with
        | true =>
          refine pm_iload_n d_M_goThrough_38 rfl ?_
          refine pm_if_ne_f 190 d_M_goThrough_39 rfl (by decide) ?_
          refine pm_iload_n d_M_goThrough_42 rfl ?_
          refine pm_aload_n d_M_goThrough_43 rfl ?_
          refine pm_geti' (nI 0) d_M_goThrough_44 hf_M_47 (hg.s rfl) (hg.i (by decide)) rfl hM.1 ?_
          refine pm_icmp_ne_f 62 d_M_goThrough_47 rfl rfl ?_
          refine pm_aload_n d_M_goThrough_50 rfl ?_
          refine pm_iload_n d_M_goThrough_51 rfl ?_
          refine pm_callWp (i := 48) (ci := 5) (rest := []) [pm_I (nI 0)] hB d_M_goThrough_52 hc_M_101 (pm_C_up (show 0 + 3 ≤ d + 5 by omega) (k_M_look_0 (s := sz_ 0 L) hg hB hw hM.1 hR (fun x hx => (hW x hx (hpre x hx)).1) (fun x hx => (hW x hx (hpre x hx)).2) hT hla hu hsz)) (hg.s rfl) (hg.i (by decide)) rfl rfl rfl rfl (Nat.le_of_ble_eq_true rfl) (Nat.le_of_ble_eq_true rfl) (by omega) (by omega) (fun v52 σ₁ hv52 hq52 => ?_)
          obtain ⟨rfl, m1, m2, m3⟩ := hq52
          rw [hns]
          show pm_Y b _ km_M_goThrough 55 true [some (pm_R 48), some (pm_I (nI 0)), some (pm_I (nI 0)), some (pm_I (nI 0)), l4] [pm_I (nI 1)] g σ₁ τ 0 0 0 0 _
          refine pm_istore_n d_M_goThrough_55 (by decide) ?_
          refine pm_iinc' ((nI 0) + Int32.ofInt (-1)) d_M_goThrough_56 (by decide) rfl rfl ?_
          refine pm_goto 173 d_M_goThrough_59 rfl ?_
          refine pm_iload_n d_M_goThrough_173 rfl ?_
          refine pm_if_ne_t 181 d_M_goThrough_174 rfl (by decide) ?_
          refine pm_iconst' (nI 1) d_M_goThrough_181 (by decide) ?_
          refine pm_goto 186 d_M_goThrough_182 rfl ?_
          refine pm_istore_n d_M_goThrough_186 (by decide) ?_
          refine pm_goto 38 d_M_goThrough_187 rfl ?_
          refine pm_iload_n d_M_goThrough_38 rfl ?_
          refine pm_if_ne_t 190 d_M_goThrough_39 rfl (by decide) ?_
          exact pm_return d_M_goThrough_190 rfl (fun _ => rfl) (Nat.le_refl _) (Nat.le_refl _) ⟨⟨rfl, (hdone _ hns (m2 hns) (fun r hr => m3 56 r (by omega) (by omega) (by omega))).1, (hdone _ hns (m2 hns) (fun r hr => m3 56 r (by omega) (by omega) (by omega))).2, fun c x e1 e2 e3 e4 e5 => (m3 c x e1 e2 e4).trans (fr c x e1 e2 e3 e4 e5)⟩, rfl⟩
        | false =>
          rw [List.filter_cons_of_neg (by rw [← hnp, hns]; decide)] at hfo
          obtain ⟨m', t', hmt⟩ := rh_pt_ex hw
          rw [hmt] at hfo
          cases hfo
      | succ k =>
        cases hns : ns_ (fun l k => wl_ L l k (u l) (u k)) (k + 1) with
        | true =>
          refine pm_iload_n d_M_goThrough_38 rfl ?_
          refine pm_if_ne_f 190 d_M_goThrough_39 rfl (by decide) ?_
          refine pm_iload_n d_M_goThrough_42 rfl ?_
          refine pm_aload_n d_M_goThrough_43 rfl ?_
          refine pm_geti' (nI (k + 1)) d_M_goThrough_44 hf_M_47 (hg.s rfl) (hg.i (by decide)) rfl hM.1 ?_
          refine pm_icmp_ne_f 62 d_M_goThrough_47 rfl rfl ?_
          refine pm_aload_n d_M_goThrough_50 rfl ?_
          refine pm_iload_n d_M_goThrough_51 rfl ?_
          refine pm_callWp (i := 48) (ci := 5) (rest := []) [pm_I (nI 0)] hB d_M_goThrough_52 hc_M_101 (pm_C_up (show 0 + 3 ≤ d + 5 by omega) (k_M_look_0 (s := sz_ (k + 1) L) hg hB hw hM.1 hR (fun x hx => (hW x hx (hpre x hx)).1) (fun x hx => (hW x hx (hpre x hx)).2) hT hla hu hsz)) (hg.s rfl) (hg.i (by decide)) rfl rfl rfl rfl (Nat.le_of_ble_eq_true rfl) (Nat.le_of_ble_eq_true rfl) (by omega) (by omega) (fun v52 σ₁ hv52 hq52 => ?_)
          obtain ⟨rfl, m1, m2, m3⟩ := hq52
          rw [hns]
          show pm_Y b _ km_M_goThrough 55 true [some (pm_R 48), some (pm_I (nI 0)), some (pm_I (nI (k + 1))), some (pm_I (nI 0)), l4] [pm_I (nI 1)] g σ₁ τ 0 0 0 0 _
          refine pm_istore_n d_M_goThrough_55 (by decide) ?_
          refine pm_iinc' (nI ((k + 1) - 1)) d_M_goThrough_56 (by decide) rfl (pm_dec (by omega)) ?_
          refine pm_goto 173 d_M_goThrough_59 rfl ?_
          refine pm_iload_n d_M_goThrough_173 rfl ?_
          refine pm_if_ne_t 181 d_M_goThrough_174 rfl (by decide) ?_
          refine pm_iconst' (nI 1) d_M_goThrough_181 (by decide) ?_
          refine pm_goto 186 d_M_goThrough_182 rfl ?_
          refine pm_istore_n d_M_goThrough_186 (by decide) ?_
          refine pm_goto 38 d_M_goThrough_187 rfl ?_
          refine pm_iload_n d_M_goThrough_38 rfl ?_
          refine pm_if_ne_t 190 d_M_goThrough_39 rfl (by decide) ?_
          exact pm_return d_M_goThrough_190 rfl (fun _ => rfl) (Nat.le_refl _) (Nat.le_refl _) ⟨⟨rfl, (hdone _ hns (m2 hns) (fun r hr => m3 56 r (by omega) (by omega) (by omega))).1, (hdone _ hns (m2 hns) (fun r hr => m3 56 r (by omega) (by omega) (by omega))).2, fun c x e1 e2 e3 e4 e5 => (m3 c x e1 e2 e4).trans (fr c x e1 e2 e3 e4 e5)⟩, rfl⟩
        | false =>
          refine pm_iload_n d_M_goThrough_38 rfl ?_
          refine pm_if_ne_f 190 d_M_goThrough_39 rfl (by decide) ?_
          refine pm_iload_n d_M_goThrough_42 rfl ?_
          refine pm_aload_n d_M_goThrough_43 rfl ?_
          refine pm_geti' (nI (k + 1)) d_M_goThrough_44 hf_M_47 (hg.s rfl) (hg.i (by decide)) rfl hM.1 ?_
          refine pm_icmp_ne_f 62 d_M_goThrough_47 rfl rfl ?_
          refine pm_aload_n d_M_goThrough_50 rfl ?_
          refine pm_iload_n d_M_goThrough_51 rfl ?_
          refine pm_callWp (i := 48) (ci := 5) (rest := []) [pm_I (nI 0)] hB d_M_goThrough_52 hc_M_101 (pm_C_up (show 0 + 3 ≤ d + 5 by omega) (k_M_look_0 (s := sz_ (k + 1) L) hg hB hw hM.1 hR (fun x hx => (hW x hx (hpre x hx)).1) (fun x hx => (hW x hx (hpre x hx)).2) hT hla hu hsz)) (hg.s rfl) (hg.i (by decide)) rfl rfl rfl rfl (Nat.le_of_ble_eq_true rfl) (Nat.le_of_ble_eq_true rfl) (by omega) (by omega) (fun v52 σ₁ hv52 hq52 => ?_)
          obtain ⟨rfl, m1, m2, m3⟩ := hq52
          rw [hns]
          show pm_Y b _ km_M_goThrough 55 true [some (pm_R 48), some (pm_I (nI 0)), some (pm_I (nI (k + 1))), some (pm_I (nI 0)), l4] [pm_I (nI 0)] g σ₁ τ 0 0 0 0 _
          refine pm_istore_n d_M_goThrough_55 (by decide) ?_
          refine pm_iinc' (nI ((k + 1) - 1)) d_M_goThrough_56 (by decide) rfl (pm_dec (by omega)) ?_
          refine pm_goto 173 d_M_goThrough_59 rfl ?_
          refine pm_iload_n d_M_goThrough_173 rfl ?_
          refine pm_if_ne_f 181 d_M_goThrough_174 rfl (by decide) ?_
          refine pm_iload_n d_M_goThrough_177 rfl ?_
          refine pm_if_ge_t 185 d_M_goThrough_178 rfl (Int32.not_lt.mp (nI_nn (by omega))) ?_
          refine pm_iconst' (nI 0) d_M_goThrough_185 (by decide) ?_
          refine pm_istore_n d_M_goThrough_186 (by decide) ?_
          refine pm_goto 38 d_M_goThrough_187 rfl ?_
          -- at 38: lo=[some (pm_R 48), some (pm_I (nI 0)), some (pm_I (nI ((k + 1) - 1))), some (pm_I (nI 0)), l4] st=[]
          exact ih k ch w la σ₁ (by have := gw_m_leaf (n := k + 1) (ch := ch) (p := k) rfl; omega) (by omega) ⟨fun c x e1 e2 e3 e4 e5 => (m3 c x e1 e2 e4).trans (fr c x e1 e2 e3 e4 e5), m1, fun x hx => (m3 58 x (by omega) (by omega) (by omega)).trans (hC x hx), fun r hr hs => ⟨(m3 56 r (by omega) (by omega) (by omega)).trans (hW r hr hs).1, (hW r hr hs).2⟩, fun r hr => hpre r (by omega), fun r hr => by
            by_cases e : r = k + 1
            · rw [e]; exact hnone
            · exact hpost r (by omega), hcb, Or.inr ⟨hpre k (by omega), by omega, hG.1, hG.2⟩, by
            rw [gr_dec (ch := ch) (by omega) (fun _ _ => rfl)]
            rw [List.filter_cons_of_neg (by rw [← hnp, hns]; decide)] at hfo
            exact hfo⟩ l4
  
    · skip
      have hF := g0_forget hst
      have h7 := wf_len hw p
      have hfr : gw_from (ch p) ≤ (L p).length + 1 := by
        cases e : ch p with
        | none => exact Nat.zero_le _
        | some c => have := hcb p c e; show c + 1 ≤ _; omega
      obtain ⟨c, hc0⟩ : ∃ c, nx_ (fun c => gk_ false n L w (fg_ false (ch p) w la p) p (gw_cho L p c)) ((L p).length + 1 - gw_from (ch p)) (gw_from (ch p)) = c := ⟨_, rfl⟩
      have hnx := nx_is (ok := (fun c => gk_ false n L w (fg_ false (ch p) w la p) p (gw_cho L p c))) ((L p).length + 1 - gw_from (ch p)) (gw_from (ch p))
      rw [hc0] at hnx
      refine l_M_gt_step (fl := false) hg hB hw hM hR hT hC hlt hW hcb hpre (g0_b (by omega) hF.2) hc0 (fun hcl σ' hg' => ?_) (fun hcl σ' hg' => ?_)
      · skip
        have hok := gk_p.mp (hnx.2.2.2 (by omega))
        obtain ⟨q1, q2, q3, q4, q5⟩ := hg'
        have hfold := gr_take hlt (hpost _ (by omega)) hnx.1 hcl (fun i a1 a2 => gp_sound hlt (cho_lt hw hlt i) hF.2 (fun z => by
            have z1 := hnx.2.2.1 i a1 (by omega)
            have z2 := gk_p.mpr z
            have z1 : gk_ false n L w (fg_ false (ch p) w la p) p (gw_cho L p i) = false := z1
            rw [z1] at z2
            cases z2) _)
        exact ih (p + 1) (gw_up ch p (some c)) (gw_up w p (gw_cho L p c)) (gw_up (fg_ false (ch p) w la p) (gw_cho L p c) (some p)) σ' (by have := gw_m_take (n := n) (ch := ch) hlt hnx.1 (show c ≤ 8 by omega) (fun _ => hpost _ (by omega)); omega) (by omega)
          ⟨fun c x e1 e2 e3 e4 e5 => (q5 c x (by omega) (by omega) (by omega)).trans (fr c x e1 e2 e3 e4 e5), q1, q2, fun r hr hs => by
            by_cases e : r = p
            · rw [e, gw_up_self]; exact ⟨q3, cho_lt hw hlt c⟩
            · rw [gw_up_ne _ _ e] at hs ⊢; rw [q4 r e]; exact hW r hr hs, fun r hr => by
            by_cases e : r = p
            · rw [e, gw_up_self]; rfl
            · rw [gw_up_ne _ _ e]; exact hpre r (by omega), fun r hr => by rw [gw_up_ne _ _ (by omega)]; exact hpost r (by omega), fun r c' hc' => by
            by_cases e : r = p
            · rw [e, gw_up_self] at hc'; rw [e, ← Option.some.inj hc']; exact hcl
            · rw [gw_up_ne _ _ e] at hc'; exact hcb r c' hc', Or.inl ⟨by rw [gw_up_ne _ _ (by omega)]; exact hpost _ (by omega), gp_next (cho_lt hw hlt c) hF.1 hok, gp_LA_put hF.2 (fun r hr => (hok.2.1 r hr).1)⟩, by rw [← hfold]; exact hfo⟩ l4
      · skip
        have hno := (gr_none hlt hfr (fun i a1 a2 => gp_sound hlt (cho_lt hw hlt i) hF.2 (fun z => by
            have z1 := hnx.2.2.1 i a1 (by omega)
            have z2 := gk_p.mpr z
            have z1 : gk_ false n L w (fg_ false (ch p) w la p) p (gw_cho L p i) = false := z1
            rw [z1] at z2
            cases z2) _))
        obtain ⟨q1, q2, q3⟩ := hg'
        cases p with
        | zero =>
          rw [hno] at hfo
          obtain ⟨m', t', hmt⟩ := rh_pt_ex hw
          rw [hmt] at hfo
          cases hfo
        | succ p =>
          refine pm_iinc' (nI ((p + 1) - 1)) d_M_goThrough_170 (by decide) rfl (pm_dec (by omega)) ?_
          refine pm_iload_n d_M_goThrough_173 rfl ?_
          refine pm_if_ne_f 181 d_M_goThrough_174 rfl (by decide) ?_
          refine pm_iload_n d_M_goThrough_177 rfl ?_
          refine pm_if_ge_t 185 d_M_goThrough_178 rfl (Int32.not_lt.mp (nI_nn (by omega))) ?_
          refine pm_iconst' (nI 0) d_M_goThrough_185 (by decide) ?_
          refine pm_istore_n d_M_goThrough_186 (by decide) ?_
          refine pm_goto 38 d_M_goThrough_187 rfl ?_
          -- at 38: lo=[some (pm_R 48), some (pm_I (nI 0)), some (pm_I (nI ((p + 1) - 1))), some (pm_I (nI 0)), l4] st=[]
          exact ih p (gw_up ch (p + 1) none) w (fg_ false (ch (p + 1)) w la (p + 1)) σ' (by have := gw_m_none (n := n) (ch := ch) (p := p) (v := none) hlt; omega) (by omega) ⟨fun c x e1 e2 e3 e4 e5 => (q3 c x (by omega) (by omega)).trans (fr c x e1 e2 e3 e4 e5), q1, q2, fun r hr hs => by
            by_cases e : r = p + 1
            · rw [e, gw_up_self] at hs; cases hs
            · rw [gw_up_ne _ _ e] at hs; rw [q3 56 r (by omega) (by omega)]; exact hW r hr hs, fun r hr => by rw [gw_up_ne _ _ (by omega)]; exact hpre r (by omega), fun r hr => by
            by_cases e : r = p + 1
            · rw [e, gw_up_self]
            · rw [gw_up_ne _ _ e]; exact hpost r (by omega), fun r c' hc' => by
            by_cases e : r = p + 1
            · rw [e, gw_up_self] at hc'; cases hc'
            · rw [gw_up_ne _ _ e] at hc'; exact hcb r c' hc', Or.inr ⟨by rw [gw_up_ne _ _ (by omega)]; exact hpre p (by omega), by omega, hF.1, hF.2⟩, by rw [gr_dec (ch := ch) (by omega) (fun i hi => gw_up_ne _ _ (by omega)), ← hno]; exact hfo⟩ l4
  
end M7
