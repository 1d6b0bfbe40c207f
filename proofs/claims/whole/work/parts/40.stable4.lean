/-! the best and the worst one -/
/-- the first of l with a count -/
def ff_ (f : Nat → Nat) (l : List Nat) : Option Nat := l.find? fun q => decide (0 < f q)
noncomputable def best_ (n : Nat) (L : Nat → List Nat) (p : Nat) : Option Nat := ff_ ((SA_ n L).2.1 p) (L p ++ [p])
noncomputable def worst_ (n : Nat) (L : Nat → List Nat) (p : Nat) : Option Nat := ff_ ((SA_ n L).2.1 p) (L p ++ [p]).reverse
theorem SA_pos {n : Nat} {L : Nat → List Nat} {p : Nat} (hp : p < n) (q : Nat) : 0 < (SA_ n L).2.1 p q ↔ ∃ m, m ∈ (rh_ext L n []).filter (rh_sm n L) ∧ m.getD p 0 = q := by
  unfold SA_
  rw [rh_fold_two hp]
  constructor
  · rintro (h | h)
    · exact absurd h (Nat.lt_irrefl 0)
    · exact h
  · exact Or.inr
theorem SA_one {n : Nat} {L : Nat → List Nat} : (SA_ n L).1 = ((rh_ext L n []).filter (rh_sm n L)).length := by
  unfold SA_
  rw [rh_fold_one]
  exact Nat.zero_add _
theorem SA_none {n : Nat} {L : Nat → List Nat} {p : Nat} (hp : p < n) (h : (SA_ n L).1 = 0) (q : Nat) : ¬ 0 < (SA_ n L).2.1 p q := by
  rw [SA_one, List.length_eq_zero_iff] at h
  rw [SA_pos hp, h]
  rintro ⟨m, hm, -⟩
  cases hm
theorem SA_some {n : Nat} {L : Nat → List Nat} (hw : rh_wf n L) {p : Nat} (hp : p < n) (h : (SA_ n L).1 ≠ 0) : ∃ q, q ∈ L p ++ [p] ∧ 0 < (SA_ n L).2.1 p q := by
  rw [SA_one] at h
  cases hl : (rh_ext L n []).filter (rh_sm n L) with
  | nil => rw [hl] at h; exact absurd rfl h
  | cons m t =>
    have hm : m ∈ (rh_ext L n []).filter (rh_sm n L) := by rw [hl]; exact List.mem_cons_self
    have hs := rh_sm_iff.mp (List.mem_filter.mp hm).2
    refine ⟨m.getD p 0, ?_, (SA_pos hp _).mpr ⟨m, hm, rfl⟩⟩
    rcases (rh_rk_le hw hp).mp (hs.1 p hp).1 with e | e
    · exact List.mem_append_right _ (List.mem_singleton.mpr e.symm)
    · exact List.mem_append_left _ e.1
theorem ff_none {f : Nat → Nat} {l : List Nat} (h : ∀ q, q ∈ l → ¬ 0 < f q) : ff_ f l = none := by
  unfold ff_
  rw [List.find?_eq_none]
  intro q hq
  rw [decide_eq_true_eq]
  exact h q hq
theorem ff_app {f : Nat → Nat} {l l' : List Nat} {q : Nat} (h : ∀ x, x ∈ l → ¬ 0 < f x) (hq : 0 < f q) : ff_ f (l ++ q :: l') = some q := by
  unfold ff_
  rw [List.find?_append, List.find?_eq_none.mpr (fun x hx => by rw [decide_eq_true_eq]; exact h x hx), List.find?_cons_of_pos (by rw [decide_eq_true_eq]; exact hq)]
  rfl
theorem ff_first {f : Nat → Nat} {l r : List Nat} {i : Nat} (hi : i < l.length) (h : ∀ j, j < i → ¬ 0 < f (l.getD j 0)) (hq : 0 < f (l.getD i 0)) : ff_ f (l ++ r) = some (l.getD i 0) := by
  have e : l = l.take i ++ l.getD i 0 :: l.drop (i + 1) := by
    have h1 : l.getD i 0 = l[i] := by rw [List.getD_eq_getElem?_getD, List.getElem?_eq_getElem hi]; rfl
    rw [h1, ← List.drop_eq_getElem_cons hi, List.take_append_drop]
  have e2 : l ++ r = l.take i ++ l.getD i 0 :: (l.drop (i + 1) ++ r) := by
    conv => lhs; rw [e]
    rw [List.append_assoc, List.cons_append]
  rw [e2]
  refine ff_app (fun x hx => ?_) hq
  obtain ⟨j, hj, ej⟩ := (mem_get _ _).mp hx
  rw [List.length_take] at hj
  have : (l.take i).getD j 0 = l.getD j 0 := by
    rw [List.getD_eq_getElem?_getD, List.getD_eq_getElem?_getD, List.getElem?_take, if_pos (by omega)]
  rw [← ej, this]
  exact h j (by omega)
theorem ff_last {f : Nat → Nat} {l : List Nat} {i : Nat} (hi : i < l.length) (h : ∀ j, i < j → j < l.length → ¬ 0 < f (l.getD j 0)) (hq : 0 < f (l.getD i 0)) : ff_ f l.reverse = some (l.getD i 0) := by
  have hr : ∀ j, j < l.length → l.reverse.getD j 0 = l.getD (l.length - 1 - j) 0 := fun j hj => by
    rw [List.getD_eq_getElem?_getD, List.getD_eq_getElem?_getD, List.getElem?_reverse hj]
  have h1 := ff_first (f := f) (l := l.reverse) (r := []) (i := l.length - 1 - i) (by rw [List.length_reverse]; omega) (fun j hj => by
    rw [hr j (by omega)]
    exact h _ (by omega) (by omega)) (by rw [hr _ (by omega), show l.length - 1 - (l.length - 1 - i) = i by omega]; exact hq)
  rw [List.append_nil, hr _ (by omega), show l.length - 1 - (l.length - 1 - i) = i by omega] at h1
  exact h1
section S4
variable {b : pB} {g : pG} {σ : pI} {τ : pJ} {d p q n ch : Nat} {L : Nat → List Nat}
theorem SA_cnt (hw : rh_wf n L) (hp : p < n) : (SA_ n L).2.1 p q ≤ 43046721 := by
  have h : ∀ (l : List (List Nat)) (A : rh_A), (rh_fold n A l).2.1 p q ≤ A.2.1 p q + l.length := by
    intro l
    induction l with
    | nil => intro A; exact Nat.le_refl _
    | cons m t ih =>
      intro A
      have h1 := ih (rh_acc n A fun p => m.getD p 0)
      have h2 : (rh_acc n A fun p => m.getD p 0).2.1 p q ≤ A.2.1 p q + 1 := by
        show (if p < n ∧ m.getD p 0 = q then A.2.1 p q + 1 else A.2.1 p q) ≤ _
        split <;> omega
      show (rh_fold n (rh_acc n A fun p => m.getD p 0) t).2.1 p q ≤ _
      rw [List.length_cons]
      omega
  have h1 := h ((rh_ext L n []).filter (rh_sm n L)) A0_
  have h2 := SA_le hw
  rw [SA_one] at h2
  have h3 : A0_.2.1 p q = 0 := rfl
  unfold SA_
  omega
theorem cnt_le {x : Nat} (hx : x ≤ 43046721) : nI x ≤ 0 ↔ ¬ 0 < x := by
  rw [show (0 : Int32) = nI 0 from rfl, nI_leI (by omega) (by omega)]
  omega
theorem k_S_bestMate (hg : pm_gok 48 g) (hB : pm_base b) (hw : rh_wf n L) (hE : env_ n L σ) (hch : σ 1 5 = nI ch) (hc : ch < 2 ^ 31) (hs : sc_ n ch L σ) (hp : p < n) : pm_C b (d + 21) km_S_bestMate [pm_R 32, pm_I (nI p)] g σ τ 0 0 (pm_Wp (fun v σ' => v = some (oI (best_ n L p)) ∧ sp_ n ch L σ σ') τ) := by
  have h8 := hw.1
  have hp8 : p < 8 := by omega
  have hl7 := wf_l hw hp
  have hlb := wf_b hw hp
  have hle := SA_le hw
  show pm_Y b (d + 20 + 1) km_S_bestMate 0 false [some (pm_R 32), some (pm_I (nI p)), none, none] [] g σ τ 0 0 0 0 _
  refine pm_aload_n d_S_bestMate_0 rfl ?_
  refine pm_callWp (i := 32) (ci := 3) (rest := []) [] hB d_S_bestMate_1 hc_S_31 (k_S_reckon hg hB hw hE hch hc hs) (hg.s rfl) (hg.i (by decide)) rfl rfl rfl rfl (Nat.le_of_ble_eq_true rfl) (Nat.le_of_ble_eq_true rfl) (by omega) (by omega) (fun v1 σ₁ hv1 hq1 => ?_)
  obtain ⟨rfl, hp1⟩ := hq1
  show pm_Y b _ km_S_bestMate 4 true [some (pm_R 32), some (pm_I (nI p)), none, none] [] g σ₁ τ 0 0 0 0 _
  refine pm_iconst' (nI 0) d_S_bestMate_4 (by decide) ?_
  refine pm_istore_n d_S_bestMate_5 (by decide) ?_
  -- at 6: lo=[some (pm_R 32), some (pm_I (nI p)), some (pm_I (nI 0)), none] st=[]
  have hE1 : env_ n L σ₁ := env_of hE hp1.2.2.lo
  refine pm_for (L p).length (fun i (_ : Unit) => ∀ l3 : Option pV, pm_Y b (d + 20 + 1) km_S_bestMate 6 true [some (pm_R 32), some (pm_I (nI p)), some (pm_I (nI i)), l3] [] g σ₁ τ 0 0 0 0 (pm_Wp (fun v σ' => v = some (oI (best_ n L p)) ∧ sp_ n ch L σ σ') τ)) (fun i _ => ∀ j, j < i → ¬ 0 < (SA_ n L).2.1 p ((L p).getD j 0)) (fun i _ hi hI ih l3 => ?_) (fun _ hI l3 => ?_) (L p).length 0 () (by omega) (fun j hj => absurd hj (Nat.not_lt_zero j)) none
  · skip
    refine pm_iload_n d_S_bestMate_6 rfl ?_
    refine pm_aload_n d_S_bestMate_7 rfl ?_
    refine pm_getr d_S_bestMate_8 hf_S_27 (hg.s rfl) (hg.i (by decide)) rfl (hg.r (by decide) rfl) ?_
    refine pm_iload_n d_S_bestMate_11 rfl ?_
    refine pm_callR (i := 1) (ci := 1) (rest := [pm_I (nI i)]) [pm_I (nI p)] hB d_S_bestMate_12 hc_S_37 (k_W_length hg hE1.2.1 hp8) (hg.s rfl) (hg.i (by decide)) rfl rfl rfl rfl (Nat.le_of_ble_eq_true rfl) (Nat.le_of_ble_eq_true rfl) (by omega) (by omega) ?_
    refine pm_icmp_ge_f 47 d_S_bestMate_15 rfl (by rw [nI_leI (by omega) (by omega)]; omega) ?_
    refine pm_aload_n d_S_bestMate_18 rfl ?_
    refine pm_getr d_S_bestMate_19 hf_S_27 (hg.s rfl) (hg.i (by decide)) rfl (hg.r (by decide) rfl) ?_
    refine pm_iload_n d_S_bestMate_22 rfl ?_
    refine pm_iload_n d_S_bestMate_23 rfl ?_
    refine pm_callR (i := 1) (ci := 1) (rest := []) [pm_I (nI p), pm_I (nI i)] hB d_S_bestMate_24 hc_S_43 (k_W_otherAt hg hE1.2.1 hp8 hi (by omega)) (hg.s rfl) (hg.i (by decide)) rfl rfl rfl rfl (Nat.le_of_ble_eq_true rfl) (Nat.le_of_ble_eq_true rfl) (by omega) (by omega) ?_
    refine pm_istore_n d_S_bestMate_27 (by decide) ?_
    refine pm_aload_n d_S_bestMate_28 rfl ?_
    refine pm_getr d_S_bestMate_29 hf_S_20 (hg.s rfl) (hg.i (by decide)) rfl (hg.r (by decide) rfl) ?_
    refine pm_iload_n d_S_bestMate_32 rfl ?_
    refine pm_aaload p d_S_bestMate_33 (hg.s rfl) (hg.i (by decide)) rfl hp8 (by decide) (hg.r (by decide) (sr_35 hp8)) ?_
    refine pm_iload_n d_S_bestMate_34 rfl ?_
    refine pm_iaload' ((L p).getD i 0) (nI ((SA_ n L).2.1 p ((L p).getD i 0))) d_S_bestMate_35 (hg.s (sh_36 _ hp8)) (hg.i (by have := (hp8 : p < 8); omega)) rfl (hlb i) (by decide) (hp1.1.2.1 p _ hp8 (hlb i)) ?_
    refine pm_if_le 41 d_S_bestMate_36 rfl (fun c36 => ?_) (fun c36 => ?_)
    · refine pm_iinc' (nI (i + 1)) d_S_bestMate_41 (by decide) rfl (pm_inc _) ?_
      refine pm_goto 6 d_S_bestMate_44 rfl ?_
      -- at 6: lo=[some (pm_R 32), some (pm_I (nI p)), some (pm_I (nI (i + 1))), some (pm_I (nI ((L p).getD i 0)))] st=[]
      exact ih () (fun j hj => by
        by_cases e : j = i
        · rw [e]; exact (cnt_le (SA_cnt hw hp)).mp c36
        · exact hI j (by omega)) _
    · refine pm_iload_n d_S_bestMate_39 rfl ?_
      exact pm_ireturn d_S_bestMate_40 rfl (fun _ => rfl) (Nat.le_refl _) (Nat.le_refl _) ⟨⟨by unfold best_; rw [ff_first hi hI (Classical.byContradiction fun z => c36 ((cnt_le (SA_cnt hw hp)).mpr z))]; rfl, hp1⟩, rfl⟩
  · skip
    refine pm_iload_n d_S_bestMate_6 rfl ?_
    refine pm_aload_n d_S_bestMate_7 rfl ?_
    refine pm_getr d_S_bestMate_8 hf_S_27 (hg.s rfl) (hg.i (by decide)) rfl (hg.r (by decide) rfl) ?_
    refine pm_iload_n d_S_bestMate_11 rfl ?_
    refine pm_callR (i := 1) (ci := 1) (rest := [pm_I (nI (L p).length)]) [pm_I (nI p)] hB d_S_bestMate_12 hc_S_37 (k_W_length hg hE1.2.1 hp8) (hg.s rfl) (hg.i (by decide)) rfl rfl rfl rfl (Nat.le_of_ble_eq_true rfl) (Nat.le_of_ble_eq_true rfl) (by omega) (by omega) ?_
    refine pm_icmp_ge_t 47 d_S_bestMate_15 rfl (by rw [nI_leI (by omega) (by omega)]; omega) ?_
    have hno : ∀ q, q ∈ L p → ¬ 0 < (SA_ n L).2.1 p q := fun q hq => by
      obtain ⟨j, hj, e⟩ := (mem_get _ _).mp hq
      rw [← e]; exact hI j hj
    by_cases z : (SA_ n L).1 = 0
    · have z9 : nI (SA_ n L).1 = 0 := by rw [z]; rfl
      refine pm_aload_n d_S_bestMate_47 rfl ?_
      refine pm_geti' (nI ((SA_ n L).1)) d_S_bestMate_48 hf_S_34 (hg.s rfl) (hg.i (by decide)) rfl hp1.1.1 ?_
      refine pm_if_ne_f 58 d_S_bestMate_51 rfl z9 ?_
      refine pm_iconst' (-1) d_S_bestMate_54 (by decide) ?_
      refine pm_goto 59 d_S_bestMate_55 rfl ?_
      exact pm_ireturn d_S_bestMate_59 rfl (fun _ => rfl) (Nat.le_refl _) (Nat.le_refl _) ⟨⟨by unfold best_; rw [ff_none (fun q _ => SA_none hp z q)]; rfl, hp1⟩, rfl⟩
    · have z9 : ¬ nI (SA_ n L).1 = 0 := nI_ne0 (by omega) (by omega)
      have hpp : 0 < (SA_ n L).2.1 p p := by
        obtain ⟨q, h1, h2⟩ := SA_some hw hp z
        rcases List.mem_append.mp h1 with h1 | h1
        · exact absurd h2 (hno q h1)
        · rw [List.mem_singleton.mp h1] at h2; exact h2
      refine pm_aload_n d_S_bestMate_47 rfl ?_
      refine pm_geti' (nI ((SA_ n L).1)) d_S_bestMate_48 hf_S_34 (hg.s rfl) (hg.i (by decide)) rfl hp1.1.1 ?_
      refine pm_if_ne_t 58 d_S_bestMate_51 rfl z9 ?_
      refine pm_iload_n d_S_bestMate_58 rfl ?_
      exact pm_ireturn d_S_bestMate_59 rfl (fun _ => rfl) (Nat.le_refl _) (Nat.le_refl _) ⟨⟨by unfold best_; rw [ff_app (l' := []) hno hpp]; rfl, hp1⟩, rfl⟩
theorem wl_get {l : List Nat} {p j : Nat} (h : j < l.length) : (l ++ [p]).getD j 0 = l.getD j 0 := by rw [rh_getD_app, if_neg (by omega)]
theorem wl_len {l : List Nat} {p : Nat} : (l ++ [p]).length = l.length + 1 := by rw [List.length_append, List.length_singleton]
theorem l_S_worst_28 (hg : pm_gok 48 g) (hB : pm_base b) (hw : rh_wf n L) (hE : env_ n L σ) (hp : p < n) {σ₁ : pI} (hp1 : sp_ n ch L σ σ₁) (hpp : ¬ 0 < (SA_ n L).2.1 p p) : ∀ (k : Nat), k ≤ (L p).length → (∀ j, k ≤ j → j < (L p).length → ¬ 0 < (SA_ n L).2.1 p ((L p).getD j 0)) → ∀ l3 : Option pV, pm_Y b (d + 20 + 1) km_S_worstMate 28 true [some (pm_R 32), some (pm_I (nI p)), some (pm_I (nI k + (-1))), l3] [] g σ₁ τ 0 0 0 0 (pm_Wp (fun v σ' => v = some (oI (worst_ n L p)) ∧ sp_ n ch L σ σ') τ)
  | 0, hk, hI, l3 => by
    have hno : ∀ q, q ∈ (L p ++ [p]).reverse → ¬ 0 < (SA_ n L).2.1 p q := fun q hq => by
      rw [List.mem_reverse] at hq
      rcases List.mem_append.mp hq with h1 | h1
      · obtain ⟨j, hj, e⟩ := (mem_get _ _).mp h1
        rw [← e]; exact hI j (Nat.zero_le _) hj
      · rw [List.mem_singleton.mp h1]; exact hpp
    refine pm_iload_n d_S_worstMate_28 rfl ?_
    refine pm_if_lt_t 61 d_S_worstMate_29 rfl (by decide) ?_
    refine pm_iconst' (-1) d_S_worstMate_61 (by decide) ?_
    exact pm_ireturn d_S_worstMate_62 rfl (fun _ => rfl) (Nat.le_refl _) (Nat.le_refl _) ⟨⟨by unfold worst_; rw [ff_none hno]; rfl, hp1⟩, rfl⟩
  | k + 1, hk, hI, l3 => by
    have hk : k < (L p).length := by omega
    have h8 := hw.1
    have hp8 : p < 8 := by omega
    have hl7 := wf_l hw hp
    have hlb := wf_b hw hp
    have hle := SA_le hw
    have hE1 : env_ n L σ₁ := env_of hE hp1.2.2.lo
    rw [pk_m1]
    refine pm_iload_n d_S_worstMate_28 rfl ?_
    refine pm_if_lt_f 61 d_S_worstMate_29 rfl (nI_pos (by omega)) ?_
    refine pm_aload_n d_S_worstMate_32 rfl ?_
    refine pm_getr d_S_worstMate_33 hf_S_27 (hg.s rfl) (hg.i (by decide)) rfl (hg.r (by decide) rfl) ?_
    refine pm_iload_n d_S_worstMate_36 rfl ?_
    refine pm_iload_n d_S_worstMate_37 rfl ?_
    refine pm_callR (i := 1) (ci := 1) (rest := []) [pm_I (nI p), pm_I (nI k)] hB d_S_worstMate_38 hc_S_43 (k_W_otherAt hg hE1.2.1 hp8 hk (by omega)) (hg.s rfl) (hg.i (by decide)) rfl rfl rfl rfl (Nat.le_of_ble_eq_true rfl) (Nat.le_of_ble_eq_true rfl) (by omega) (by omega) ?_
    refine pm_istore_n d_S_worstMate_41 (by decide) ?_
    refine pm_aload_n d_S_worstMate_42 rfl ?_
    refine pm_getr d_S_worstMate_43 hf_S_20 (hg.s rfl) (hg.i (by decide)) rfl (hg.r (by decide) rfl) ?_
    refine pm_iload_n d_S_worstMate_46 rfl ?_
    refine pm_aaload p d_S_worstMate_47 (hg.s rfl) (hg.i (by decide)) rfl hp8 (by decide) (hg.r (by decide) (sr_35 hp8)) ?_
    refine pm_iload_n d_S_worstMate_48 rfl ?_
    refine pm_iaload' ((L p).getD k 0) (nI ((SA_ n L).2.1 p ((L p).getD k 0))) d_S_worstMate_49 (hg.s (sh_36 _ hp8)) (hg.i (by have := (hp8 : p < 8); omega)) rfl (hlb k) (by decide) (hp1.1.2.1 p _ hp8 (hlb k)) ?_
    refine pm_if_le 55 d_S_worstMate_50 rfl (fun c50 => ?_) (fun c50 => ?_)
    · -- at 55: lo=[some (pm_R 32), some (pm_I (nI p)), some (pm_I (nI k)), some (pm_I (nI ((L p).getD k 0)))] st=[]
      refine pm_iinc' (nI k + (-1)) d_S_worstMate_55 (by decide) rfl rfl ?_
      refine pm_goto 28 d_S_worstMate_58 rfl ?_
      exact l_S_worst_28 hg hB hw hE hp hp1 hpp k (by omega) (fun j h1 h2 => by
        by_cases e : j = k
        · rw [e]; exact (cnt_le (SA_cnt hw hp)).mp c50
        · exact hI j (by omega) h2) _
    · refine pm_iload_n d_S_worstMate_53 rfl ?_
      exact pm_ireturn d_S_worstMate_54 rfl (fun _ => rfl) (Nat.le_refl _) (Nat.le_refl _) ⟨⟨by
        unfold worst_
        have h9 := ff_last (f := (SA_ n L).2.1 p) (l := L p ++ [p]) (i := k) (by rw [wl_len]; omega) (fun j h1 h2 => by
          rw [wl_len] at h2
          by_cases ej : j = (L p).length
          · rw [rh_getD_app, if_pos ej]; exact hpp
          · rw [wl_get (by omega)]; exact hI j h1 (by omega)) (by rw [wl_get hk]; exact Classical.byContradiction fun z => c50 ((cnt_le (SA_cnt hw hp)).mpr z))
        rw [h9, wl_get hk]
        rfl, hp1⟩, rfl⟩
theorem k_S_worstMate (hg : pm_gok 48 g) (hB : pm_base b) (hw : rh_wf n L) (hE : env_ n L σ) (hch : σ 1 5 = nI ch) (hc : ch < 2 ^ 31) (hs : sc_ n ch L σ) (hp : p < n) : pm_C b (d + 21) km_S_worstMate [pm_R 32, pm_I (nI p)] g σ τ 0 0 (pm_Wp (fun v σ' => v = some (oI (worst_ n L p)) ∧ sp_ n ch L σ σ') τ) := by
  have h8 := hw.1
  have hp8 : p < 8 := by omega
  have hl7 := wf_l hw hp
  have hlb := wf_b hw hp
  have hle := SA_le hw
  show pm_Y b (d + 20 + 1) km_S_worstMate 0 false [some (pm_R 32), some (pm_I (nI p)), none, none] [] g σ τ 0 0 0 0 _
  refine pm_aload_n d_S_worstMate_0 rfl ?_
  refine pm_callWp (i := 32) (ci := 3) (rest := []) [] hB d_S_worstMate_1 hc_S_31 (k_S_reckon hg hB hw hE hch hc hs) (hg.s rfl) (hg.i (by decide)) rfl rfl rfl rfl (Nat.le_of_ble_eq_true rfl) (Nat.le_of_ble_eq_true rfl) (by omega) (by omega) (fun v1 σ₁ hv1 hq1 => ?_)
  obtain ⟨rfl, hp1⟩ := hq1
  show pm_Y b _ km_S_worstMate 4 true [some (pm_R 32), some (pm_I (nI p)), none, none] [] g σ₁ τ 0 0 0 0 _
  refine pm_aload_n d_S_worstMate_4 rfl ?_
  refine pm_getr d_S_worstMate_5 hf_S_20 (hg.s rfl) (hg.i (by decide)) rfl (hg.r (by decide) rfl) ?_
  refine pm_iload_n d_S_worstMate_8 rfl ?_
  refine pm_aaload p d_S_worstMate_9 (hg.s rfl) (hg.i (by decide)) rfl hp8 (by decide) (hg.r (by decide) (sr_35 hp8)) ?_
  refine pm_iload_n d_S_worstMate_10 rfl ?_
  refine pm_iaload' p (nI ((SA_ n L).2.1 p p)) d_S_worstMate_11 (hg.s (sh_36 _ hp8)) (hg.i (by have := (hp8 : p < 8); omega)) rfl hp8 (by decide) (hp1.1.2.1 p p hp8 hp8) ?_
  refine pm_if_le 17 d_S_worstMate_12 rfl (fun c12 => ?_) (fun c12 => ?_)
  · refine pm_aload_n d_S_worstMate_17 rfl ?_
    refine pm_getr d_S_worstMate_18 hf_S_27 (hg.s rfl) (hg.i (by decide)) rfl (hg.r (by decide) rfl) ?_
    refine pm_iload_n d_S_worstMate_21 rfl ?_
    refine pm_callR (i := 1) (ci := 1) (rest := []) [pm_I (nI p)] hB d_S_worstMate_22 hc_S_37 (k_W_length hg (env_of hE hp1.2.2.lo).2.1 hp8) (hg.s rfl) (hg.i (by decide)) rfl rfl rfl rfl (Nat.le_of_ble_eq_true rfl) (Nat.le_of_ble_eq_true rfl) (by omega) (by omega) ?_
    -- at 25: lo=[some (pm_R 32), some (pm_I (nI p)), none, none] st=[pm_I (nI ((L p).length))]
    refine pm_iconst' (nI 1) d_S_worstMate_25 (by decide) ?_
    refine pm_isub d_S_worstMate_26 ?_
    refine pm_istore_n d_S_worstMate_27 (by decide) ?_
    have e1 : nI (L p).length - nI 1 = nI (L p).length + (-1) := by rw [Int32.sub_eq_add_neg]; rfl
    rw [e1]
    exact l_S_worst_28 hg hB hw hE hp hp1 ((cnt_le (SA_cnt hw hp)).mp c12) (L p).length (Nat.le_refl _) (fun j h1 h2 => by omega) _
  · refine pm_iload_n d_S_worstMate_15 rfl ?_
    exact pm_ireturn d_S_worstMate_16 rfl (fun _ => rfl) (Nat.le_refl _) (Nat.le_refl _) ⟨⟨by
      unfold worst_
      have h9 := ff_last (f := (SA_ n L).2.1 p) (l := L p ++ [p]) (i := (L p).length) (by rw [wl_len]; omega) (fun j h1 h2 => by rw [wl_len] at h2; omega) (by rw [rh_getD_app, if_pos rfl]; exact Classical.byContradiction fun z => c12 ((cnt_le (SA_cnt hw hp)).mpr z))
      rw [h9, rh_getD_app, if_pos rfl]
      rfl, hp1⟩, rfl⟩
end S4
