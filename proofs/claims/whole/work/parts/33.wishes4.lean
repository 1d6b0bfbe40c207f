/-! the wishes in the lists' words: append, cut, shift -/
theorem nI_m1 {k : Nat} (h : k < 2 ^ 31) : nI k ≠ -1 := by
  intro e
  have h1 := congrArg Int32.toInt e
  rw [nI_toInt h] at h1
  have h2 : (-1 : Int32).toInt = -1 := by decide
  omega
def pl_ (L : Nat → List Nat) (p q : Nat) : Int32 := if q ∈ L p then nI ((L p).idxOf q) else -1
def ci_L (L : Nat → List Nat) (σ : pI) : Prop := (∀ p, p < 8 → σ 2 p = nI (L p).length) ∧ (∀ p k, p < 8 → k < (L p).length → σ (4 + p) k = nI ((L p).getD k 0)) ∧ ∀ p q, p < 8 → q < 8 → σ (13 + p) q = pl_ L p q
def ci_S (L : Nat → List Nat) (σ : pI) : Prop := ∀ p q, p < 8 → q < 8 → σ (22 + p) q = nI (rh_rk L p q)
def ci_W (n ch : Nat) (L : Nat → List Nat) (σ : pI) : Prop := σ 1 4 = nI n ∧ σ 1 5 = nI ch ∧ ci_L L σ ∧ ci_S L σ
def wf_fr (σ₀ σ : pI) : Prop := ∀ c x, 30 ≤ c → σ c x = σ₀ c x
theorem idx_get {l : List Nat} (h : l.Nodup) {k : Nat} (hk : k < l.length) : l.idxOf (l.getD k 0) = k := by
  have hm : l.getD k 0 ∈ l := (mem_get l _).mpr ⟨k, hk, rfl⟩
  have hl := List.idxOf_lt_length_of_mem hm
  have hg : l.getD (l.idxOf (l.getD k 0)) 0 = l.getD k 0 := by
    rw [List.getD_eq_getElem?_getD, List.getElem?_eq_getElem hl, Option.getD_some]
    exact List.getElem_idxOf hl
  exact (nd_iff l).mp h _ _ hl hk hg
theorem get_idx {l : List Nat} {q : Nat} (h : q ∈ l) : l.idxOf q < l.length ∧ l.getD (l.idxOf q) 0 = q := by
  have hl := List.idxOf_lt_length_of_mem h
  refine ⟨hl, ?_⟩
  rw [List.getD_eq_getElem?_getD, List.getElem?_eq_getElem hl, Option.getD_some]
  exact List.getElem_idxOf hl
theorem wf_b {n : Nat} {L : Nat → List Nat} (hw : rh_wf n L) {p : Nat} (hp : p < n) (k : Nat) : (L p).getD k 0 < 8 := by
  have h8 := hw.1
  by_cases hk : k < (L p).length
  · have := ((hw.2.1 p hp).2 _ ((mem_get _ _).mpr ⟨k, hk, rfl⟩)).1
    omega
  · rw [List.getD_eq_getElem?_getD, List.getElem?_eq_none (by omega)]
    decide
theorem wf_l {n : Nat} {L : Nat → List Nat} (hw : rh_wf n L) {p : Nat} (hp : p < n) : (L p).length ≤ 7 := by
  have := rh_len hw hp
  have := hw.1
  omega
theorem nc_rk {L : Nat → List Nat} {σ : pI} (h : ci_L L σ) {n p q : Nat} (hw : rh_wf n L) (hp : p < 8) (hq : q < 8) (hne : p ≠ q) : nc_v σ p q = nI (rh_rk L p q) := by
  have lb : ∀ a c, a < 8 → c ∈ L a → (L a).idxOf c < 2 ^ 31 := fun a c ha hc => by
    have h1 := (get_idx hc).1
    have h2 : a < n := Nat.lt_of_not_le fun z => by rw [hw.2.2 a z] at hc; cases hc
    have h3 := wf_l hw h2
    omega
  unfold nc_v rh_rk
  rw [h.2.2 p q hp hq, h.2.2 q p hq hp, if_neg hne]
  unfold pl_
  by_cases h1 : q ∈ L p
  · by_cases h2 : p ∈ L q
    · rw [if_pos h1, if_pos h2, if_neg (fun z => Or.elim z (nI_m1 (lb p q hp h1)) (nI_m1 (lb q p hq h2))), if_pos ⟨h1, h2⟩]
    · rw [if_neg h2, if_pos (Or.inr rfl), if_neg (fun z => h2 z.2)]
  · rw [if_neg h1, if_pos (Or.inl rfl), if_neg (fun z => h1 z.1)]
theorem note_W {n ch p : Nat} {L : Nat → List Nat} {σ σ' : pI} (hw : rh_wf n L) (hp : p < 8) (h1 : σ 1 4 = nI n) (h2 : σ 1 5 = nI ch) (hL : ci_L L σ) (hS : ∀ a c, a < 8 → c < 8 → (a = p ↔ c = p) → σ (22 + a) c = nI (rh_rk L a c)) (hn : nc_end σ p σ') : ci_W n (ch + 1) L σ' := by
  obtain ⟨n1, n2, n3, n4⟩ := hn
  have fr : ∀ c x, c < 22 → ¬ (c = 1 ∧ x = 5) → σ' c x = σ c x := fun c x hc hx => n4 c x (by omega) hx
  refine ⟨by rw [fr 1 4 (by omega) (by omega)]; exact h1, by rw [n3, h2, nI_add], ⟨fun a ha => ?_, fun a k ha hk => ?_, fun a c ha hc => ?_⟩, fun a c ha hc => ?_⟩
  · rw [fr 2 a (by omega) (by omega)]; exact hL.1 a ha
  · rw [fr (4 + a) k (by omega) (by omega)]; exact hL.2.1 a k ha hk
  · rw [fr (13 + a) c (by omega) (by omega)]; exact hL.2.2 a c ha hc
  · by_cases e1 : a = p
    · by_cases e2 : c = p
      · subst e1; subst e2
        rw [n2]; exact hS c c ha hc ⟨fun z => z, fun z => z⟩
      · subst e1
        rw [(n1 c hc e2).1]
        exact nc_rk hL hw ha hc (fun z => e2 z.symm)
    · by_cases e2 : c = p
      · subst e2
        rw [(n1 a ha e1).2]
        exact nc_rk hL hw ha hc e1
      · rw [n4 (22 + a) c (by omega) (by omega)]
        exact hS a c ha hc ⟨fun z => absurd z e1, fun z => absurd z e2⟩
theorem rk_off {L L' : Nat → List Nat} {p a c : Nat} (h : ∀ x, x ≠ p → L' x = L x) (hac : a = p ↔ c = p) : rh_rk L' a c = rh_rk L a c := by
  unfold rh_rk
  by_cases e : a = c
  · rw [if_pos e, if_pos e]
  · have h1 : a ≠ p := fun z => e (z.trans (hac.mp z).symm)
    have h2 : c ≠ p := fun z => h1 (hac.mpr z)
    rw [h a h1, h c h2]
theorem pl_off {L L' : Nat → List Nat} {p a c : Nat} (h : ∀ x, x ≠ p → L' x = L x) (ha : a ≠ p) : pl_ L' a c = pl_ L a c := by
  unfold pl_
  rw [h a ha]
theorem wf_up {n : Nat} {L : Nat → List Nat} (hw : rh_wf n L) {p : Nat} (hp : p < n) {l : List Nat} (h1 : l.Nodup) (h2 : ∀ q, q ∈ l → q < n ∧ q ≠ p) : rh_wf n (gw_up L p l) := by
  refine ⟨hw.1, fun a ha => ?_, fun a ha => ?_⟩
  · by_cases e : a = p
    · subst e; rw [gw_up_self]; exact ⟨h1, h2⟩
    · rw [gw_up_ne _ _ e]; exact hw.2.1 a ha
  · rw [gw_up_ne _ _ (by omega)]; exact hw.2.2 a ha
theorem clear_W {n ch : Nat} {σ σ' : pI} (h : cl_end σ n σ') (hc : σ 1 5 = nI ch) : ci_W n (ch + 1) (fun _ => []) σ' ∧ wf_fr σ σ' := by
  obtain ⟨h1, h2, h3, h4, h5⟩ := h
  refine ⟨⟨h1, by rw [h2, hc, nI_add], ⟨fun p hp => h3 p hp, fun p k _ hk => absurd hk (Nat.not_lt_zero k), fun p q hp hq => by rw [(h4 p q hp hq).1]; unfold pl_; rw [if_neg List.not_mem_nil]⟩, fun p q hp hq => ?_⟩, fun c x hc => h5 c x (by omega)⟩
  rw [(h4 p q hp hq).2]
  unfold rh_rk
  by_cases e : p = q
  · rw [if_pos e, if_pos e]
  · rw [if_neg e, if_neg e, if_neg (fun z => List.not_mem_nil z.1)]
theorem ap_wf {n : Nat} {L : Nat → List Nat} (hw : rh_wf n L) {p q : Nat} (hp : p < n) (hq : q < n) (hne : q ≠ p) (hm : q ∉ L p) : rh_wf n (gw_up L p (L p ++ [q])) := by
  have h := hw.2.1 p hp
  refine wf_up hw hp ?_ ?_
  · rw [List.nodup_append]
    refine ⟨h.1, by simp, fun a ha c hc => ?_⟩
    rw [List.mem_singleton] at hc
    subst hc
    exact fun z => hm (z ▸ ha)
  · intro a ha
    rcases List.mem_append.mp ha with ha | ha
    · exact h.2 a ha
    · rw [List.mem_singleton] at ha
      subst ha
      exact ⟨hq, hne⟩
theorem ap_L {n : Nat} {L : Nat → List Nat} {σ : pI} (hw : rh_wf n L) (h : ci_L L σ) {p q : Nat} (hp : p < n) (hq : q < n) (hne : q ≠ p) (hm : q ∉ L p) :
    ci_L (gw_up L p (L p ++ [q])) (pm_up (pm_up (pm_up σ 2 p (nI ((L p).length + 1))) (4 + p) (L p).length (nI q)) (13 + p) q (nI (L p).length)) := by
  have h8 := hw.1
  have hwf := ap_wf hw hp hq hne hm
  refine ⟨fun a ha => ?_, fun a k ha hk => ?_, fun a c ha hc => ?_⟩
  · rw [pm_up_ne (by omega), pm_up_ne (by omega)]
    by_cases e : a = p
    · subst e; rw [pm_up_at, gw_up_self, List.length_append, List.length_singleton]
    · rw [pm_up_ne (by omega), gw_up_ne _ _ e]; exact h.1 a ha
  · rw [pm_up_ne (by omega)]
    by_cases e : a = p
    · subst e
      rw [gw_up_self] at hk ⊢
      rw [rh_getD_app]
      by_cases e2 : k = (L a).length
      · subst e2; rw [pm_up_at, if_pos rfl]
      · rw [List.length_append, List.length_singleton] at hk
        rw [pm_up_ne (by omega), pm_up_ne (by omega), if_neg e2]; exact h.2.1 a k ha (by omega)
    · rw [gw_up_ne _ _ e] at hk ⊢
      rw [pm_up_ne (by omega), pm_up_ne (by omega)]; exact h.2.1 a k ha hk
  · by_cases e : a = p
    · subst e
      have hnd := (hwf.2.1 a hp).1
      rw [gw_up_self] at hnd
      by_cases e2 : c = q
      · subst e2
        rw [pm_up_at]
        unfold pl_
        rw [gw_up_self, if_pos (List.mem_append_right _ (List.mem_singleton.mpr rfl))]
        have := idx_get hnd (k := (L a).length) (by rw [List.length_append, List.length_singleton]; omega)
        rw [rh_getD_app, if_pos rfl] at this
        rw [this]
      · rw [pm_up_ne (by omega), pm_up_ne (by omega), pm_up_ne (by omega), h.2.2 a c ha hc]
        unfold pl_
        rw [gw_up_self]
        by_cases hc2 : c ∈ L a
        · obtain ⟨i1, i2⟩ := get_idx hc2
          rw [if_pos hc2, if_pos (List.mem_append_left _ hc2)]
          have := idx_get hnd (k := (L a).idxOf c) (by rw [List.length_append, List.length_singleton]; omega)
          rw [rh_getD_app, if_neg (by omega), i2] at this
          rw [this]
        · rw [if_neg hc2, if_neg (fun z => by
            rcases List.mem_append.mp z with z | z
            · exact hc2 z
            · exact e2 (List.mem_singleton.mp z))]
    · rw [pm_up_ne (by omega), pm_up_ne (by omega), pm_up_ne (by omega), h.2.2 a c ha hc, pl_off (L := L) (p := p) (fun x hx => gw_up_ne _ _ hx) e]
theorem sl_L {n : Nat} {L : Nat → List Nat} {σ σ' : pI} (hw : rh_wf n L) (h : ci_L L σ) {p f t : Nat} (hp : p < n) (hf : f < (L p).length) (ht : t < (L p).length) (hs : sl_end σ p (L p) f t σ') : ci_L (gw_up L p (mv_list (L p) f t)) σ' := by
  have h8 := hw.1
  have hnd := (hw.2.1 p hp).1
  obtain ⟨s1, s2, s3, s4⟩ := hs
  refine ⟨fun a ha => ?_, fun a k ha hk => ?_, fun a c ha hc => ?_⟩
  · rw [s4 2 a (by omega) (by omega), h.1 a ha]
    by_cases e : a = p
    · subst e; rw [gw_up_self, mv_len]
    · rw [gw_up_ne _ _ e]
  · by_cases e : a = p
    · subst e
      rw [gw_up_self, mv_len] at hk
      rw [gw_up_self, mv_get hk]
      exact s1 k hk
    · rw [gw_up_ne _ _ e] at hk ⊢
      rw [s4 (4 + a) k (by omega) (by omega)]; exact h.2.1 a k ha hk
  · by_cases e : a = p
    · subst e
      unfold pl_
      rw [gw_up_self]
      by_cases hm : c ∈ mv_list (L a) f t
      · rw [if_pos hm]
        obtain ⟨i1, i2⟩ := get_idx hm
        rw [mv_len] at i1
        rw [mv_get i1] at i2
        have := s2 _ i1
        rw [i2] at this
        exact this
      · rw [if_neg hm]
        rw [mv_mem hf ht] at hm
        rw [s3 c hm, h.2.2 a c ha hc]
        unfold pl_
        rw [if_neg hm]
    · rw [s4 (13 + a) c (by omega) (by omega), h.2.2 a c ha hc, pl_off (L := L) (p := p) (fun x hx => gw_up_ne _ _ hx) e]
theorem mv_wf {n : Nat} {L : Nat → List Nat} (hw : rh_wf n L) {p f t : Nat} (hp : p < n) (hf : f < (L p).length) (ht : t < (L p).length) : rh_wf n (gw_up L p (mv_list (L p) f t)) :=
  wf_up hw hp (mv_nd (hw.2.1 p hp).1 hf ht) (fun q hq => (hw.2.1 p hp).2 q ((mv_mem hf ht q).mp hq))
theorem rm_wf {n : Nat} {L : Nat → List Nat} (hw : rh_wf n L) {p f : Nat} (hp : p < n) (hf : f < (L p).length) : rh_wf n (gw_up L p (rm_list (L p) f)) :=
  wf_up hw hp (rm_nd (hw.2.1 p hp).1 hf) (fun q hq => (hw.2.1 p hp).2 q ((rm_mem (hw.2.1 p hp).1 hf q).mp hq).1)
theorem rm_L {n : Nat} {L : Nat → List Nat} {σ σ' : pI} (hw : rh_wf n L) (h : ci_L L σ) {p f : Nat} (hp : p < n) (hf : f < (L p).length) (hs : sl_end σ p (L p) f ((L p).length - 1) σ') :
    ci_L (gw_up L p (rm_list (L p) f)) (pm_up (pm_up σ' 2 p (nI ((L p).length - 1))) (13 + p) ((L p).getD f 0) (-1)) := by
  have h8 := hw.1
  have hnd := (hw.2.1 p hp).1
  obtain ⟨s1, s2, s3, s4⟩ := hs
  have hnr := rm_nd hnd hf
  refine ⟨fun a ha => ?_, fun a k ha hk => ?_, fun a c ha hc => ?_⟩
  · rw [pm_up_ne (by omega)]
    by_cases e : a = p
    · subst e; rw [pm_up_at, gw_up_self, rm_len]
    · rw [pm_up_ne (by omega), gw_up_ne _ _ e, s4 2 a (by omega) (by omega)]; exact h.1 a ha
  · rw [pm_up_ne (by omega), pm_up_ne (by omega)]
    by_cases e : a = p
    · subst e
      rw [gw_up_self, rm_len] at hk
      rw [gw_up_self, rm_get hk]
      exact s1 k (by omega)
    · rw [gw_up_ne _ _ e] at hk ⊢
      rw [s4 (4 + a) k (by omega) (by omega)]; exact h.2.1 a k ha hk
  · by_cases e : a = p
    · subst e
      unfold pl_
      rw [gw_up_self]
      by_cases e2 : c = (L a).getD f 0
      · subst e2
        rw [pm_up_at, if_neg (fun z => ((rm_mem hnd hf _).mp z).2 rfl)]
      · rw [pm_up_ne (by omega), pm_up_ne (by omega)]
        by_cases hm : c ∈ rm_list (L a) f
        · rw [if_pos hm]
          obtain ⟨i1, i2⟩ := get_idx hm
          rw [rm_len] at i1
          rw [rm_get i1] at i2
          have := s2 ((rm_list (L a) f).idxOf c) (by omega)
          rw [i2] at this
          exact this
        · rw [if_neg hm]
          have hm2 : c ∉ L a := fun z => hm ((rm_mem hnd hf c).mpr ⟨z, e2⟩)
          rw [s3 c hm2, h.2.2 a c ha hc]
          unfold pl_
          rw [if_neg hm2]
    · rw [pm_up_ne (by omega), pm_up_ne (by omega), s4 (13 + a) c (by omega) (by omega), h.2.2 a c ha hc, pl_off (L := L) (p := p) (fun x hx => gw_up_ne _ _ hx) e]
section W5
variable {b : pB} {g : pG} {σ : pI} {τ : pJ} {d p q n ch f t : Nat} {L : Nat → List Nat}
theorem c_W_append (hg : pm_gok 48 g) (hB : pm_base b) (hw : rh_wf n L) (hp : p < n) (hW : ci_W n ch L σ) (hq : q < n) (hne : q ≠ p) (hm : q ∉ L p) : pm_C b (d + 1) km_W_append [pm_R 1, pm_I (nI p), pm_I (nI q)] g σ τ 0 0 (pm_Wp (fun v σ' => v = none ∧ ci_W n (ch + 1) (gw_up L p (L p ++ [q])) σ' ∧ wf_fr σ σ') τ) := by
  show pm_Y b (d + 1) km_W_append 0 false [some (pm_R 1), some (pm_I (nI p)), some (pm_I (nI q)), none] [] g σ τ 0 0 0 0 _
  have h8 := hw.1
  have hp8 : p < 8 := by omega
  have hl7 := wf_l hw hp
  have hb := wf_b hw hp
  have hnd := (hw.2.1 p hp).1
  obtain ⟨hW1, hW2, hWL, hWS⟩ := hW
  have hq8 : q < 8 := by omega
  refine pm_aload_n d_W_append_0 rfl ?_
  refine pm_getr d_W_append_1 hf_W_9 (hg.s rfl) (hg.i (by decide)) rfl (hg.r (by decide) rfl) ?_
  refine pm_iload_n d_W_append_4 rfl ?_
  refine pm_iaload' p (nI ((L p).length)) d_W_append_5 (hg.s rfl) (hg.i (by decide)) rfl hp8 (by decide) (hWL.1 p hp8) ?_
  refine pm_istore_n d_W_append_6 (by decide) ?_
  refine pm_aload_n d_W_append_7 rfl ?_
  refine pm_getr d_W_append_8 hf_W_9 (hg.s rfl) (hg.i (by decide)) rfl (hg.r (by decide) rfl) ?_
  refine pm_iload_n d_W_append_11 rfl ?_
  refine pm_iload_n d_W_append_12 rfl ?_
  refine pm_iconst' (nI 1) d_W_append_13 (by decide) ?_
  refine pm_iaddN d_W_append_14 ?_
  refine pm_iastore p d_W_append_15 (hg.s rfl) (hg.i (by decide)) rfl hp8 (by decide) ?_
  refine pm_aload_n d_W_append_16 rfl ?_
  refine pm_iload_n d_W_append_17 rfl ?_
  refine pm_iload_n d_W_append_18 rfl ?_
  refine pm_iload_n d_W_append_19 rfl ?_
  refine pm_callWv (i := 1) (ci := 1) (rest := []) [pm_I (nI p), pm_I (nI ((L p).length)), pm_I (nI q)] hB d_W_append_20 hc_W_33 (c_W_set hg hp8 (by omega) hq8) (hg.s rfl) (hg.i (by decide)) rfl rfl rfl rfl (Nat.le_of_ble_eq_true rfl) (Nat.le_of_ble_eq_true rfl) (by omega) (by omega) ?_
  refine pm_aload_n d_W_append_23 rfl ?_
  refine pm_iload_n d_W_append_24 rfl ?_
  refine pm_callWp (i := 1) (ci := 1) (rest := []) [pm_I (nI p)] hB d_W_append_25 hc_W_37 (c_W_noteChange hg hp8) (hg.s rfl) (hg.i (by decide)) rfl rfl rfl rfl (Nat.le_of_ble_eq_true rfl) (Nat.le_of_ble_eq_true rfl) (by omega) (by omega) (fun v25 σ₃ hv25 hq25 => ?_)
  obtain ⟨rfl, hn⟩ := hq25
  show pm_Y b _ km_W_append 28 true [some (pm_R 1), some (pm_I (nI p)), some (pm_I (nI q)), some (pm_I (nI ((L p).length)))] [] g σ₃ τ 0 0 0 0 _
  have H1 : (pm_up (pm_up (pm_up σ 2 p (nI ((L p).length + 1))) (4 + p) (L p).length (nI q)) (13 + p) q (nI (L p).length)) 1 4 = nI n := by rw [pm_up_ne (by omega), pm_up_ne (by omega), pm_up_ne (by omega)]; exact hW1
  have H2 : (pm_up (pm_up (pm_up σ 2 p (nI ((L p).length + 1))) (4 + p) (L p).length (nI q)) (13 + p) q (nI (L p).length)) 1 5 = nI ch := by rw [pm_up_ne (by omega), pm_up_ne (by omega), pm_up_ne (by omega)]; exact hW2
  have H3 : ∀ a c, a < 8 → c < 8 → (a = p ↔ c = p) → (pm_up (pm_up (pm_up σ 2 p (nI ((L p).length + 1))) (4 + p) (L p).length (nI q)) (13 + p) q (nI (L p).length)) (22 + a) c = nI (rh_rk (gw_up L p (L p ++ [q])) a c) := fun a c ha hc hac => by
    rw [pm_up_ne (by omega), pm_up_ne (by omega), pm_up_ne (by omega), rk_off (L := L) (fun x hx => gw_up_ne _ _ hx) hac]; exact hWS a c ha hc
  have H4 : wf_fr σ σ₃ := fun c x hc => by rw [hn.2.2.2 c x (by omega) (by omega), pm_up_ne (by omega), pm_up_ne (by omega), pm_up_ne (by omega)]
  exact pm_return d_W_append_28 rfl (fun _ => rfl) (Nat.le_refl _) (Nat.le_refl _) ⟨⟨rfl, note_W (ap_wf hw hp hq hne hm) hp8 H1 H2 (ap_L hw hWL hp hq hne hm) H3 hn, H4⟩, rfl⟩
theorem c_W_shift (hg : pm_gok 48 g) (hB : pm_base b) (hw : rh_wf n L) (hp : p < n) (hW : ci_W n ch L σ) (hf : f < (L p).length) (ht : t < (L p).length) : pm_C b (d + 2) km_W_shift [pm_R 1, pm_I (nI p), pm_I (nI f), pm_I (nI t)] g σ τ 0 0 (pm_Wp (fun v σ' => v = none ∧ ci_W n (ch + 1) (gw_up L p (mv_list (L p) f t)) σ' ∧ wf_fr σ σ') τ) := by
  show pm_Y b (d + 2) km_W_shift 0 false [some (pm_R 1), some (pm_I (nI p)), some (pm_I (nI f)), some (pm_I (nI t))] [] g σ τ 0 0 0 0 _
  have h8 := hw.1
  have hp8 : p < 8 := by omega
  have hl7 := wf_l hw hp
  have hb := wf_b hw hp
  have hnd := (hw.2.1 p hp).1
  obtain ⟨hW1, hW2, hWL, hWS⟩ := hW
  refine pm_aload_n d_W_shift_0 rfl ?_
  refine pm_iload_n d_W_shift_1 rfl ?_
  refine pm_iload_n d_W_shift_2 rfl ?_
  refine pm_iload_n d_W_shift_3 rfl ?_
  refine pm_callWp (i := 1) (ci := 1) (rest := []) [pm_I (nI p), pm_I (nI f), pm_I (nI t)] hB d_W_shift_4 hc_W_41 (c_W_slide hg hB hp8 hnd hl7 hb hf ht (fun k hk => hWL.2.1 p k hp8 hk) (fun k hk => by rw [hWL.2.2 p _ hp8 (hb k)]; unfold pl_; rw [if_pos ((mem_get _ _).mpr ⟨k, hk, rfl⟩), idx_get hnd hk])) (hg.s rfl) (hg.i (by decide)) rfl rfl rfl rfl (Nat.le_of_ble_eq_true rfl) (Nat.le_of_ble_eq_true rfl) (by omega) (by omega) (fun v4 σ₂ hv4 hq4 => ?_)
  obtain ⟨rfl, hs⟩ := hq4
  show pm_Y b _ km_W_shift 7 true [some (pm_R 1), some (pm_I (nI p)), some (pm_I (nI f)), some (pm_I (nI t))] [] g σ₂ τ 0 0 0 0 _
  refine pm_aload_n d_W_shift_7 rfl ?_
  refine pm_iload_n d_W_shift_8 rfl ?_
  refine pm_callWp (i := 1) (ci := 1) (rest := []) [pm_I (nI p)] hB d_W_shift_9 hc_W_37 (c_W_noteChange hg hp8) (hg.s rfl) (hg.i (by decide)) rfl rfl rfl rfl (Nat.le_of_ble_eq_true rfl) (Nat.le_of_ble_eq_true rfl) (by omega) (by omega) (fun v9 σ₃ hv9 hq9 => ?_)
  obtain ⟨rfl, hn⟩ := hq9
  show pm_Y b _ km_W_shift 12 true [some (pm_R 1), some (pm_I (nI p)), some (pm_I (nI f)), some (pm_I (nI t))] [] g σ₃ τ 0 0 0 0 _
  have H1 : σ₂ 1 4 = nI n := by rw [hs.2.2.2 1 4 (by omega) (by omega)]; exact hW1
  have H2 : σ₂ 1 5 = nI ch := by rw [hs.2.2.2 1 5 (by omega) (by omega)]; exact hW2
  have H3 : ∀ a c, a < 8 → c < 8 → (a = p ↔ c = p) → σ₂ (22 + a) c = nI (rh_rk (gw_up L p (mv_list (L p) f t)) a c) := fun a c ha hc hac => by
    rw [hs.2.2.2 (22 + a) c (by omega) (by omega), rk_off (L := L) (fun x hx => gw_up_ne _ _ hx) hac]; exact hWS a c ha hc
  have H4 : wf_fr σ σ₃ := fun c x hc => by rw [hn.2.2.2 c x (by omega) (by omega), hs.2.2.2 c x (by omega) (by omega)]
  exact pm_return d_W_shift_12 rfl (fun _ => rfl) (Nat.le_refl _) (Nat.le_refl _) ⟨⟨rfl, note_W (mv_wf hw hp hf ht) hp8 H1 H2 (sl_L hw hWL hp hf ht hs) H3 hn, H4⟩, rfl⟩
theorem c_W_cut (hg : pm_gok 48 g) (hB : pm_base b) (hw : rh_wf n L) (hp : p < n) (hW : ci_W n ch L σ) (hf : f < (L p).length) : pm_C b (d + 2) km_W_cut [pm_R 1, pm_I (nI p), pm_I (nI f)] g σ τ 0 0 (pm_Wp (fun v σ' => v = none ∧ ci_W n (ch + 1) (gw_up L p (rm_list (L p) f)) σ' ∧ wf_fr σ σ') τ) := by
  show pm_Y b (d + 2) km_W_cut 0 false [some (pm_R 1), some (pm_I (nI p)), some (pm_I (nI f)), none, none] [] g σ τ 0 0 0 0 _
  have h8 := hw.1
  have hp8 : p < 8 := by omega
  have hl7 := wf_l hw hp
  have hb := wf_b hw hp
  have hnd := (hw.2.1 p hp).1
  obtain ⟨hW1, hW2, hWL, hWS⟩ := hW
  refine pm_aload_n d_W_cut_0 rfl ?_
  refine pm_getr d_W_cut_1 hf_W_9 (hg.s rfl) (hg.i (by decide)) rfl (hg.r (by decide) rfl) ?_
  refine pm_iload_n d_W_cut_4 rfl ?_
  refine pm_iaload' p (nI ((L p).length)) d_W_cut_5 (hg.s rfl) (hg.i (by decide)) rfl hp8 (by decide) (hWL.1 p hp8) ?_
  refine pm_iconst' (nI 1) d_W_cut_6 (by decide) ?_
  refine pm_isubN d_W_cut_7 (by omega) ?_
  refine pm_istore_n d_W_cut_8 (by decide) ?_
  refine pm_aload_n d_W_cut_9 rfl ?_
  refine pm_getr d_W_cut_10 hf_W_17 (hg.s rfl) (hg.i (by decide)) rfl (hg.r (by decide) rfl) ?_
  refine pm_iload_n d_W_cut_13 rfl ?_
  refine pm_aaload p d_W_cut_14 (hg.s rfl) (hg.i (by decide)) rfl hp8 (by decide) (hg.r (by decide) (sr_3 hp8)) ?_
  refine pm_iload_n d_W_cut_15 rfl ?_
  refine pm_iaload' f (nI ((L p).getD f 0)) d_W_cut_16 (hg.s (sh_4 _ hp8)) (hg.i (by have := (hp8 : p < 8); omega)) rfl (by omega) (by decide) (hWL.2.1 p f hp8 hf) ?_
  refine pm_istore d_W_cut_17 (by decide) ?_
  refine pm_aload_n d_W_cut_19 rfl ?_
  refine pm_iload_n d_W_cut_20 rfl ?_
  refine pm_iload_n d_W_cut_21 rfl ?_
  refine pm_iload_n d_W_cut_22 rfl ?_
  refine pm_callWp (i := 1) (ci := 1) (rest := []) [pm_I (nI p), pm_I (nI f), pm_I (nI (((L p).length) - 1))] hB d_W_cut_23 hc_W_41 (c_W_slide hg hB hp8 hnd hl7 hb hf (show (L p).length - 1 < (L p).length by omega) (fun k hk => hWL.2.1 p k hp8 hk) (fun k hk => by rw [hWL.2.2 p _ hp8 (hb k)]; unfold pl_; rw [if_pos ((mem_get _ _).mpr ⟨k, hk, rfl⟩), idx_get hnd hk])) (hg.s rfl) (hg.i (by decide)) rfl rfl rfl rfl (Nat.le_of_ble_eq_true rfl) (Nat.le_of_ble_eq_true rfl) (by omega) (by omega) (fun v23 σ₂ hv23 hq23 => ?_)
  obtain ⟨rfl, hs⟩ := hq23
  show pm_Y b _ km_W_cut 26 true [some (pm_R 1), some (pm_I (nI p)), some (pm_I (nI f)), some (pm_I (nI (((L p).length) - 1))), some (pm_I (nI ((L p).getD f 0)))] [] g σ₂ τ 0 0 0 0 _
  refine pm_aload_n d_W_cut_26 rfl ?_
  refine pm_getr d_W_cut_27 hf_W_9 (hg.s rfl) (hg.i (by decide)) rfl (hg.r (by decide) rfl) ?_
  refine pm_iload_n d_W_cut_30 rfl ?_
  refine pm_iload_n d_W_cut_31 rfl ?_
  refine pm_iastore p d_W_cut_32 (hg.s rfl) (hg.i (by decide)) rfl hp8 (by decide) ?_
  refine pm_aload_n d_W_cut_33 rfl ?_
  refine pm_getr d_W_cut_34 hf_W_20 (hg.s rfl) (hg.i (by decide)) rfl (hg.r (by decide) rfl) ?_
  refine pm_iload_n d_W_cut_37 rfl ?_
  refine pm_aaload p d_W_cut_38 (hg.s rfl) (hg.i (by decide)) rfl hp8 (by decide) (hg.r (by decide) (sr_12 hp8)) ?_
  refine pm_iload d_W_cut_39 rfl ?_
  refine pm_iconst' (-1) d_W_cut_41 (by decide) ?_
  refine pm_iastore ((L p).getD f 0) d_W_cut_42 (hg.s (sh_13 _ hp8)) (hg.i (by have := (hp8 : p < 8); omega)) rfl (hb f) (by decide) ?_
  refine pm_aload_n d_W_cut_43 rfl ?_
  refine pm_iload_n d_W_cut_44 rfl ?_
  refine pm_callWp (i := 1) (ci := 1) (rest := []) [pm_I (nI p)] hB d_W_cut_45 hc_W_37 (c_W_noteChange hg hp8) (hg.s rfl) (hg.i (by decide)) rfl rfl rfl rfl (Nat.le_of_ble_eq_true rfl) (Nat.le_of_ble_eq_true rfl) (by omega) (by omega) (fun v45 σ₃ hv45 hq45 => ?_)
  obtain ⟨rfl, hn⟩ := hq45
  show pm_Y b _ km_W_cut 48 true [some (pm_R 1), some (pm_I (nI p)), some (pm_I (nI f)), some (pm_I (nI (((L p).length) - 1))), some (pm_I (nI ((L p).getD f 0)))] [] g σ₃ τ 0 0 0 0 _
  have H1 : (pm_up (pm_up σ₂ 2 p (nI ((L p).length - 1))) (13 + p) ((L p).getD f 0) (-1)) 1 4 = nI n := by rw [pm_up_ne (by omega), pm_up_ne (by omega), hs.2.2.2 1 4 (by omega) (by omega)]; exact hW1
  have H2 : (pm_up (pm_up σ₂ 2 p (nI ((L p).length - 1))) (13 + p) ((L p).getD f 0) (-1)) 1 5 = nI ch := by rw [pm_up_ne (by omega), pm_up_ne (by omega), hs.2.2.2 1 5 (by omega) (by omega)]; exact hW2
  have H3 : ∀ a c, a < 8 → c < 8 → (a = p ↔ c = p) → (pm_up (pm_up σ₂ 2 p (nI ((L p).length - 1))) (13 + p) ((L p).getD f 0) (-1)) (22 + a) c = nI (rh_rk (gw_up L p (rm_list (L p) f)) a c) := fun a c ha hc hac => by
    rw [pm_up_ne (by omega), pm_up_ne (by omega), hs.2.2.2 (22 + a) c (by omega) (by omega), rk_off (L := L) (fun x hx => gw_up_ne _ _ hx) hac]; exact hWS a c ha hc
  have H4 : wf_fr σ σ₃ := fun c x hc => by rw [hn.2.2.2 c x (by omega) (by omega), pm_up_ne (by omega), pm_up_ne (by omega), hs.2.2.2 c x (by omega) (by omega)]
  exact pm_return d_W_cut_48 rfl (fun _ => rfl) (Nat.le_refl _) (Nat.le_refl _) ⟨⟨rfl, note_W (rm_wf hw hp hf) hp8 H1 H2 (rm_L hw hWL hp hf hs) H3 hn, H4⟩, rfl⟩
end W5
