/-! new cells -/
def pm_lt (n : Nat) : pV → Bool
  | .inr (.inr (.inl i)) => decide (i < n)
  | _ => true
def pm_lto (n : Nat) : Option pV → Bool
  | none => true
  | some v => pm_lt n v
theorem pm_lt_eq {ad ad' : Nat → Nat} {sc jk n : Nat} (h : ∀ i, i < n → ad' i = ad i) {v : pV} (hv : pm_lt n v = true) : pm_v ad' sc jk v = pm_v ad sc jk v := by
  rcases v with x | x | x | x
  · rfl
  · rfl
  · have hx : x < n := of_decide_eq_true hv
    show Value.ref (ad' x) = Value.ref (ad x)
    rw [h x hx]
  · cases x <;> rfl
theorem pm_lt_map {ad ad' : Nat → Nat} {sc jk n : Nat} (h : ∀ i, i < n → ad' i = ad i) {st : List pV} (hv : st.all (pm_lt n) = true) : st.map (pm_v ad' sc jk) = st.map (pm_v ad sc jk) := by
  rw [List.all_eq_true] at hv
  exact List.map_congr_left fun v hm => pm_lt_eq h (hv v hm)
theorem pm_lt_lo {b : pB} {ad ad' : Nat → Nat} {jk n nL : Nat} (h : ∀ i, i < n → ad' i = ad i) {lo : List (Option pV)} {ls : Array Slot} (hv : lo.all (pm_lto n) = true) (hL : pm_lo b ad jk nL lo ls) : pm_lo b ad' jk nL lo ls := by
  refine ⟨hL.1, hL.2.1, fun i v hi => ?_⟩
  rw [List.all_eq_true] at hv
  have := hv _ (List.mem_of_getElem? hi)
  rw [pm_lt_eq h this]
  exact hL.2.2 i v hi
theorem pm_Wmono {p : Program} {l : Launch} {e : Env} {R : Room} {s : State} {m : MethodId} {args : Array Value} {below : List Frame} {meth : Method} {c : Code} {H : Heap} {locs : List Loc} {cells slots : Nat} {Q Q' : State → Prop} {g : JFrame} (h : ∀ t, Q t → Q' t) (w : W p l e R s m args below meth c H locs cells slots Q g) : W p l e R s m args below meth c H locs cells slots Q' g := by
  intro T hT X
  obtain ⟨t, a, q⟩ := w T hT X
  exact ⟨t, a, h t q⟩
theorem pm_end_mono {b : pB} {k : pK} {Q : pG → pI → pJ → Prop} {ad ad' : Nat → Nat} {g g' : pG} {below : List Frame} {args : Array Value} {s : State} {mc ms : Nat} (h1 : g.1 ≤ g'.1) (h2 : ∀ i, i < g.1 → ad' i = ad i) (t : State)
    (h : pm_end b k (.inr (.inr Q)) ad' g' below args s mc ms t) : pm_end b k (.inr (.inr Q)) ad g below args s mc ms t := by
  obtain ⟨o, h3, h4, ⟨ad2, g2, σ, τ, q1, q2, q3, q4, q5⟩, h6⟩ := h
  exact ⟨o, h3, h4, ⟨ad2, g2, σ, τ, q1, q2, Nat.le_trans h1 q3, fun i hi => (q4 i (Nat.lt_of_lt_of_le hi h1)).trans (h2 i hi), q5⟩, h6⟩
/-- the references of the cells that are there -/
def pm_wf (g : pG) : Prop := ∀ i j r, i < g.1 → g.2.2 i j = some r → r < g.1
theorem pm_ct_new {b : pB} {ad ad' : Nat → Nat} {g : pG} {n : Nat} {σ : pI} {τ : pJ} {i : Nat} (hw : ∀ j r, g.2.2 i j = some r → ad' r = ad r) : pm_ct b ad' (n, g.2) σ τ i = pm_ct b ad g σ τ i := by
  have hm : ∀ j, (g.2.2 i j).map ad' = (g.2.2 i j).map ad := by
    intro j
    cases h : g.2.2 i j with
    | none => rfl
    | some r => show some (ad' r) = some (ad r); rw [hw j r h]
  unfold pm_ct
  simp only [hm]
theorem pm_ws_push {b : pB} {ad ad' : Nat → Nat} {g : pG} {σ : pI} {τ : pJ} (hw : pm_wf g) (h : ∀ i, i < g.1 → ad' i = ad i) {x : va_E} (hx : x = pm_ct b ad' (g.1 + 1, g.2) σ τ g.1) : pm_ws b ad g σ τ ++ [(ad' g.1, x)] = pm_ws b ad' (g.1 + 1, g.2) σ τ := by
  subst hx
  unfold pm_ws
  show _ = (List.range (g.1 + 1)).map _
  rw [List.range_succ, List.map_append]
  congr 1
  apply List.map_congr_left
  intro i hi
  rw [List.mem_range] at hi
  rw [h i hi, pm_ct_new fun j r hr => h r (hw i j r hi hr)]
theorem pm_D_of {b : pB} {ad : Nat → Nat} {g : pG} {σ : pI} {τ : pJ} (h : va_D (pm_A b) (pm_ws b ad g σ τ)) : pm_D b ad g.1 :=
  ⟨fun i j hi hj e => h.1 i j _ _ (pm_ws_get hi) (pm_ws_get hj) e, fun i hi => h.2 i _ (pm_ws_get hi)⟩
def pm_N (own : String) (idx ci : Nat) : Prop := ∃ (C : String) (T : u_T) (ty0 : Nat → FieldType), pm_cl[ci]? = some (C, T, pm_nf ci) ∧ Cond.classLink own idx C ∈ pm_words ∧ Cond.instantiable C (pm_nf ci) ∈ pm_words ∧ Cond.initialized C ∈ pm_words ∧ (∀ w ∈ u_ws C T (pm_nf ci), w ∈ pm_words) ∧
  (∀ a, a < pm_nf ci → parseFieldDescriptor (T a).2.2.1 = some (ty0 a)) ∧ ∀ a, a < pm_nf ci → defaultValue (ty0 a) = if pm_rf ci a = true then .null else .int 0
section PMN
variable {b : pB} {d : Nat} {k : pK} {pc : Nat} {f : Bool} {lo : List (Option pV)} {st : List pV} {g : pG} {σ : pI} {τ : pJ} {cu su mc ms : Nat} {Q : pG → pI → pJ → Prop}
theorem pm_new {idx ci : Nat} (hd : decode k.2.1 pc = .ok (.new idx, 3)) (hn : pm_N k.1.cls idx ci) (hs : g.2.1 g.1 = (0, ci)) (h0 : ∀ j, σ g.1 j = 0) (hr : ∀ j, g.2.2 g.1 j = none) (hw : pm_wf g) (hlo : lo.all (pm_lto g.1) = true) (hst : st.all (pm_lt g.1) = true) (hcu : cu + 1 ≤ mc) (hsu : su + pm_nf ci ≤ ms)
    (K : pm_Y b d k (pc + 3) f lo (pm_R g.1 :: st) (g.1 + 1, g.2) σ τ (cu + 1) (su + pm_nf ci) mc ms (.inr (.inr Q))) : pm_Y b d k pc f lo st g σ τ cu su mc ms (.inr (.inr Q)) := by
  intro p e R s m args below meth c H locs ls ad jk hF hR hI hL
  obtain ⟨C, T, ty0, n1, n2, n3, n4, n5, n6, n7⟩ := hn
  have hmc := hR.2.2.1
  have hms := hR.2.2.2
  refine va_new (own := k.1.cls) (ci := ci) (fs := (List.range (pm_nf ci)).map fun j => if pm_rf ci j = true then Value.null else Value.int 0) (C := C) (T := T) (N := pm_nf ci) hF.1 hF.2.1 hF.ws n5 ty0 n6 hF.own (hF.ws _ n2) (hF.ws _ n3) (hF.ws _ n4) hF.K hI.1 hI.2.1.to hI.2.2.1 (fun q h => h) n1 (fun j hj => ?_) (by omega) (by omega) hd (fun q H1 hP hD hS => ?_)
  · rw [n7 j hj]
    unfold vp_V
    rw [List.getD_eq_getElem?_getD, List.getElem?_map, List.getElem?_range hj]
    rfl
  · have ha : ∀ i, i < g.1 → va_up ad g.1 q i = ad i := fun i hi => if_neg (Nat.ne_of_lt hi)
    have hq : va_up ad g.1 q g.1 = q := if_pos rfl
    have hpush := pm_ws_push (b := b) (σ := σ) (τ := τ) (ad' := va_up ad g.1 q) hw ha (x := .inr (ci, (List.range (pm_nf ci)).map fun j => if pm_rf ci j = true then Value.null else Value.int 0)) (by
      rw [pm_ct_o (g := (g.1 + 1, g.2)) hs]
      congr 2
      apply List.map_congr_left
      intro j _
      show _ = if pm_rf ci j = true then va_rf ((g.2.2 g.1 j).map (va_up ad g.1 q)) else Value.int (σ g.1 j)
      rw [hr j, h0 j]
      rfl)
    rw [hq] at hpush
    rw [hpush] at hP hD
    have w := K p e R s m args below meth c H1 locs ls (va_up ad g.1 q) jk hF hR ⟨hP, pm_D_of (g := (g.1 + 1, g.2)) hD, hS, hI.2.2.2⟩ (pm_lt_lo ha hlo hL)
    rw [List.map_cons, pm_lt_map ha hst] at w
    have hq2 : pm_v (va_up ad g.1 q) b.2.2.2.2.2.1 jk (pm_R g.1) = .ref q := by
      show Value.ref (va_up ad g.1 q g.1) = _
      rw [hq]
    rw [hq2] at w
    exact pm_Wmono (fun t h => pm_end_mono (Nat.le_succ _) ha t h) w
theorem pm_newI {n : Nat} {x : Int32} (hd : decode k.2.1 pc = .ok (.newarray .int, 2)) (hwd : Cond.arrayClass .int ∈ pm_words) (hs : g.2.1 g.1 = (1, n)) (hx : x = nI n) (hn : n ≤ 1000) (h0 : ∀ j, σ g.1 j = 0) (hw : pm_wf g) (hlo : lo.all (pm_lto g.1) = true) (hst : st.all (pm_lt g.1) = true) (hcu : cu + 1 ≤ mc) (hsu : su + n ≤ ms)
    (K : pm_Y b d k (pc + 2) f lo (pm_R g.1 :: st) (g.1 + 1, g.2) σ τ (cu + 1) (su + n) mc ms (.inr (.inr Q))) : pm_Y b d k pc f lo (pm_I x :: st) g σ τ cu su mc ms (.inr (.inr Q)) := by
  intro p e R s m args below meth c H locs ls ad jk hF hR hI hL
  have hmc := hR.2.2.1
  have hms := hR.2.2.2
  subst hx
  refine va_newa (atype := .int) (ty := .int) (a0 := (n, .inl fun _ => 0)) (N' := n) hF.1 hF.2.1 (hF.ws _ hwd) rfl hF.K hI.1 hI.2.1.to hI.2.2.1 (fun q h => h) (fun cA => rfl) (nI_pos (by omega)) (nI_clamp (by omega)) (by show n * 4 ≤ 536870912; omega) (by omega) (by omega) hd (fun q cA H1 hK hP hD hS => ?_)
  have hcA : cA = b.2.2.2.2.1.1 := by
    have h1 : s.vm.findClass ("[" ++ FieldType.int.toString) = some cA := (hK.2 3 _ rfl).2
    have h2 : s.vm.findClass ("[" ++ FieldType.int.toString) = some b.2.2.2.2.1.1 := (hF.K.2 0 _ rfl).2
    exact Option.some.inj (h1.symm.trans h2)
  subst hcA
  have ha : ∀ i, i < g.1 → va_up ad g.1 q i = ad i := fun i hi => if_neg (Nat.ne_of_lt hi)
  have hq : va_up ad g.1 q g.1 = q := if_pos rfl
  have hpush := pm_ws_push (b := b) (σ := σ) (τ := τ) (ad' := va_up ad g.1 q) hw ha (x := .inl (b.2.2.2.2.1.1, n, .inl fun _ => 0)) (by
    rw [pm_ct_i (g := (g.1 + 1, g.2)) hs]
    congr 4
    funext j
    exact (h0 j).symm)
  rw [hq] at hpush
  rw [hpush] at hP hD
  have w := K p e R s m args below meth c H1 locs ls (va_up ad g.1 q) jk hF hR ⟨hP, pm_D_of (g := (g.1 + 1, g.2)) hD, hS, hI.2.2.2⟩ (pm_lt_lo ha hlo hL)
  rw [List.map_cons, pm_lt_map ha hst] at w
  have hq2 : pm_v (va_up ad g.1 q) b.2.2.2.2.2.1 jk (pm_R g.1) = .ref q := by
    show Value.ref (va_up ad g.1 q g.1) = _
    rw [hq]
  rw [hq2] at w
  exact pm_Wmono (fun t h => pm_end_mono (Nat.le_succ _) ha t h) w
end PMN
