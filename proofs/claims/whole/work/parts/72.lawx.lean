/-! the law's beginning: it makes cells and returns a number -/
def pm_X (b : pB) (d : Nat) (k : pK) (pc : Nat) (f : Bool) (lo : List (Option pV)) (st : List pV) (g : pG) (σ : pI) (τ : pJ) (cu su mc ms : Nat) (Q : Option Int32 → pI → pJ → Prop) : Prop :=
  ∀ (p : Program) (e : Env) (R : Room) (s : State) (m : MethodId) (args : Array Value) (below : List Frame) (meth : Method) (c : Code) (H : Heap) (locs : List Loc) (ls : Array Slot) (ad : Nat → Nat) (jk : Nat),
    pm_fr b k p e s m args meth c → pm_room d mc ms R → pm_inv b ad f g σ τ H locs → pm_lo b ad jk k.2.2.1 lo ls →
    W p b.1 e R s m args below meth c H locs cu su (pm_end b k (.inl (true, Q)) ad (0, g.2) below args s mc ms) (F0 m pc ls (st.map (pm_v ad b.2.2.2.2.2.1 jk)))
section LX
variable {b : pB} {d : Nat} {k k' : pK} {pc : Nat} {f : Bool} {lo : List (Option pV)} {st rest : List pV} {g : pG} {σ : pI} {τ : pJ} {cu su mc ms mc' ms' : Nat} {Q : Option Int32 → pI → pJ → Prop} {Q' : pG → pI → pJ → Prop}
theorem X_end {ad ad' : Nat → Nat} {g g' : pG} {below : List Frame} {args : Array Value} {s t : State} (h : pm_end b k (.inl (true, Q)) ad g below args s mc ms t) : pm_end b k (.inl (true, Q)) ad' (0, g'.2) below args s mc ms t := by
  obtain ⟨o, h3, h4, ⟨v, σ, τ, q1, q2, q3, q4, q5⟩, h6⟩ := h
  exact ⟨o, h3, h4, ⟨v, σ, τ, q1, q2, q3, fun i q hq => absurd (pm_ws_some hq).1 (Nat.not_lt_zero i), q5⟩, h6⟩
theorem X_of (K : pm_Y b d k pc f lo st g σ τ cu su mc ms (.inl (true, Q))) : pm_X b d k pc f lo st g σ τ cu su mc ms Q := by
  intro p e R s m args below meth c H locs ls ad jk hF hR hI hL
  exact pm_Wmono (fun t h => X_end (g' := g) h) (K p e R s m args below meth c H locs ls ad jk hF hR hI hL)
theorem X_iconst {z : Int} (v : Int32) (hd : decode k.2.1 pc = .ok (.iconst z, 1)) (hv : Int32.ofInt z = v) (K : pm_X b d k (pc + 1) f lo (pm_I v :: st) g σ τ cu su mc ms Q) : pm_X b d k pc f lo st g σ τ cu su mc ms Q := by
  subst hv
  intro p e R s m args below meth c H locs ls ad jk hF hR hI hL
  exact lv_iconst hF.1 hF.2.1 hd rfl (K _ _ _ _ _ _ _ _ _ _ _ _ _ _ hF hR hI hL)
theorem X_new {idx ci : Nat} (hd : decode k.2.1 pc = .ok (.new idx, 3)) (hn : pm_N k.1.cls idx ci) (hs : g.2.1 g.1 = (0, ci)) (h0 : ∀ j, σ g.1 j = 0) (hr : ∀ j, g.2.2 g.1 j = none) (hw : pm_wf g) (hlo : lo.all (pm_lto g.1) = true) (hst : st.all (pm_lt g.1) = true) (hcu : cu + 1 ≤ mc) (hsu : su + pm_nf ci ≤ ms)
    (K : pm_X b d k (pc + 3) f lo (pm_R g.1 :: st) (g.1 + 1, g.2) σ τ (cu + 1) (su + pm_nf ci) mc ms Q) : pm_X b d k pc f lo st g σ τ cu su mc ms Q := by
  intro p e R s m args below meth c H locs ls ad jk hF hR hI hL
  obtain ⟨C, T, ty0, n1, n2, n3, n4, n5, n6, n7⟩ := hn
  have hmc := hR.2.2.1
  have hms := hR.2.2.2
  refine va_new (own := k.1.cls) (ci := ci) (fs := (List.range (pm_nf ci)).map fun j => if pm_rf ci j = true then Value.null else Value.int 0) (C := C) (T := T) (N := pm_nf ci) hF.1 hF.2.1 hF.ws n5 ty0 n6 hF.own (hF.ws _ n2) (hF.ws _ n3) (hF.ws _ n4) hF.K hI.1 hI.2.1.to hI.2.2.1 (fun q h => h) n1 (fun j hj => ?_) (by omega) (by omega) hd (fun q H1 hP hD hS => ?_)
  · rw [n7 j hj]
    unfold vp_V
    rw [List.getD_eq_getElem?_getD, List.getElem?_map, List.getElem?_range hj]
    rfl
  · have ha : ∀ i, i < g.1 → va_up ad g.1 q i = ad i := fun i hi => if_neg (Nat.ne_of_lt hi)
    have hq : va_up ad g.1 q g.1 = q := if_pos rfl
    have hpush := pm_ws_push (b := b) (σ := σ) (τ := τ) (ad' := va_up ad g.1 q) hw ha (x := .inr (ci, (List.range (pm_nf ci)).map fun j => if pm_rf ci j = true then Value.null else Value.int 0)) (by
      rw [pm_ct_o (g := (g.1 + 1, g.2)) hs]
      congr 2
      apply List.map_congr_left
      intro j _
      show _ = if pm_rf ci j = true then va_rf ((g.2.2 g.1 j).map (va_up ad g.1 q)) else Value.int (σ g.1 j)
      rw [hr j, h0 j]
      rfl)
    rw [hq] at hpush
    rw [hpush] at hP hD
    have w := K p e R s m args below meth c H1 locs ls (va_up ad g.1 q) jk hF hR ⟨hP, pm_D_of (g := (g.1 + 1, g.2)) hD, hS, hI.2.2.2⟩ (pm_lt_lo ha hlo hL)
    rw [List.map_cons, pm_lt_map ha hst] at w
    have hq2 : pm_v (va_up ad g.1 q) b.2.2.2.2.2.1 jk (pm_R g.1) = .ref q := by
      show Value.ref (va_up ad g.1 q g.1) = _
      rw [hq]
    rw [hq2] at w
    exact pm_Wmono (fun t h => X_end (g' := g) h) w
theorem X_after {st0 : List Value} {a : Array Value}
    {p : Program} {e : Env} {R : Room} {s : State} {m : MethodId} {args : Array Value} {below : List Frame} {meth : Method} {c : Code} {H : Heap} {locs : List Loc} {ls : Array Slot} {ad : Nat → Nat} {jk : Nat} (hrun : va_Run p b.1 e R s m args below meth c H locs cu su mc' ms' (F0 m pc ls st0) (rest.map (pm_v ad b.2.2.2.2.2.1 jk)) (pm_Qn b ad g Q' a) (pm_A b))
    (hF : pm_fr b k p e s m args meth c) (hR : pm_room d mc ms R) (hI : pm_inv b ad f g σ τ H locs) (hL : pm_lo b ad jk k.2.2.1 lo ls) (hlo : lo.all (pm_lto g.1) = true) (hst : rest.all (pm_lt g.1) = true)
    (hK : ∀ (g' : pG) (σ' : pI) (τ' : pJ), Q' g' σ' τ' → pm_X b d k (pc + 3) true lo rest g' σ' τ' (cu + mc') (su + ms') mc ms Q) :
    W p b.1 e R s m args below meth c H locs cu su (pm_end b k (.inl (true, Q)) ad (0, g.2) below args s mc ms) (F0 m pc ls st0) := by
  intro T hT X
  obtain ⟨v, st₀, t, T', L, h0, X', hL', e1, e2, ⟨ad', g', σ', τ', hv, hq, hg, had, hP', hD', hS'⟩, st⟩ := hrun T hT X
  cases hv
  have hinv : pm_inv b ad' true g' σ' τ' T'.heap (locs ++ L) := by
    refine ⟨by rw [e1]; exact hP', hD', ⟨by rw [e1]; exact hS'.1, by rw [e1]; exact hS'.2.1, fun q hq' => ?_⟩, fun h => by cases h⟩
    rcases List.mem_append.mp hq' with h | h
    · exact hI.2.2.1.2.2 q h
    · exact hL' q h
  obtain ⟨t2, a1, b1⟩ := hK g' σ' τ' hq p e R s m args below meth c T'.heap (locs ++ L) ls ad' jk hF hR hinv (pm_lt_lo had hlo hL) T' rfl X'
  rw [pm_lt_map had hst] at a1
  exact ⟨t2, st t2 a1, X_end (g' := g) b1⟩
theorem X_callI {idx i : Nat} {vs stk : List pV} (hB : pm_base b) (hd : decode k.2.1 pc = .ok (.invokespecial idx, 3)) (hc : pm_CI k.1.cls idx k' vs.length)
    (hC : pm_C b d k' (pm_R i :: vs) g σ τ mc' ms' (.inr (.inr Q'))) (hstk : stk = vs.reverse ++ pm_R i :: rest) (h1 : vs.all pm_one = true) (hj : vs.all pm_nj = true) (hn : vs.length + 1 ≤ k'.2.2.1) (hw : (rest.map pm_wt).sum ≤ 8) (hcu : cu + mc' ≤ mc) (hsu : su + ms' ≤ ms)
    (hlo : lo.all (pm_lto g.1) = true) (hst : rest.all (pm_lt g.1) = true)
    (hK : ∀ (g' : pG) (σ' : pI) (τ' : pJ), Q' g' σ' τ' → pm_X b (d + 1) k (pc + 3) true lo rest g' σ' τ' (cu + mc') (su + ms') mc ms Q) :
    pm_X b (d + 1) k pc f lo stk g σ τ cu su mc ms Q := by
  intro p e R s m args below meth c H locs ls ad jk hF hR hI hL
  obtain ⟨c1, c2, c4, c5, c6, c7, c8⟩ := hc
  have hM := pm_met (ad := ad) hB c5 hC (by rw [List.all_cons, h1]; rfl) (by rw [List.length_cons]; exact hn) (Qc := pm_Qn b ad g Q') (free := pm_A b) (fun _ _ _ => rfl)
  have hmap : vs.map (pm_v ad b.2.2.2.2.2.1 jk) = vs.map (pm_v ad b.2.2.2.2.2.1 0) := pm_nj_map hj
  have hmc := hR.2.2.1
  have hms := hR.2.2.2
  have hcb : CallB R s args k.1.cls idx k'.1 k'.2.1 k'.2.2.1 k'.2.2.2.1 [pm_word k'] (pm_rm d mc' ms') mc' ms' vs.length := pm_callB hF hR c1 c4 c5 c6
  rw [c8] at hcb
  exact X_after (rest := rest) (va_runI (Ts := pm_words) (own := k.1.cls) (n := vs.length) (b := ad i) (As := vs.map (pm_v ad b.2.2.2.2.2.1 jk)) ⟨hF.1, hF.2.1, hF.2.2.1, hF.own, hF.ws⟩ hM ⟨hcb, c7, hF.ws _ c2⟩ ⟨pm_blind, fun U hU hW => pm_pre hF hI hU hW (by rw [List.map_cons, hmap]; rfl)⟩ rfl (by rw [List.length_map]) hL.1 (by rw [hstk, List.map_append, List.map_reverse, List.map_cons]; rfl) (lv_room (by rw [pm_v_sum]; exact hw)) hd ⟨by omega, by omega⟩) hF hR hI hL hlo hst hK
end LX
