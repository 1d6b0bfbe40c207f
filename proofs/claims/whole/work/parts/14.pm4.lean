/-! calls -/
def pm_word (k : pK) : Cond := match k.2.2.2.2 with
  | [] => .code k.1 k.2.1 k.2.2.1 k.2.2.2.1
  | h :: t => .codeWith k.1 k.2.1 k.2.2.1 k.2.2.2.1 (h :: t)
def pm_kok (k : pK) : Prop := plainName k.1.cls = true ∧ k.2.2.1 ≤ 40 ∧ pm_word k ∈ pm_words ∧ Cond.initialized k.1.cls ∈ pm_words ∧ k.1.cls ≠ "java/lang/invoke/MethodHandle" ∧ k.1.cls ≠ "java/lang/invoke/VarHandle"
def pm_base (b : pB) : Prop := (∀ w ∈ pm_words, w.before b.2.2.1 b.2.1 = true) ∧ va_K b.2.2.2.1 pm_cl (pm_tys b) b.2.1 ∧ va_X b.2.2.2.2.2.1 b.2.2.2.2.2.2.1 b.2.2.2.2.2.2.2 b.2.1 b.2.1.heap
def pm_nj : pV → Bool
  | .inr (.inr (.inr false)) => false
  | _ => true
theorem pm_nj_eq {ad : Nat → Nat} {sc jk jk' : Nat} {v : pV} (h : pm_nj v = true) : pm_v ad sc jk v = pm_v ad sc jk' v := by
  rcases v with x | x | x | x
  · rfl
  · rfl
  · rfl
  · cases x
    · cases h
    · rfl
theorem pm_nj_map {ad : Nat → Nat} {sc jk jk' : Nat} {vs : List pV} (h : vs.all pm_nj = true) : vs.map (pm_v ad sc jk) = vs.map (pm_v ad sc jk') := by
  rw [List.all_eq_true] at h
  exact List.map_congr_left fun v hv => pm_nj_eq (h v hv)
theorem pm_words_at {b : pB} (hB : pm_base b) {s : State} (hW : b.2.1.WarmedH s.vm) {args : Array Value} : ∀ w ∈ pm_words, w.before args s = true := fun w hw => pm_at hW (pm_good w hw) (hB.1 w hw)
def pm_Pc (b : pB) (ad : Nat → Nat) (vs : List pV) (g : pG) (σ : pI) (τ : pJ) : Array Value → State → Prop := va_Pc (vs.map (pm_v ad b.2.2.2.2.2.1 0)) (fun U => b.2.1.WarmedH U.vm ∧ va_S (pm_A b) b.2.1.heap U.heap [] ∧ pm_P b ad g σ τ U.heap ∧ pm_D b ad g.1)
theorem pm_blind {b : pB} {ad : Nat → Nat} {vs : List pV} {g : pG} {σ : pI} {τ : pJ} : FrameBlind (pm_Pc b ad vs g σ τ) := fun _ _ _ _ h => ⟨h.1, h.2.1, h.2.2.1, h.2.2.2.1, h.2.2.2.2⟩
theorem pm_sl {ad : Nat → Nat} {sc jk : Nat} : ∀ (vs : List pV), vs.all pm_one = true → lg_sl (vs.map (pm_v ad sc jk)) = vs.map fun v => Slot.val (pm_v ad sc jk v)
  | [], _ => rfl
  | v :: t, h => by
    rw [List.all_cons, Bool.and_eq_true] at h
    have e : lg_sl ((v :: t).map (pm_v ad sc jk)) = (if (pm_v ad sc jk v).category = 2 then [.val (pm_v ad sc jk v), .second] else [.val (pm_v ad sc jk v)]) ++ lg_sl (t.map (pm_v ad sc jk)) := rfl
    rw [e, pm_sl t h.2, if_neg (by rw [pm_v_one h.1]; decide)]
    rfl
theorem pm_entry {b : pB} {ad : Nat → Nat} {n : Nat} {vs : List pV} (h1 : vs.all pm_one = true) (hn : vs.length ≤ n) :
    pm_lo b ad 0 n (vs.map some ++ List.replicate (n - vs.length) none) ((lg_sl (vs.map (pm_v ad b.2.2.2.2.2.1 0)) ++ List.replicate (n - (lg_sl (vs.map (pm_v ad b.2.2.2.2.2.1 0))).length) Slot.unset).toArray) := by
  have hl : (lg_sl (vs.map (pm_v ad b.2.2.2.2.2.1 0))).length = vs.length := by rw [pm_sl vs h1, List.length_map]
  have he := lv_entry (vs.map (pm_v ad b.2.2.2.2.2.1 0)) (n := n) (by rw [hl]; exact hn)
  refine ⟨he.1, he.2.1, fun i v hi => ?_⟩
  have hi2 : vs[i]? = some v := by
    rw [List.getElem?_append] at hi
    by_cases hlt : i < (vs.map some).length
    · rw [if_pos hlt, List.getElem?_map] at hi
      cases hv : vs[i]? with
      | none => rw [hv] at hi; cases hi
      | some w => rw [hv] at hi; exact congrArg some (Option.some.inj (Option.some.inj hi))
    · rw [if_neg hlt] at hi
      have := List.mem_of_getElem? hi
      rw [List.mem_replicate] at this
      exact absurd this.2 (by simp)
  refine ⟨?_, List.all_eq_true.mp h1 v (List.mem_of_getElem? hi2)⟩
  rw [List.getElem?_toArray, List.getElem?_append_left (by rw [hl]; exact (List.getElem?_eq_some_iff.mp hi2).1), pm_sl vs h1, List.getElem?_map, hi2]
  rfl
section PMC
variable {b : pB} {d : Nat} {k : pK} {g : pG} {σ : pI} {τ : pJ} {mc ms : Nat} {E : pE} {vs : List pV} {ad : Nat → Nat}
theorem pm_body (hB : pm_base b) (hC : pm_C b d k vs g σ τ mc ms E) (h1 : vs.all pm_one = true) (hn : vs.length ≤ k.2.2.1) {S : Spec} (hS : S.room = pm_rm d mc ms)
    (hpre : ∀ (args : Array Value) (s : State), S.pre.before args s = true → (pm_word k).before args s = true)
    {p : Program} {e : Env} {s : State} {m : MethodId} {args : Array Value} {below : List Frame} {meth : Method} {c : Code} {s₁ : State}
    (B : BodyLoose p b.1 k.1 S k.2.1 k.2.2.1 k.2.2.2.1 e s m args below meth c s₁) (hml : c.maxLocals = k.2.2.1) (hv : pm_Pc b ad vs g σ τ args s) :
    W p b.1 e S.room s m args below meth c s.heap [] 0 0 (pm_end b k E ad g below args s mc ms) (entryFrame m args k.2.2.1) := by
  obtain ⟨rfl, h2, h3, h4, h5⟩ := hv
  have hcode : meth.code = some c := (Stand.of_body B).code
  have hxt : c.exceptionTable.toList.map (fun h => (h.startPc, h.endPc, h.handlerPc, h.catchType)) = k.2.2.2.2 := by
    have hw := hpre _ _ B.pre
    unfold pm_word at hw
    cases hh : k.2.2.2.2 with
    | nil =>
      rw [hh] at hw
      obtain ⟨meth', c', q1, q2, -, -, -, -, q7, -⟩ := Cond.code_spec B.named hw
      cases B.method.symm.trans q1
      cases hcode.symm.trans q2
      rw [Array.isEmpty_iff] at q7
      rw [q7]
      rfl
    | cons x t =>
      rw [hh] at hw
      obtain ⟨m', meth', c', q0, q1, q2, -, -, q7, -⟩ := Cond.codeWith_spec hw
      cases B.named.symm.trans q0
      cases B.method.symm.trans q1
      cases hcode.symm.trans q2
      exact q7
  rw [lg_entry_eq]
  exact hC p e S.room s m _ below meth c s.heap [] _ ad 0
    ⟨B.exec, B.bytes, hml, findClass_of_methodNamed B.named, B.returns, B.notSynchronized, (name_of_methodNamed B.named B.method).1, hxt, pm_words_at hB h2, va_K.moved h2.alike hB.2.1, h2, h3, B.admits⟩
    (by rw [hS]; exact pm_rm_ok d mc ms) ⟨h4, h5, h3, fun _ => rfl⟩ (pm_entry h1 hn)
theorem pm_met (hB : pm_base b) (hk : pm_kok k) (hC : pm_C b d k vs g σ τ mc ms E) (h1 : vs.all pm_one = true) (hn : vs.length ≤ k.2.2.1) {Qc : Array Value → State → Outcome → State → Prop} {free : Addr → Prop}
    (hE : ∀ below args s, pm_end b k E ad g below args s mc ms = MQ below Qc args s mc ms free) : Met b.1 k.1 [pm_word k] (pm_rm d mc ms) (pm_Pc b ad vs g σ τ) Qc mc ms free := by
  have hp : ∀ (args : Array Value) (s : State), (headSpec [pm_word k] (pm_rm d mc ms)).pre.before args s = true → (pm_word k).before args s = true := fun args s h => atoms_spec (ws := [pm_word k]) h _ List.mem_cons_self
  cases hh : k.2.2.2.2 with
  | nil =>
    refine Met.ofW (cc := k.2.1) (maxL := k.2.2.1) (ret := k.2.2.2.1) (ws' := []) hk.1 (by unfold pm_word; rw [hh]) ?_
    intro p e s m args below meth c s₁ B hml hv
    have := pm_body hB hC h1 hn rfl hp B hml hv
    rw [hE] at this
    exact this
  | cons x t =>
    refine va_MetW (cc := k.2.1) (maxL := k.2.2.1) (ret := k.2.2.2.1) (hh := x :: t) (ws' := []) hk.1 (by unfold pm_word; rw [hh]) ?_
    intro p e s m args below meth c s₁ B hml hv
    have := pm_body hB hC h1 hn rfl hp B hml hv
    rw [hE] at this
    exact this
theorem pm_metT {X : String} (hB : pm_base b) (hk : pm_kok k) (hC : pm_C b d k vs g σ τ mc ms (.inr (.inl X))) (h1 : vs.all pm_one = true) (hn : vs.length ≤ k.2.2.1) :
    MetFree b.1 k.1 (headSpec [pm_word k] (pm_rm d mc ms)) (pm_Pc b ad vs g σ τ) (fun _ _ _ _ _ => True) (pm_Qt X mc ms) := by
  have hp : ∀ (args : Array Value) (s : State), (headSpec [pm_word k] (pm_rm d mc ms)).pre.before args s = true → (pm_word k).before args s = true := fun args s h => atoms_spec (ws := [pm_word k]) h _ List.mem_cons_self
  refine MetFree.of_bodyS (code := k.2.1) (maxLocals := k.2.2.1) (ret := k.2.2.2.1) hk.1 ?_ ?_
  · intro args s m h hn
    have hw := hp args s h
    unfold pm_word at hw
    cases hh : k.2.2.2.2 with
    | nil =>
      rw [hh] at hw
      obtain ⟨meth, c, q1, q2, q3, q4, q5, q6, -, -⟩ := Cond.code_spec hn hw
      exact ⟨meth, c, q1, q2, q3, q4, q5, q6⟩
    | cons x t =>
      rw [hh] at hw
      obtain ⟨m', meth, c, q0, q1, q2, q3, q4, -, q5, q6, -⟩ := Cond.codeWith_spec hw
      cases hn.symm.trans q0
      exact ⟨meth, c, q1, q2, q3, q4, q5, q6⟩
  · intro p e s m args below meth c s₁ B hml hv _
    have hh0 : s₁.heap = s.heap := by rw [B.state]; rfl
    obtain ⟨t, a1, o, b1, b2, b3⟩ := pm_body hB hC h1 hn rfl hp B hml hv s₁ hh0 (Stand.of_body B)
    exact ⟨t, o, a1, b1, b2, b3⟩
end PMC
section PMD
variable {b : pB} {d : Nat} {k k' : pK} {pc : Nat} {f : Bool} {lo : List (Option pV)} {rest : List pV} {g : pG} {σ : pI} {τ : pJ} {cu su mc ms mc' ms' : Nat} {E : pE}
variable {p : Program} {e : Env} {R : Room} {s : State} {m : MethodId} {args : Array Value} {below : List Frame} {meth : Method} {c : Code} {H : Heap} {locs : List Loc} {ls : Array Slot} {ad : Nat → Nat} {jk : Nat}
/-- behind a call that returns and makes no cell of the world -/
theorem pm_after {st0 : List Value} {a : Array Value} {wr : Bool} {Q : Option Int32 → pI → pJ → Prop}
    (hrun : va_Run p b.1 e R s m args below meth c H locs cu su mc' ms' (F0 m pc ls st0) (rest.map (pm_v ad b.2.2.2.2.2.1 jk)) (pm_Qr b k' ad g Q a) (fun q => wr = true ∧ pm_A b q))
    (hF : pm_fr b k p e s m args meth c) (hR : pm_room d mc ms R) (hI : pm_inv b ad f g σ τ H locs) (hL : pm_lo b ad jk k.2.2.1 lo ls)
    (hK : ∀ (v : Option Int32) (σ' : pI) (τ' : pJ), v.isSome = k'.2.2.2.1.isSome → Q v σ' τ' → pm_Y b d k (pc + 3) (f || wr) lo (v.toList.map pm_I ++ rest) g σ' τ' (cu + mc') (su + ms') mc ms E) :
    W p b.1 e R s m args below meth c H locs cu su (pm_end b k E ad g below args s mc ms) (F0 m pc ls st0) := by
  intro T hT X
  obtain ⟨v, st₀, t, T', L, h0, X', hL', e1, e2, ⟨v', σ', τ', hv, his, hq, hP', hS'⟩, st⟩ := hrun T hT X
  cases hv
  have hinv : pm_inv b ad (f || wr) g σ' τ' T'.heap (locs ++ L) := by
    refine ⟨by rw [e1]; exact hP', hI.2.1, ⟨by rw [e1]; exact hS'.1, by rw [e1]; exact hS'.2.1, fun q hq' => ?_⟩, fun hfw => ?_⟩
    · rcases List.mem_append.mp hq' with h | h
      · exact hI.2.2.1.2.2 q h
      · exact (hL' q h).2
    · rw [Bool.or_eq_false_iff] at hfw
      have hL0 : L = [] := List.eq_nil_iff_forall_not_mem.mpr fun q hq' => by
        have := (hL' q hq').1
        rw [hfw.2] at this
        cases this
      rw [hI.2.2.2 hfw.1, hL0]
      rfl
  obtain ⟨t2, a1, b1⟩ := hK v' σ' τ' his hq p e R s m args below meth c T'.heap (locs ++ L) ls ad jk hF hR hinv hL T' rfl X'
  refine ⟨t2, st t2 ?_, b1⟩
  have es : (v'.toList.map pm_I ++ rest).map (pm_v ad b.2.2.2.2.2.1 jk) = (v'.map Value.int).toList ++ rest.map (pm_v ad b.2.2.2.2.2.1 jk) := by
    cases v' <;> rfl
  rw [es] at a1
  exact a1
/-- the call's words: the entry idx of own's pool is the method k', of n parameters -/
def pm_CV (own : String) (idx : Nat) (k' : pK) (n : Nat) : Prop := Cond.methodLink own idx k'.1 ∈ pm_words ∧ Cond.instanceMethod k'.1 ∈ pm_words ∧ Cond.selects k'.1.cls k'.1 k'.1 ∈ pm_words ∧ (parseMethodDescriptor k'.1.desc).map (fun d => d.parameters.length) = some n ∧ pm_kok k' ∧ k'.2.2.2.2 = []
theorem pm_callB {n : Nat} {own : String} {idx : Nat} (hF : pm_fr b k p e s m args meth c) (hR : pm_room (d + 1) mc ms R) (hl : Cond.methodLink own idx k'.1 ∈ pm_words) (hp : (parseMethodDescriptor k'.1.desc).map (fun d => d.parameters.length) = some n) (hk : pm_kok k') (hx : k'.2.2.2.2 = []) :
    CallB R s args own idx k'.1 k'.2.1 k'.2.2.1 k'.2.2.2.1 [pm_word k'] (pm_rm d mc' ms') mc' ms' n := by
  have hw : pm_word k' = .code k'.1 k'.2.1 k'.2.2.1 k'.2.2.2.1 := by unfold pm_word; rw [hx]
  have hk2 := hk.2.1
  have hR1 := hR.1
  have hR2 := hR.2.1
  refine ⟨rfl, rfl, ?_, ?_, fun w hw' a' U hW => ?_, by rw [hw]; exact List.mem_cons_self, by rw [← hw]; exact hF.ws _ hk.2.2.1, hF.ws _ hk.2.2.2.1, hk.2.2.2.2, fun sig h => ?_, hF.ws _ hl⟩
  · show d + 7 + 1 ≤ R.frames
    omega
  · show 8 + (k'.2.2.1 + 11) + (64 * d + 120) ≤ R.locals
    omega
  · rw [List.mem_singleton] at hw'
    subst hw'
    exact pm_at hW (pm_good _ hk.2.2.1) (hF.ws _ hk.2.2.1)
  · rw [h] at hp
    exact (Option.some.inj hp).symm
theorem pm_cellAt {i ci : Nat} {C : String} {T : u_T} {N : Nat} (hF : pm_fr b k p e s m args meth c) (hP : pm_P b ad g σ τ H) (hs : g.2.1 i = (0, ci)) (hi : i < g.1) (hc : pm_cl[ci]? = some (C, T, N)) : ∃ cellB : Cell, H[ad i]? = some cellB ∧ cellB.vm.isStatics = false ∧ s.vm.findClass C = some cellB.cls := by
  have h := hP i _ (pm_ws_get hi)
  rw [pm_ct_o hs] at h
  obtain ⟨r, h1, cell, q1, q2, q3, q4⟩ := h
  refine ⟨cell, q1, by rw [q3]; rfl, ?_⟩
  rw [q2]
  exact (hF.K.1 ci _ hc).2.1
theorem pm_pre {vs : List pV} (hF : pm_fr b k p e s m args meth c) (hI : pm_inv b ad f g σ τ H locs) {U : State} (hU : U.heap = H) (hW : s.WarmedH U.vm) {av : List Value} (ha : av = vs.map (pm_v ad b.2.2.2.2.2.1 0)) : pm_Pc b ad vs g σ τ av.toArray U := by
  refine ⟨by rw [ha], State.WarmedH.trans hF.warm hW, ?_, by rw [hU]; exact hI.1, hI.2.1⟩
  rw [hU]
  exact ⟨hI.2.2.1.1, hI.2.2.1.2.1, fun q h => by cases h⟩
end PMD
section PMV
variable {b : pB} {d : Nat} {k k' : pK} {pc : Nat} {f : Bool} {lo : List (Option pV)} {rest : List pV} {g : pG} {σ : pI} {τ : pJ} {cu su mc ms mc' ms' : Nat} {E : pE}
theorem pm_callV {idx i ci : Nat} {vs stk : List pV} {T : u_T} {N : Nat} {wr : Bool} {Q : Option Int32 → pI → pJ → Prop} (hB : pm_base b) (hd : decode k.2.1 pc = .ok (.invokevirtual idx, 3)) (hc : pm_CV k.1.cls idx k' vs.length)
    (hC : pm_C b d k' (pm_R i :: vs) g σ τ mc' ms' (.inl (wr, Q))) (hs : g.2.1 i = (0, ci)) (hi : i < g.1) (hcl : pm_cl[ci]? = some (k'.1.cls, T, N))
    (hstk : stk = vs.reverse ++ pm_R i :: rest) (h1 : vs.all pm_one = true) (hj : vs.all pm_nj = true) (hn : vs.length + 1 ≤ k'.2.2.1) (hw : (rest.map pm_wt).sum ≤ 8) (hcu : cu + mc' ≤ mc) (hsu : su + ms' ≤ ms)
    (hK : ∀ (v : Option Int32) (σ' : pI) (τ' : pJ), v.isSome = k'.2.2.2.1.isSome → Q v σ' τ' → pm_Y b (d + 1) k (pc + 3) (f || wr) lo (v.toList.map pm_I ++ rest) g σ' τ' (cu + mc') (su + ms') mc ms E) :
    pm_Y b (d + 1) k pc f lo stk g σ τ cu su mc ms E := by
  intro p e R s m args below meth c H locs ls ad jk hF hR hI hL
  obtain ⟨c1, c2, c3, c4, c5, c6⟩ := hc
  have hM := pm_met (ad := ad) hB c5 hC (by rw [List.all_cons, h1]; rfl) (by rw [List.length_cons]; exact hn) (Qc := pm_Qr b k' ad g Q) (free := fun q => wr = true ∧ pm_A b q) (fun _ _ _ => rfl)
  have hmap : vs.map (pm_v ad b.2.2.2.2.2.1 jk) = vs.map (pm_v ad b.2.2.2.2.2.1 0) := pm_nj_map hj
  have hmc := hR.2.2.1
  have hms := hR.2.2.2
  refine pm_after (k' := k') (rest := rest) (va_runV (Ts := pm_words) (own := k.1.cls) (C := k'.1.cls) (n := vs.length) (b := ad i) (As := vs.map (pm_v ad b.2.2.2.2.2.1 jk)) ⟨hF.1, hF.2.1, hF.2.2.1, hF.own, hF.ws⟩ hM ⟨pm_callB hF hR c1 c4 c5 c6, hF.ws _ c2, hF.ws _ c3⟩ ⟨pm_blind, pm_cellAt hF hI.1 hs hi hcl, fun U hU hW => pm_pre hF hI hU hW (by rw [List.map_cons, hmap]; rfl)⟩ rfl (by rw [List.length_map]) hL.1 (by rw [hstk, List.map_append, List.map_reverse, List.map_cons]; rfl) (lv_room (by rw [pm_v_sum]; exact hw)) hd ⟨by omega, by omega⟩) hF hR hI hL hK
end PMV
