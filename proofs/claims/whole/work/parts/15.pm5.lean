/-! throwing: new, dup, <init>, athrow; out of a caller; into a handler -/
abbrev pm_names : List String := ["java/lang/RuntimeException", "java/lang/Exception"]
def pm_isr1 : Cond := .isRef (.static Bundle.tN "UNASSIGNED_STACK" Bundle.steD)
def pm_isr2 : Cond := .isRef (.static Bundle.tN "SUPPRESSED_SENTINEL" Bundle.listD)
def pm_ls1 : Cond := .laysStatic Bundle.tN "UNASSIGNED_STACK" Bundle.steD
def pm_ls2 : Cond := .laysStatic Bundle.tN "SUPPRESSED_SENTINEL" Bundle.listD
def pm_hw : List Cond := [pm_isr1, pm_isr2, pm_ls1, pm_ls2]
def pm_XW (own : String) (idx ic : Nat) (X : String) : Prop := Cond.classLink own idx X ∈ pm_words ∧ Cond.instantiable X 6 ∈ pm_words ∧ Cond.initialized X ∈ pm_words ∧ Bundle.fit X = true ∧ ∀ a ∈ Bundle.ownAtoms0 own ic X pm_names, a ∈ pm_words ∨ a ∈ pm_hw
/-- what a throw wants of the first state: no traces, and Throwable's two statics -/
def pm_baseX (b : pB) : Prop := (∀ e : Env, b.1.admits e → e.platform.stackTraces = false) ∧ ∀ (s : State) (args : Array Value), b.2.1.WarmedH s.vm → va_S (pm_A b) b.2.1.heap s.heap [] → ∀ w ∈ pm_hw, w.before args s = true
section PMT
variable {b : pB} {d : Nat} {k k' : pK} {pc : Nat} {f : Bool} {lo : List (Option pV)} {st rest : List pV} {g : pG} {σ : pI} {τ : pJ} {cu su mc ms mc' ms' : Nat} {E : pE}
theorem pm_throw {idx ic : Nat} {X : String} (hX : pm_baseX b) (hd0 : decode k.2.1 pc = .ok (.new idx, 3)) (hd3 : decode k.2.1 (pc + 3) = .ok (.dup, 1)) (hd4 : decode k.2.1 (pc + 4) = .ok (.invokespecial ic, 3)) (hd7 : decode k.2.1 (pc + 7) = .ok (.athrow, 1))
    (hw : pm_XW k.1.cls idx ic X) (hx : k.2.2.2.2 = []) (hst : (st.map pm_wt).sum ≤ 8) (hc : cu + 1 ≤ mc) (hs : su + 6 ≤ ms) : pm_Y b d k pc false lo st g σ τ cu su mc ms (.inr (.inl X)) := by
  intro p e R s m args below meth c H locs ls ad jk hF hR hI hL T0 hT0 X0
  have hlocs : locs = [] := hI.2.2.2 rfl
  subst hlocs
  have hle : s.heap.size ≤ H.size := by
    have h : s.heap.size ≤ (T0.setVm s.vm).heap.size := X0.same.2.1
    rw [← hT0]
    exact h
  obtain ⟨w1, w2, w3, w4, w5⟩ := hw
  have hR1 := hR.1
  have hR2 := hR.2.1
  have hR3 := hR.2.2.1
  have hR4 := hR.2.2.2
  refine (W.newc (Q := pm_end b k (.inr (.inl X)) ad g below args s mc ms) (g := F0 m pc ls (st.map (pm_v ad b.2.2.2.2.2.1 jk))) hF.1 hF.2.1 hF.own (hF.ws _ w1) (hF.ws _ w2) (hF.ws _ w3) rfl hd0 (by omega) (by omega) fun cC kC e1 e2 e3 e4 => ?_) T0 hT0 X0
  refine W.eq (g2 := F0 m (pc + 3) ls (.ref H.size :: st.map (pm_v ad b.2.2.2.2.2.1 jk))) rfl ?_
  refine lv_dup hF.1 hF.2.1 hd3 rfl ?_
  intro T hT X1
  have hlocks := hF.locks
  have hsr := hX.2 s args hF.warm hF.S
  have hxe : ∀ x ∈ c.exceptionTable.toList, covers x (pc + 4 + 3) = false := by
    have h := hF.xt
    rw [hx, List.map_eq_nil_iff] at h
    rw [h]
    intro x hx
    cases hx
  obtain ⟨U, hsteps, hrun, hend, hW, hsame, ce, hce, K⟩ := X1.ctorThrow0 hF.1 (hX.1 e hF.adm) (own := k.1.cls) (cls := X) (names := pm_names) (ic := ic) hF.own w4 (by decide +kernel)
    (fun a ha => by
      rcases w5 a ha with h | h
      · exact hF.ws a h
      · exact hsr a h)
    (fun x hx => by cases hx) e1 e2 (a := H.size) (by rw [hT]; simp [freshCell]) hle (g := F0 m (pc + 4) ls (.ref H.size :: .ref H.size :: st.map (pm_v ad b.2.2.2.2.2.1 jk))) rfl (hL.1.trans hF.2.2.1.symm) rfl rfl (rest := st.map (pm_v ad b.2.2.2.2.2.1 jk)) rfl
    (by rw [hF.2.1]; exact hd4) (by rw [hF.2.1]; exact hd7) hxe (by show 2 + 3 < R.frames; omega)
    (by
      rw [List.map_cons, List.sum_cons, pm_v_sum]
      show 2 * 0 + (1 + (st.map pm_wt).sum) + (13 * (2 + 1) + 41) ≤ R.locals
      omega)
  exact ⟨U, hsteps, .threw H.size, hrun, hend, H.size, rfl, hW, hsame.mono hc hs, hle, ce, hce, by rw [K.vm]; rfl, K.cls⟩
end PMT
section PMU
variable {b : pB} {d : Nat} {k k' : pK} {pc : Nat} {f : Bool} {lo : List (Option pV)} {st rest : List pV} {g : pG} {σ : pI} {τ : pJ} {cu su mc ms mc' ms' : Nat} {E : pE}
variable {p : Program} {e : Env} {R : Room} {s : State} {m : MethodId} {args : Array Value} {below : List Frame} {meth : Method} {c : Code} {H : Heap} {locs : List Loc} {ls : Array Slot} {ad : Nat → Nat} {jk : Nat}
theorem pm_thrown {idx i ci : Nat} {vs stk : List pV} {Tt : u_T} {N : Nat} {X : String} (hB : pm_base b) (hd : decode k.2.1 pc = .ok (.invokevirtual idx, 3)) (hc : pm_CV k.1.cls idx k' vs.length)
    (hC : pm_C b d k' (pm_R i :: vs) g σ τ mc' ms' (.inr (.inl X))) (hs : g.2.1 i = (0, ci)) (hi : i < g.1) (hcl : pm_cl[ci]? = some (k'.1.cls, Tt, N))
    (hstk : stk = vs.reverse ++ pm_R i :: rest) (h1 : vs.all pm_one = true) (hj : vs.all pm_nj = true) (hn : vs.length + 1 ≤ k'.2.2.1) (hw : (rest.map pm_wt).sum ≤ 8) (hcu : cu + mc' ≤ mc) (hsu : su + ms' ≤ ms)
    (hF : pm_fr b k p e s m args meth c) (hR : pm_room (d + 1) mc ms R) (hI : pm_inv b ad f g σ τ H locs) (hL : pm_lo b ad jk k.2.2.1 lo ls) {T : State} (hT : T.heap = H) (X0 : Stand p b.1 e R s m args below meth c T locs cu su) :
    ∃ (a : Nat) (T' : State), Stand p b.1 e R s m args below meth c T' locs (cu + mc') (su + ms') ∧ (∀ (q : Nat) (cell : Cell), H[q]? = some cell → T'.heap[q]? = some cell) ∧ H.size ≤ T'.heap.size ∧
      (H.size ≤ a ∧ ∃ ce : Cell, T'.heap[a]? = some ce ∧ ce.vm.isStatics = false ∧ s.vm.findClass X = some ce.cls) ∧
      ∀ target, Steps p.tables e below ((T'.setTop (F0 m pc ls (rest.map (pm_v ad b.2.2.2.2.2.1 jk)))).pushFrame (.throwing a)) target → Steps p.tables e below (T.setTop (F0 m pc ls (stk.map (pm_v ad b.2.2.2.2.2.1 jk)))) target := by
  obtain ⟨c1, c2, c3, c4, c5, c6⟩ := hc
  have hM := pm_metT (ad := ad) hB c5 hC (by rw [List.all_cons, h1]; rfl) (by rw [List.length_cons]; exact hn)
  have hmap : vs.map (pm_v ad b.2.2.2.2.2.1 jk) = vs.map (pm_v ad b.2.2.2.2.2.1 0) := pm_nj_map hj
  have hmc := hR.2.2.1
  have hms := hR.2.2.2
  have hR1 := hR.1
  have hR2 := hR.2.1
  have hk2 := c5.2.1
  have hwd : pm_word k' = .code k'.1 k'.2.1 k'.2.2.1 k'.2.2.2.1 := by unfold pm_word; rw [c6]
  have hcode : (Cond.code k'.1 k'.2.1 k'.2.2.1 k'.2.2.2.1).before args s = true := by rw [← hwd]; exact hF.ws _ c5.2.2.1
  obtain ⟨mk, methM, hnamed, hmethM, hstM, habM⟩ := Cond.instanceMethod_spec (hF.ws _ c2)
  obtain ⟨methM', cM, hmethM', hcM, -, hlM, -, -, -, hsigM⟩ := Cond.code_spec hnamed hcode
  cases hmethM.symm.trans hmethM'
  obtain ⟨c2', r2, m2, q1, q2, q3, q4, kP, hkP, hkPi⟩ := Cond.selects_spec (hF.ws _ c3)
  obtain ⟨cellB, hcB, hoB, hclB⟩ := pm_cellAt hF hI.1 hs hi hcl
  cases hclB.symm.trans q1
  cases (State.methodFound?_of_named hnamed c5.2.2.2.2).symm.trans q2
  cases hnamed.symm.trans q3
  have hselP : selectMethod e.platform s.vm cellB.cls mk = .method mk := by rw [Launch.admits_selectMethod X0.admits]; exact q4
  have hlen : (vs.map (pm_v ad b.2.2.2.2.2.1 jk)).length = methM.sig.parameters.length := by
    rw [List.length_map]
    rw [hsigM] at c4
    exact (Option.some.inj c4).symm
  have hdc : decode c.code (F0 m pc ls (stk.map (pm_v ad b.2.2.2.2.2.1 jk))).pc = .ok (.invokevirtual idx, 3) := by rw [hF.2.1]; exact hd
  obtain ⟨vm₁, X₁, hstep₁⟩ := X0.invokevirtual hF.1 hF.own (hF.ws _ c1) hnamed hmethM hstM hkP hkPi c5.2.2.2.2 (a := ad i) (cell := cellB) (by rw [hT]; exact hcB)
    (fun z h => by rw [h] at hoB; cases hoB) hselP hmethM habM hkP hkPi (g := F0 m pc ls (stk.map (pm_v ad b.2.2.2.2.2.1 jk))) rfl (argsL := vs.map (pm_v ad b.2.2.2.2.2.1 jk)) (rest := rest.map (pm_v ad b.2.2.2.2.2.1 jk)) hlen (by rw [hstk, List.map_append, List.map_reverse, List.map_cons]; rfl) hdc
  have hnamed₁ := X₁.named hnamed
  obtain ⟨kY, hkY, -⟩ := className_of_methodNamed hnamed₁
  have hwords : ∀ w ∈ pm_words, ∀ a' : Array Value, w.before a' (T.setVm vm₁) = true := fun w hw' a' => pm_at X₁.warmed (pm_good w hw') (hF.ws w hw')
  have hinitY : kY.init = .initialized := Cond.initialized_spec (args := #[]) (findClass_of_methodNamed hnamed₁) hkY (hwords _ c5.2.2.2.1 #[])
  obtain ⟨methY, cY, hmY, hcY, -, hlY, -, -, -, -⟩ := Cond.code_spec (args := #[]) hnamed₁ (by rw [← hwd]; exact hwords _ c5.2.2.1 #[])
  have hgen : ∃ gg, gg = F0 m pc ls (rest.map (pm_v ad b.2.2.2.2.2.1 jk)) := ⟨_, rfl⟩
  obtain ⟨gg, hgg⟩ := hgen
  have hav : ∃ av, av = (Value.ref (ad i) :: vs.map (pm_v ad b.2.2.2.2.2.1 jk)).toArray := ⟨_, rfl⟩
  obtain ⟨av, hav⟩ := hav
  have hgm : gg.method = m := by rw [hgg]
  have hAt : At (T.setVm vm₁) gg.method c below := by rw [hgm]; exact X₁.here
  have happ : (headSpec [pm_word k'] (pm_rm d mc' ms')).appliesLoose k'.1 e.platform ((T.setVm vm₁).calling gg mk av) = true := by
    refine Spec.appliesLoose_calling (g := gg) hAt (ig := .invokevirtual idx) (len := 3) (by rw [hgg, hF.2.1]; exact hd) hnamed₁ hkY hinitY
      (X₁.room_calling (g := gg) (R' := pm_rm d mc' ms') (by rw [hgg]; exact hL.1.trans hF.2.2.1.symm) hmY hcY (by show d + 7 + 1 ≤ R.frames; omega) ?_ (by show cu + mc' ≤ R.cells; omega) (by show su + ms' ≤ R.slots; omega)) ?_
    · rw [hlY, hgg]
      show 2 * 0 + ((rest.map (pm_v ad b.2.2.2.2.2.1 jk)).map fun v => v.category).sum + (k'.2.2.1 + 11) + (64 * d + 120) ≤ R.locals
      rw [pm_v_sum]
      omega
    · exact atoms_intro fun w hw' => by
        rw [List.mem_singleton] at hw'
        subst hw'
        exact hwords _ c5.2.2.1 _
  obtain ⟨mid, hmid⟩ := hAt.above
  have hfr : ((T.setVm vm₁).setTop gg).frames = (.java gg :: mid) ++ below := by rw [State.frames_setTop' gg hAt.top, hmid]; rfl
  have hPre : pm_Pc b ad (pm_R i :: vs) g σ τ av ((T.setVm vm₁).calling gg mk av) := by
    rw [hav]
    exact pm_blind _ _ _ _ (pm_pre (vs := pm_R i :: vs) hF hI (U := T.setVm vm₁) hT X₁.warmed (by rw [List.map_cons, hmap]; rfl))
  obtain ⟨o, s₂, hsteps, -, hend, hq⟩ := Steps.callFree hM p X₁.admits X₁.cas X₁.clock (acts := []) hfr happ hPre trivial
  have hq' : pm_Qt X mc' ms' av ((T.setVm vm₁).calling gg mk av) o s₂ := hq
  rw [State.frames_setTop' gg hAt.top] at hend
  obtain ⟨a, rfl, hW₂, ⟨e2, q2, q3, q4', q5, q6⟩, hxa, ce, hce1, hce2, hce3⟩ := hq'
  have hf₂ : s₂.frames = .throwing a :: .java gg :: (T.setVm vm₁).frames.tail := hend
  have e3 : s₂ = ({ ((T.setVm vm₁).calling gg mk av).setFrames s₂.frames with heap := s₂.heap, slotsUsed := s₂.slotsUsed } : State).setVm s₂.vm := by
    have h : s₂ = ({ s₂ with vm := ((T.setVm vm₁).calling gg mk av).vm } : State).setVm s₂.vm := rfl
    rw [e2] at h
    exact h
  have hW' : (T.setVm vm₁).WarmedH s₂.vm := hW₂
  obtain ⟨g₀, hg0⟩ := Option.isSome_iff_exists.mp hAt.top
  obtain ⟨r, hr⟩ := State.topJava?_eq_some.mp hg0
  have hs₂ : s₂ = ((({ T.setVm vm₁ with heap := s₂.heap, slotsUsed := s₂.slotsUsed } : State).setVm s₂.vm).setTop gg).pushFrame (.throwing a) := by
    have hr' : (({ T.setVm vm₁ with heap := s₂.heap, slotsUsed := s₂.slotsUsed } : State).setVm s₂.vm).frames = .java g₀ :: r := hr
    refine e3.trans ?_
    rw [hf₂, State.calling_eq hAt.top, State.setFrames_setFrames, State.pushFrame, State.frames_setTop _ hr', State.setTop_of_frames _ hr', State.setFrames_setFrames, hr]
    rfl
  have hsame : (T.setVm vm₁).sameButNew ({ T.setVm vm₁ with heap := s₂.heap, slotsUsed := s₂.slotsUsed } : State) [] mc' ms' := by
    refine ⟨?_, q2, q3, q4', q5, q6⟩
    obtain ⟨t, ht, -⟩ := State.frames_cons hr
    show ({ T.setVm vm₁ with heap := s₂.heap, slotsUsed := s₂.slotsUsed } : State) = { (T.setVm vm₁).setFrames (T.setVm vm₁).frames with heap := s₂.heap, slotsUsed := s₂.slotsUsed }
    rw [State.setFrames_self ht]
  have hX' : Stand p b.1 e R s m args below meth c (({ T.setVm vm₁ with heap := s₂.heap, slotsUsed := s₂.slotsUsed } : State).setVm s₂.vm) (locs ++ []) (cu + mc') (su + ms') :=
    ⟨X₁.admits, X₁.cas, X₁.clock, X₁.frames, X₁.room, X₁.hears, X₁.method, X₁.code, (X₁.here.setHeapUsed s₂.heap s₂.slotsUsed).setVm hW'.alike, X₁.tail, State.WarmedH.trans X₁.warmed hW', X₁.limits, X₁.bytes, X₁.same.trans (hsame.setVm s.vm)⟩
  rw [List.append_nil] at hX'
  refine ⟨a, _, hX', fun q cell hcell => ?_, ?_, ⟨?_, ce, hce1, hce2, ?_⟩, fun target h => ?_⟩
  · have hcell' : ((T.setVm vm₁).calling gg mk av).heap[q]? = some cell := by
      show T.heap[q]? = some cell
      rw [hT]; exact hcell
    obtain ⟨c', h1', h2', h3', h4'⟩ := q6 q cell hcell'
    have : c' = cell := by
      rw [h2']
      have hsl : c'.slots = cell.slots := by
        apply Array.ext_getElem?
        intro j
        exact h4' j (fun z => by cases z)
      rw [hsl]
    rw [← this]
    exact h1'
  · have h : T.heap.size ≤ s₂.heap.size := q2
    rw [← hT]
    exact h
  · have h : T.heap.size ≤ a := hxa
    rw [← hT]
    exact h
  · have h : (T.setVm vm₁).vm.findClass X = some ce.cls := hce3
    rw [X₁.warmed.alike.findClass] at h
    exact h
  · refine hstep₁ target fun acts => ?_
    rw [doInvoke_state]
    refine Steps.trans ?_ (show Steps p.tables e below ((((({ T.setVm vm₁ with heap := s₂.heap, slotsUsed := s₂.slotsUsed } : State).setVm s₂.vm)).setTop gg).pushFrame (.throwing a)) target by rw [hgg]; exact h)
    rw [← hs₂]
    have hsteps' := hsteps
    rw [hgg, hav] at hsteps'
    exact hsteps'
theorem pm_P_keep {H' : Heap} (hP : pm_P b ad g σ τ H) (hk : ∀ (q : Nat) (cell : Cell), H[q]? = some cell → H'[q]? = some cell) : pm_P b ad g σ τ H' := by
  intro i q hq
  have h := hP i q hq
  obtain ⟨a, x⟩ := q
  cases x with
  | inl y => exact hk _ _ h
  | inr y =>
    obtain ⟨r, h1, cell, h2, h3⟩ := h
    exact ⟨r, h1, cell, hk _ _ h2, h3⟩
theorem pm_S_keep {A : Nat → Prop} {H0 H' : Heap} (hS : va_S A H0 H locs) (hk : ∀ (q : Nat) (cell : Cell), H[q]? = some cell → H'[q]? = some cell) (hz : H.size ≤ H'.size) : va_S A H0 H' locs := by
  refine ⟨Nat.le_trans hS.1 hz, fun q h1 h2 => ?_, hS.2.2⟩
  have h3 := hS.2.1 q h1 h2
  have h4 : q < H.size := Nat.lt_of_lt_of_le h1 hS.1
  rw [← h3, hk q H[q] (Array.getElem?_eq_getElem h4), Array.getElem?_eq_getElem h4]
end PMU
section PMW
variable {b : pB} {d : Nat} {k k' : pK} {pc : Nat} {lo : List (Option pV)} {st rest : List pV} {g : pG} {σ : pI} {τ : pJ} {cu su mc ms mc' ms' : Nat} {E : pE}
/-- a callee throws, no handler here: so does the caller -/
theorem pm_callVT {idx i ci : Nat} {vs stk : List pV} {Tt : u_T} {N : Nat} {X : String} (hB : pm_base b) (hd : decode k.2.1 pc = .ok (.invokevirtual idx, 3)) (hc : pm_CV k.1.cls idx k' vs.length)
    (hC : pm_C b d k' (pm_R i :: vs) g σ τ mc' ms' (.inr (.inl X))) (hs : g.2.1 i = (0, ci)) (hi : i < g.1) (hcl : pm_cl[ci]? = some (k'.1.cls, Tt, N)) (hx : k.2.2.2.2 = [])
    (hstk : stk = vs.reverse ++ pm_R i :: rest) (h1 : vs.all pm_one = true) (hj : vs.all pm_nj = true) (hn : vs.length + 1 ≤ k'.2.2.1) (hw : (rest.map pm_wt).sum ≤ 8) (hcu : cu + mc' ≤ mc) (hsu : su + ms' ≤ ms) :
    pm_Y b (d + 1) k pc false lo stk g σ τ cu su mc ms (.inr (.inl X)) := by
  intro p e R s m args below meth c H locs ls ad jk hF hR hI hL T hT X0
  have hlocs : locs = [] := hI.2.2.2 rfl
  subst hlocs
  obtain ⟨a, T', X', hk, hz, ⟨ha, ce, hce1, hce2, hce3⟩, hst⟩ := pm_thrown hB hd hc hC hs hi hcl hstk h1 hj hn hw hcu hsu hF hR hI hL hT X0
  have hlocks := hF.locks
  have hxe : ∀ x ∈ c.exceptionTable.toList, covers x pc = false := by
    have h := hF.xt
    rw [hx, List.map_eq_nil_iff] at h
    rw [h]
    intro x hx
    cases hx
  obtain ⟨l1, l2, l3, l4, l5⟩ := X'.leaveThrown a (g := F0 m pc ls (rest.map (pm_v ad b.2.2.2.2.2.1 jk))) rfl rfl rfl hxe
  have hle : s.heap.size ≤ H.size := by
    have h : s.heap.size ≤ (T.setVm s.vm).heap.size := X0.same.2.1
    rw [← hT]
    exact h
  exact ⟨_, hst _ l1, .threw a, l2, l3, a, rfl, l4, l5.mono hcu hsu, Nat.le_trans hle ha, ce, hce1, hce2, hce3⟩
end PMW
