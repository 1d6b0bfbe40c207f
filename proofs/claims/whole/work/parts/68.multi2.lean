theorem hw_ints : Cond.arrayClass .int ∈ pm_words := pm_mem 90 (by decide +kernel) (by decide +kernel)
theorem hw_longs : Cond.arrayClass .long ∈ pm_words := pm_mem 814 (by decide +kernel) (by decide +kernel)
theorem hw_W15 : Cond.classLink "RoommateHouse$Wishes" 15 "[[I" ∈ pm_words := pm_mem 69 (by decide +kernel) (by decide +kernel)
theorem hw_S18 : Cond.classLink "RoommateHouse$StableMatchings" 18 "[[I" ∈ pm_words := pm_mem 110 (by decide +kernel) (by decide +kernel)
theorem mf_top (s : State) (cA cI : ClassId) (f : JFrame) : ∀ i, mf_ (s.setTop f) cA cI i = (mf_ s cA cI i).setTop f
  | 0 => rfl
  | i + 1 => by
    show ((mf_ (s.setTop f) cA cI i).pushCell _).setCell _ _ = _
    rw [mf_top s cA cI f i]
    rfl
theorem mf_isTop {s : State} (cA cI : ClassId) (h : s.topJava?.isSome) : ∀ i, (mf_ s cA cI i).topJava?.isSome
  | 0 => h
  | i + 1 => mf_isTop (s := s) cA cI h i
section MS
variable {Q : Unit → Pre} {E : CtlPost} {e : Env} {d : Bool} {acts : List Action} {s : State} {cA cI : ClassId} {f : JFrame}
theorem mn_sem {index : Nat} {rest : List Value} {kA kI : Class} {comp : ClassId} (hs : s.topJava?.isSome) (hr : s.vm.classReady f.method.cls index cA) (hkA : s.vm.classes[cA]? = some kA) (hkindA : kA.kind = .array cI (.array .int)) (hk : s.vm.classes[cI]? = some kI) (hkind : kI.kind = .array comp .int)
    (hstack : f.stack = .int (nI 8) :: .int (nI 8) :: rest) (h1 : 8 ≤ e.platform.arrayLengthLimit) (h2 : 64 ≤ e.platform.maxHeapBytes) (h3 : s.heap.size + 9 ≤ e.platform.maxCells) (h4 : s.slotsUsed + 72 ≤ e.platform.maxSlots)
    (hq : ∀ d' acts', Q () d' acts' ((mf_ s cA cI 8).setTop { f with stack := .ref s.heap.size :: rest })) : wp (Op.multianewarray.sem index 2) Q E e d acts (s.setTop f) := by
  unfold Op.multianewarray.sem
  simp only [wp_bind', W.resolveClassAt_ready (State.method?_setTop f hs) hr]
  refine (Op.popN_top (s := s) (f := f) (E := E) (e := e) (d := d) (acts := acts) hs (args := [.int (nI 8), .int (nI 8)]) (rest := rest) hstack).mpr ?_
  simp only [List.mapM_cons, List.mapM_nil, wp_bind', wp_pure']
  refine mk_all (s := s.setTop { f with stack := rest }) hkA hkindA hk hkind h1 h2 h3 h4 (fun d' acts' => ?_)
  simp only [wp_bind', W.mark, W.pushRef]
  rw [mf_top]
  refine ⟨_, State.topJava?_setTop' _ (mf_isTop cA cI hs 8), ?_⟩
  rw [State.setTop_setTop]
  exact hq _ _
end MS
