/-! the rule for it -/
def pm_baseA (b : pB) : Prop := (∃ kA, b.2.1.vm.classes[b.2.2.2.2.1.2.1]? = some kA ∧ kA.kind = .array b.2.2.2.2.1.1 (.array .int)) ∧ (∃ kI comp, b.2.1.vm.classes[b.2.2.2.2.1.1]? = some kI ∧ kI.kind = .array comp .int) ∧ b.2.1.vm.findClass "[[I" = some b.2.2.2.2.1.2.1
def pm_rows (g : pG) : pG := (g.1 + 9, g.2.1, fun a c => if a = g.1 ∧ c < 8 then some (g.1 + 1 + c) else g.2.2 a c)
theorem mf_stand {p : Program} {l : Launch} {e : Env} {R : Room} {s : State} {m : MethodId} {args : Array Value} {below : List Frame} {meth : Method} {c : Code} {T : State} {locs : List Loc} {cells slots : Nat} (X : Stand p l e R s m args below meth c T locs cells slots) (cA cI : ClassId) :
    ∀ i, ∃ L : List Loc, Stand p l e R s m args below meth c (mf_ T cA cI i) (locs ++ L) (cells + 1 + i) (slots + 8 + 8 * i) ∧ ∀ q ∈ L, q.base = T.heap.size
  | 0 => by
    refine ⟨[], ?_, fun q hq => by cases hq⟩
    have h := X.pushed (mf_o cA T.heap.size 0)
    rw [show (mf_o cA T.heap.size 0).slots.size = 8 from arrV_size _ _ _] at h
    rw [List.append_nil]
    exact h
  | i + 1 => by
    obtain ⟨L, h, hL⟩ := mf_stand X cA cI i
    obtain ⟨f1, f2, -⟩ := mf_facts (s := T) (cA := cA) (cI := cI) i
    have h2 := h.pushed (mf_i cI)
    rw [show (mf_i cI).slots.size = 8 from arrV_size _ _ _] at h2
    have hcell : ((mf_ T cA cI i).pushCell (mf_i cI)).heap[T.heap.size]? = some (mf_o cA T.heap.size i) := by
      show ((mf_ T cA cI i).heap.push (mf_i cI))[T.heap.size]? = _
      rw [Array.getElem?_push, if_neg (by rw [f1]; omega)]
      exact f2
    have h3 := h2.stored hcell i (.ref (T.heap.size + 1 + i))
    rw [mf_o_s] at h3
    refine ⟨L ++ [⟨T.heap.size, i⟩], ?_, fun q hq => ?_⟩
    · rw [← List.append_assoc, show cells + 1 + (i + 1) = cells + 1 + i + 1 by omega, show slots + 8 + 8 * (i + 1) = slots + 8 + 8 * i + 8 by omega]
      exact h3
    · rcases List.mem_append.mp hq with z | z
      · exact hL q z
      · rw [List.mem_singleton.mp z]
theorem mn_cold {Q : Unit → Pre} {E : CtlPost} {e : Env} {d : Bool} {acts : List Action} {s : State} {f : JFrame} {index : Nat} {c : ClassId} {vm' : Vm} (hs : s.topJava?.isSome) (hg : (Jvm.resolveClass f.method.cls index).Gives e.toSetting s.vm (.ok c) vm') (hr : vm'.classReady f.method.cls index c) (hsz : vm'.classes.size ≤ s.vm.classes.size) :
    wp (Op.multianewarray.sem index 2) Q E e d acts (s.setTop f) ↔ wp (Op.multianewarray.sem index 2) Q E e d acts ((s.setVm vm').setTop f) := by
  simp only [Op.multianewarray.sem, wp_bind']
  exact W.resolveClassAt_transfer (s := s.setTop f) (State.method?_setTop f hs) hg hr hsz
theorem mn_steps {p : Program} {l : Launch} {e : Env} {R : Room} {s : State} {m : MethodId} {args : Array Value} {below : List Frame} {meth : Method} {c : Code} {T : State} {locs : List Loc} {cells slots : Nat} (X : Stand p l e R s m args below meth c T locs cells slots) (hexec : p.tables.exec = Jvm.exec) {cc : ByteArray} (hb : c.code = cc) {pc idx : Nat} (hd : decode cc pc = .ok (.multianewarray idx 2, 4)) {cA cI comp : ClassId} {vm₁ : Vm} {kA kI : Class}
    (hg : (Jvm.resolveClass m.cls idx).Gives e.toSetting T.vm (.ok cA) vm₁) (hr : vm₁.classReady m.cls idx cA) (hsz : vm₁.classes.size ≤ T.vm.classes.size) (hkA : vm₁.classes[cA]? = some kA) (hkindA : kA.kind = .array cI (.array .int)) (hk : vm₁.classes[cI]? = some kI) (hkind : kI.kind = .array comp .int)
    (h1 : 8 ≤ e.platform.arrayLengthLimit) (h2 : 64 ≤ e.platform.maxHeapBytes) (h3 : T.heap.size + 9 ≤ e.platform.maxCells) (h4 : T.slotsUsed + 72 ≤ e.platform.maxSlots) {ls : Array Slot} {rest : List Value} {target : State}
    (hrest : Steps p.tables e below ((mf_ (T.setVm vm₁) cA cI 8).setTop (F0 m (pc + 4) ls (.ref T.heap.size :: rest))) target) : Steps p.tables e below (T.setTop (F0 m pc ls (.int (nI 8) :: .int (nI 8) :: rest))) target := by
  refine Steps.instr (c := c) (by simpa using X.here) ?_
  have hdd : decode c.code (F0 m pc ls (.int (nI 8) :: .int (nI 8) :: rest)).pc = .ok (.multianewarray idx 2, 4) := by rw [hb]; exact hd
  rw [hdd]
  show wpRun (p.tables.exec (.multianewarray idx 2)) _ _ e _
  rw [hexec]
  unfold wpRun
  show wp (Op.multianewarray.sem idx 2) _ _ e false [] _
  refine (mn_cold (c := cA) (vm' := vm₁) X.here.top hg hr hsz).mpr (mn_sem (s := T.setVm vm₁) (kA := kA) (kI := kI) (comp := comp) (cA := cA) (cI := cI) (rest := rest) X.here.top hr hkA hkindA hk hkind rfl h1 h2 h3 h4 (fun d' acts' acts => ?_))
  have htp := mf_isTop (s := T.setVm vm₁) cA cI X.here.top 8
  generalize mf_ (T.setVm vm₁) cA cI 8 = U at htp hrest ⊢
  show Steps p.tables e below ((U.setTop _).modifyTopJava fun f => { f with pc := f.pc + 4 }) target
  rw [State.modifyTopJava_setTop]
  exact hrest
section MMP
variable {b : pB} {g : pG} {σ : pI} {τ : pJ} {ad ad' : Nat → Nat} {H H1 : Heap}
theorem mm_F (hrn : ∀ j, g.2.2 g.1 j = none) (ha2 : ∀ i, g.1 ≤ i → ad' i = H.size + (i - g.1)) (j : Nat) : va_rf (((pm_rows g).2.2 g.1 j).map ad') = if j < 8 then Value.ref (H.size + 1 + j) else Value.null := by
  by_cases hj : j < 8
  · rw [if_pos hj, show (pm_rows g).2.2 g.1 j = some (g.1 + 1 + j) from if_pos ⟨rfl, hj⟩]
    show Value.ref (ad' (g.1 + 1 + j)) = _
    rw [ha2 _ (by omega), show H.size + (g.1 + 1 + j - g.1) = H.size + 1 + j by omega]
  · rw [if_neg hj, show (pm_rows g).2.2 g.1 j = g.2.2 g.1 j from if_neg (fun z => hj z.2), hrn j]
    rfl
theorem mm_P (hs : g.2.1 g.1 = (2, 8)) (hsr : ∀ j, j < 8 → g.2.1 (g.1 + 1 + j) = (1, 8)) (h0 : ∀ j, j < 8 → ∀ x, σ (g.1 + 1 + j) x = 0) (hrn : ∀ j, g.2.2 g.1 j = none) (hw : pm_wf g) (hkeep : pm_P b ad g σ τ H1) (ha1 : ∀ i, i < g.1 → ad' i = ad i) (ha2 : ∀ i, g.1 ≤ i → ad' i = H.size + (i - g.1))
    (f2 : H1[H.size]? = some (mf_o b.2.2.2.2.1.2.1 H.size 8)) (f3 : ∀ j, j < 8 → H1[H.size + 1 + j]? = some (mf_i b.2.2.2.2.1.1)) : pm_P b ad' (pm_rows g) σ τ H1 := by
  intro i q hq
  obtain ⟨hi, rfl⟩ := pm_ws_some hq
  have hi : i < g.1 + 9 := hi
  rcases Nat.lt_or_ge i g.1 with h | h
  · have e1 : pm_ct b ad' (pm_rows g) σ τ i = pm_ct b ad g σ τ i := by
      have hrow : ∀ j, ((pm_rows g).2.2 i j).map ad' = (g.2.2 i j).map ad := by
        intro j
        rw [show (pm_rows g).2.2 i j = g.2.2 i j from if_neg (fun z => by omega)]
        cases hz : g.2.2 i j with
        | none => rfl
        | some r => show some (ad' r) = some (ad r); rw [ha1 r (hw i j r h hz)]
      unfold pm_ct
      simp only [hrow]
      rfl
    rw [e1, ha1 i h]
    exact hkeep i _ (pm_ws_get h)
  · rcases Nat.lt_or_ge g.1 i with h' | h'
    · obtain ⟨j, rfl⟩ : ∃ j, i = g.1 + 1 + j := ⟨i - (g.1 + 1), by omega⟩
      rw [pm_ct_i (g := pm_rows g) (hsr j (by omega)), ha2 _ h]
      show H1[H.size + (g.1 + 1 + j - g.1)]? = some (arrV b.2.2.2.2.1.1 8 (fun x => .int (σ (g.1 + 1 + j) x)))
      rw [show H.size + (g.1 + 1 + j - g.1) = H.size + 1 + j by omega, f3 j (by omega)]
      unfold mf_i
      rw [show (fun x => Value.int (σ (g.1 + 1 + j) x)) = fun _ => Value.int 0 from funext fun x => by rw [h0 j (by omega) x]]
    · have e1 : i = g.1 := by omega
      subst e1
      rw [ha2 _ (Nat.le_refl _), Nat.sub_self]
      have hct : pm_ct b ad' (pm_rows g) σ τ g.1 = .inl (b.2.2.2.2.1.2.1, 8, .inr (.inr (.inr (.inr fun j => ((pm_rows g).2.2 g.1 j).map ad')))) := by
        unfold pm_ct
        rw [show (pm_rows g).2.1 g.1 = (2, 8) from hs]
        rfl
      rw [hct]
      show H1[H.size]? = some (arrV b.2.2.2.2.1.2.1 8 (fun j => va_rf (((pm_rows g).2.2 g.1 j).map ad')))
      have hfun : (fun j => va_rf (((pm_rows g).2.2 g.1 j).map ad')) = fun j => if j < 8 then Value.ref (H.size + 1 + j) else Value.null := funext fun j => mm_F hrn ha2 j
      rw [hfun]
      exact f2
theorem mm_D (hD0 : pm_D b ad g.1) (hlt : ∀ i, i < g.1 → ad i < H.size) (hS1 : b.2.1.heap.size ≤ H.size) (ha1 : ∀ i, i < g.1 → ad' i = ad i) (ha2 : ∀ i, g.1 ≤ i → ad' i = H.size + (i - g.1)) : pm_D b ad' (pm_rows g).1 := by
  refine ⟨fun i j hi hj he => ?_, fun i hi => ?_⟩
  · rcases Nat.lt_or_ge i g.1 with h | h
    · have := hlt i h
      rcases Nat.lt_or_ge j g.1 with h' | h'
      · rw [ha1 i h, ha1 j h'] at he
        exact hD0.1 i j h h' he
      · rw [ha1 i h, ha2 j h'] at he
        omega
    · rcases Nat.lt_or_ge j g.1 with h' | h'
      · have := hlt j h'
        rw [ha2 i h, ha1 j h'] at he
        omega
      · rw [ha2 i h, ha2 j h'] at he
        omega
  · rcases Nat.lt_or_ge i g.1 with h | h
    · rw [ha1 i h]; exact hD0.2 i h
    · show b.2.1.heap.size ≤ ad' i
      rw [ha2 i h]
      omega
end MMP
section PMM
variable {b : pB} {d : Nat} {k : pK} {pc : Nat} {f : Bool} {lo : List (Option pV)} {st : List pV} {g : pG} {σ : pI} {τ : pJ} {cu su mc ms : Nat} {Q : pG → pI → pJ → Prop}
theorem pm_multi {idx : Nat} (hBA : pm_baseA b) (hd : decode k.2.1 pc = .ok (.multianewarray idx 2, 4)) (hl : Cond.classLink k.1.cls idx "[[I" ∈ pm_words) (hs : g.2.1 g.1 = (2, 8)) (hsr : ∀ j, j < 8 → g.2.1 (g.1 + 1 + j) = (1, 8)) (h0 : ∀ j, j < 8 → ∀ x, σ (g.1 + 1 + j) x = 0) (hrn : ∀ j, g.2.2 g.1 j = none) (hw : pm_wf g) (hlo : lo.all (pm_lto g.1) = true) (hst : st.all (pm_lt g.1) = true) (hcu : cu + 9 ≤ mc) (hsu : su + 72 ≤ ms)
    (K : pm_Y b d k (pc + 4) true lo (pm_R g.1 :: st) (pm_rows g) σ τ (cu + 9) (su + 72) mc ms (.inr (.inr Q))) : pm_Y b d k pc f lo (pm_I (nI 8) :: pm_I (nI 8) :: st) g σ τ cu su mc ms (.inr (.inr Q)) := by
  intro p e R s m args below meth c H locs ls ad jk hF hR hI hL T hT X
  have hmc := hR.2.2.1
  have hms := hR.2.2.2
  obtain ⟨⟨kA, hkA, hkindA⟩, ⟨kI, comp, hkI, hkindI⟩, hfn⟩ := hBA
  have hal := hF.warm.alike
  have hpl : e.platform.magicAccessors = ({} : Platform).magicAccessors := by rw [X.admits.platform]
  obtain ⟨cc, hfcc, hcl⟩ := Cond.classLink_spec hF.own (hF.ws _ hl) e.platform hpl
  have ecc : cc = b.2.2.2.2.1.2.1 := by
    rw [hal.findClass, hfn] at hfcc
    exact (Option.some.inj hfcc).symm
  subst ecc
  obtain ⟨hg₁, hwarm₁, hready₁⟩ := State.classEntry (e := e) X.warmed hcl
  have hszz : (T.vm.noted m.cls idx (.cls b.2.2.2.2.1.2.1)).classes.size ≤ T.vm.classes.size := by
    rw [Vm.size_noted]
    exact Nat.le_refl _
  generalize T.vm.noted m.cls idx (.cls b.2.2.2.2.1.2.1) = vm₁ at hg₁ hwarm₁ hready₁ hszz
  obtain ⟨kA1, hkA1, eA1⟩ := hal.2.2 _ _ hkA
  obtain ⟨kI1, hkI1, eI1⟩ := hal.2.2 _ _ hkI
  obtain ⟨kA2, hkA2, eA2⟩ := hwarm₁.alike.2.2 _ _ hkA1
  obtain ⟨kI2, hkI2, eI2⟩ := hwarm₁.alike.2.2 _ _ hkI1
  have X₁ := X.noted hwarm₁
  obtain ⟨L, X₂, hLb⟩ := mf_stand X₁ b.2.2.2.2.1.2.1 b.2.2.2.2.1.1 8
  obtain ⟨f1, f2, f3, f4, f5, f6⟩ := mf_facts (s := T.setVm vm₁) (cA := b.2.2.2.2.1.2.1) (cI := b.2.2.2.2.1.1) 8
  have hTh : (T.setVm vm₁).heap = H := hT
  rw [hTh] at f1 f2 f3 f4 hLb
  obtain ⟨hr1, hr2⟩ := X.roomAbove (a := 9) (b := 72) (by omega) (by omega)
  have hk : ∀ (q : Nat) (cell : Cell), H[q]? = some cell → (mf_ (T.setVm vm₁) b.2.2.2.2.1.2.1 b.2.2.2.2.1.1 8).heap[q]? = some cell := fun q cell hq => by
    rw [f4 q (Array.getElem?_eq_some_iff.mp hq).1]
    exact hq
  have hkeep := pm_P_keep hI.1 hk
  have hlt : ∀ i, i < g.1 → ad i < H.size := fun i hi => (hI.1 i _ (pm_ws_get hi)).lt
  have hS1 := hI.2.2.1.1
  generalize hH1 : (mf_ (T.setVm vm₁) b.2.2.2.2.1.2.1 b.2.2.2.2.1.1 8).heap = H1 at f1 f2 f3 f4 hk hkeep
  have hadd : ∃ ad' : Nat → Nat, (∀ i, i < g.1 → ad' i = ad i) ∧ ∀ i, g.1 ≤ i → ad' i = H.size + (i - g.1) := ⟨fun i => if i < g.1 then ad i else H.size + (i - g.1), fun i hi => if_pos hi, fun i hi => if_neg (by omega)⟩
  obtain ⟨ad', ha1, ha2⟩ := hadd
  have hP : pm_P b ad' (pm_rows g) σ τ H1 := mm_P hs hsr h0 hrn hw hkeep ha1 ha2 f2 f3
  have hD : pm_D b ad' (pm_rows g).1 := mm_D hI.2.1 hlt hS1 ha1 ha2
  have hS : va_S (pm_A b) b.2.1.heap H1 (locs ++ L) := by
    refine ⟨by rw [f1]; omega, fun q h1 h2 => ?_, fun q hq => ?_⟩
    · rw [f4 q (by omega)]
      exact hI.2.2.1.2.1 q h1 h2
    · rcases List.mem_append.mp hq with z | z
      · exact hI.2.2.1.2.2 q z
      · show b.2.1.heap.size ≤ q.base
        rw [hLb q z]
        exact hS1
  have X₃ : Stand p b.1 e R s m args below meth c (mf_ (T.setVm vm₁) b.2.2.2.2.1.2.1 b.2.2.2.2.1.1 8) (locs ++ L) (cu + 9) (su + 72) := X₂
  obtain ⟨t, a1, b1⟩ := K p e R s m args below meth c H1 (locs ++ L) ls ad' jk hF hR ⟨hP, hD, hS, fun h => by cases h⟩ (pm_lt_lo ha1 hlo hL) _ hH1 X₃
  rw [List.map_cons, pm_lt_map ha1 hst] at a1
  refine ⟨t, ?_, pm_end_mono (Nat.le_add_right g.1 9) ha1 t b1⟩
  have hadr : pm_v ad' b.2.2.2.2.2.1 jk (pm_R g.1) = .ref H.size := by
    show Value.ref (ad' g.1) = _
    rw [ha2 _ (Nat.le_refl _), Nat.sub_self]
    rfl
  rw [hadr] at a1
  refine mn_steps X hF.1 hF.2.1 hd hg₁ hready₁ hszz hkA2 (by rw [eA2, eA1]; exact hkindA) hkI2 (by rw [eI2, eI1]; exact hkindI) ?_ ?_ (by omega) (by omega) ?_
  · rw [Launch.admits_arrayLengthLimit X.admits]; decide
  · rw [Launch.admits_maxHeapBytes X.admits]; decide
  · have hT2 : T.heap.size = H.size := by rw [hT]
    rw [hT2]
    exact a1
end PMM
