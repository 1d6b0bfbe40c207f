/-! the first state: what its tables say -/
theorem ba_ls {s U : State} (hal : s.vm.Alike U.vm) (hh : ∀ q, q < s.heap.size → U.heap[q]? = s.heap[q]?) {O f d : String} {args a' : Array Value} (h : (Cond.laysStatic O f d).before args s = true) :
    (Cond.laysStatic O f d).before a' U = true ∧ ((Cond.isRef (.static O f d)).before args s = true → (Cond.isRef (.static O f d)).before a' U = true) := by
  obtain ⟨c, k, i, fd, a, cell, hc, hf, hst, hsta, hcell, hiss, hcls, hlt, hty⟩ := Cond.laysStatic_spec h
  obtain ⟨k', hi', hek⟩ := State.fieldFound?_setVm (s := s) hal hf
  have hi2 : U.fieldFound? O f d = some (c, k', i, fd) := by simpa only [State.fieldFound?, State.vm_setVm] using hi'
  have hst2 : k'.statics = some a := by rw [hek]; exact hsta
  have hcell2 : U.heap[a]? = some cell := (hh a (Array.getElem?_eq_some_iff.mp hcell).1).trans hcell
  have hv : cell.slots[fd.slot]? = some cell.slots[fd.slot] := Array.getElem?_eq_getElem hlt
  refine ⟨Cond.laysStatic_of (by rw [hal.findClass]; exact hc) hi2 hst hst2 hcell2 hiss hcls hlt (by rw [hek]; exact hty), fun h2 => ?_⟩
  have e1 := Term.static_eval (args := args) (first := s) (o := none) (idx := []) hf hst hsta hcell hiss hv
  have e2 := Term.static_eval (args := a') (first := U) (o := none) (idx := []) hi2 hst hst2 hcell2 hiss hv
  have e3 : (Cond.isRef (.static O f d)).before a' U = (Cond.isRef (.static O f d)).before args s := by simp only [Cond.before, Cond.holds, Cond.value, e1, e2]
  rw [e3]
  exact h2
theorem ba_X {b : pB} (hl : b.1.flags = flags0) (hw : ∀ w ∈ pm_hw, w.before b.2.2.1 b.2.1 = true) : pm_baseX b := by
  refine ⟨fun e he => ?_, fun s args hW hS w hw' => ?_⟩
  · rw [he.platform]
    show b.1.stackTraces = false
    unfold Launch.stackTraces
    rw [hl]
    decide +kernel
  · have hh : ∀ q, q < b.2.1.heap.size → s.heap[q]? = b.2.1.heap[q]? := fun q hq => hS.2.1 q hq (fun h => Nat.not_le_of_lt hq h)
    have g1 : pm_isr1.before b.2.2.1 b.2.1 = true := hw _ (List.mem_of_getElem? (i := 0) rfl)
    have g2 : pm_isr2.before b.2.2.1 b.2.1 = true := hw _ (List.mem_of_getElem? (i := 1) rfl)
    have g3 : pm_ls1.before b.2.2.1 b.2.1 = true := hw _ (List.mem_of_getElem? (i := 2) rfl)
    have g4 : pm_ls2.before b.2.2.1 b.2.1 = true := hw _ (List.mem_of_getElem? (i := 3) rfl)
    have h1 := ba_ls hW.alike hh (a' := args) g3
    have h2 := ba_ls hW.alike hh (a' := args) g4
    simp only [pm_hw, List.mem_cons, List.not_mem_nil, or_false] at hw'
    rcases hw' with rfl | rfl | rfl | rfl
    · exact h1.2 g1
    · exact h2.2 g2
    · exact h1.1
    · exact h2.1
theorem ba_self (vm : Vm) (c : ClassId) : vm.assignable c c = true := by
  show vm.assignableAux _ c c = true
  unfold Vm.assignableAux
  simp
theorem ba_not {args : Array Value} {s : State} {a b : String} (h : (Cond.not (.castable a b)).before args s = true) {c t : ClassId} (h1 : s.vm.findClass a = some c) (h2 : s.vm.findClass b = some t) : s.vm.assignable c t = false := by
  simp only [Cond.before, Cond.holds, Cond.value] at h
  simpa [h1, h2] using h
def ba_nos : List Cond := [.not (.castable "java/lang/IllegalArgumentException" "java/lang/IndexOutOfBoundsException"), .not (.castable "java/lang/IllegalStateException" "java/lang/IndexOutOfBoundsException"), .not (.castable "java/lang/IllegalStateException" "java/lang/IllegalArgumentException")]
theorem ba_asg {b : pB} (hn : ∀ w ∈ ba_nos, w.before b.2.2.1 b.2.1 = true) : pm_asg b := by
  intro X cX hX
  refine ⟨?_, fun Y cY hY hy => ?_⟩
  · have hX' := hX
    unfold Vm.findClass at hX'
    obtain ⟨hlt, -⟩ := Array.findIdx?_eq_some_iff_getElem.mp hX'
    exact ⟨_, Array.getElem?_eq_getElem hlt⟩
  · rcases hy with rfl | hy
    · cases hX.symm.trans hY
      rw [ba_self, decide_eq_true rfl]
    · unfold pm_no at hy
      simp only [List.mem_cons, List.not_mem_nil, or_false, Prod.mk.injEq] at hy
      rcases hy with ⟨rfl, rfl⟩ | ⟨rfl, rfl⟩ | ⟨rfl, rfl⟩
      · rw [ba_not (hn _ (List.mem_of_getElem? (i := 0) rfl)) hX hY]
        rfl
      · rw [ba_not (hn _ (List.mem_of_getElem? (i := 1) rfl)) hX hY]
        rfl
      · rw [ba_not (hn _ (List.mem_of_getElem? (i := 2) rfl)) hX hY]
        rfl
theorem ba_over {args : Array Value} {s : State} (h : (Cond.arrayOver (.array .int)).before args s = true) :
    ∃ comp c k, s.vm.findClass "[I" = some comp ∧ s.vm.classes[c]? = some k ∧ k.kind = .array comp (.array .int) ∧ s.vm.findClass "[[I" = some c := by
  have hn : (FieldType.array .int).toString = "[I" := by decide
  have hn2 : "[" ++ (FieldType.array .int).toString = "[[I" := by decide
  simp only [Cond.before, Cond.holds, Cond.value, beq_iff_eq, hn2] at h
  rw [hn] at h
  cases hc : s.vm.findClass "[I" with
  | none => simp [hc] at h
  | some comp =>
    simp only [hc, Option.bind_some, Option.bind_eq_some_iff, Option.map_eq_some_iff] at h
    obtain ⟨c, hi, k, hk, hb⟩ := h
    obtain ⟨hlt, hp, -⟩ := Array.findIdx?_eq_some_iff_getElem.mp hi
    have hkk : s.vm.classes[c] = k := (Array.getElem?_eq_some_iff.mp hk).2
    rw [hkk] at hp
    cases hkind : k.kind with
    | array component ty =>
      rw [hkind] at hb hp
      simp at hb hp
      exact ⟨comp, c, k, rfl, hk, by rw [hkind, hp, hb.1], hb.2⟩
    | _ => rw [hkind] at hb; simp at hb
theorem ba_kinds {args : Array Value} {s : State} (hts : ∀ w ∈ lw_tbl, w.before args s = true) : ∃ (D : va_G) (cI cII cJ : ClassId), va_K D pm_cl [(cI, .int), (cII, .array .int), (cJ, .long)] s ∧
    (∃ kA, s.vm.classes[cII]? = some kA ∧ kA.kind = .array cI (.array .int)) ∧ (∃ kI comp, s.vm.classes[cI]? = some kI ∧ kI.kind = .array comp .int) ∧ s.vm.findClass "[[I" = some cII := by
  have hw : ∀ w ∈ pm_words, w.before args s = true := fun w h => hts w (List.mem_filter.mp h).1
  obtain ⟨c0, i0, K0⟩ := u_known (n := 4) hw pm_uw0 (hts _ (List.mem_append_right _ (List.mem_of_getElem? (i := 14) (by decide +kernel))))
  obtain ⟨c1, i1, K1⟩ := u_known (n := 6) hw pm_uw1 (hts _ (List.mem_append_right _ (List.mem_of_getElem? (i := 22) (by decide +kernel))))
  obtain ⟨c2, i2, K2⟩ := u_known (n := 2) hw pm_uw2 (hts _ (List.mem_append_right _ (List.mem_of_getElem? (i := 50) (by decide +kernel))))
  obtain ⟨c3, i3, K3⟩ := u_known (n := 6) hw pm_uw3 (hts _ (List.mem_append_right _ (List.mem_of_getElem? (i := 63) (by decide +kernel))))
  obtain ⟨c4, i4, K4⟩ := u_known (n := 7) hw pm_uw4 (hts _ (List.mem_append_right _ (List.mem_of_getElem? (i := 89) (by decide +kernel))))
  obtain ⟨c5, i5, K5⟩ := u_known (n := 17) hw pm_uw5 (hts _ (List.mem_append_right _ (List.mem_of_getElem? (i := 551) (by decide +kernel))))
  obtain ⟨cI, kI, pI', f1, f2, f3⟩ := Cond.arrayClass_spec (hw _ hw_ints)
  obtain ⟨cJ, kJ, pJ', j1, j2, j3⟩ := Cond.arrayClass_spec (hw _ hw_longs)
  obtain ⟨cO, cII, kA, o1, o2, o3, o4⟩ := ba_over (hts _ (List.mem_of_getElem? (i := 70) (by decide +kernel)))
  have hI : s.vm.findClass "[I" = some cI := f1
  cases o1.symm.trans hI
  refine ⟨(fun c => match c with | 0 => c0 | 1 => c1 | 2 => c2 | 3 => c3 | 4 => c4 | _ => c5, fun c => match c with | 0 => i0 | 1 => i1 | 2 => i2 | 3 => i3 | 4 => i4 | _ => i5), cI, cII, cJ, ⟨fun c q hq => ?_, fun k q hq => ?_⟩, ⟨kA, o2, o3⟩, ⟨kI, pI', f2, f3⟩, o4⟩
  · match c, hq with
    | 0, hq => cases (show some ("RoommateHouse", pm_T0, 4) = some q from hq); exact K0
    | 1, hq => cases (show some ("RoommateHouse$Wishes", pm_T1, 6) = some q from hq); exact K1
    | 2, hq => cases (show some ("RoommateHouse$Draft", pm_T2, 2) = some q from hq); exact K2
    | 3, hq => cases (show some ("RoommateHouse$StableMatchings", pm_T3, 6) = some q from hq); exact K3
    | 4, hq => cases (show some ("RoommateHouse$Partition", pm_T4, 7) = some q from hq); exact K4
    | 5, hq => cases (show some ("RoommateHouseModel", pm_T5, 17) = some q from hq); exact K5
    | n + 6, hq => cases (show none = some q from hq)
  · match k, hq with
    | 0, hq => cases (show some (cI, FieldType.int) = some q from hq); exact ⟨fun N z => ⟨(fun k h => by cases h), kI, f2, pI', f3⟩, f1⟩
    | 1, hq => cases (show some (cII, FieldType.array .int) = some q from hq); exact ⟨fun N z => ⟨(fun k h => by cases h), kA, o2, cI, o3⟩, o4⟩
    | 2, hq => cases (show some (cJ, FieldType.long) = some q from hq); exact ⟨fun N z => ⟨(fun k h => by cases h), kJ, j2, pJ', j3⟩, j1⟩
    | n + 3, hq => cases (show none = some q from hq)
theorem ba_new {s t : State} {L : List Loc} {k n : Nat} (h : s.sameButNew t L k n) (hL : ∀ q ∈ L, s.heap.size ≤ q.base) : s.sameButNew t [] k n := by
  obtain ⟨h1, h2, h3, h4, h5, h6⟩ := h
  refine ⟨h1, h2, h3, h4, h5, fun a c hc => ?_⟩
  obtain ⟨c', g1, g2, g3, g4⟩ := h6 a c hc
  exact ⟨c', g1, g2, g3, fun i _ => g4 i (fun hm => absurd (hL _ hm) (Nat.not_le_of_lt (Array.getElem?_eq_some_iff.mp hc).1))⟩
