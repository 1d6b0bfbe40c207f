/-! an array of rows is made -/
def mf_o (cA : ClassId) (a i : Nat) : Cell := arrV cA 8 (fun j => if j < i then .ref (a + 1 + j) else .null)
def mf_i (cI : ClassId) : Cell := arrV cI 8 (fun _ => .int 0)
def mf_ (s : State) (cA cI : ClassId) : Nat → State
  | 0 => s.pushCell (mf_o cA s.heap.size 0)
  | i + 1 => ((mf_ s cA cI i).pushCell (mf_i cI)).setCell s.heap.size (mf_o cA s.heap.size (i + 1))
theorem mf_o_0 (cA : ClassId) (a : Nat) : ({ cls := cA, slots := Array.replicate 8 .null, vm := .none } : Cell) = mf_o cA a 0 := by
  rw [arrV_new]
  rfl
theorem mf_i_0 (cI : ClassId) : ({ cls := cI, slots := Array.replicate 8 (.int 0), vm := .none } : Cell) = mf_i cI := arrV_new cI 8 (.int 0)
theorem mf_o_s (cA : ClassId) (a i : Nat) : (mf_o cA a i).setSlot i (.ref (a + 1 + i)) = mf_o cA a (i + 1) := by
  unfold mf_o
  rw [arrV_store]
  refine congrArg (arrV cA 8) (funext fun j => ?_)
  unfold updV
  by_cases e : j = i
  · rw [if_pos e, if_pos (by omega), e]
  · rw [if_neg e]
    show (if j < i then Value.ref (a + 1 + j) else Value.null) = _
    by_cases h : j < i
    · rw [if_pos h, if_pos (by omega)]
    · rw [if_neg h, if_neg (by omega)]
section MN
variable {s : State} {cA cI : ClassId}
theorem mf_facts : ∀ i, (mf_ s cA cI i).heap.size = s.heap.size + 1 + i ∧ (mf_ s cA cI i).heap[s.heap.size]? = some (mf_o cA s.heap.size i) ∧ (∀ j, j < i → (mf_ s cA cI i).heap[s.heap.size + 1 + j]? = some (mf_i cI)) ∧ (∀ q, q < s.heap.size → (mf_ s cA cI i).heap[q]? = s.heap[q]?) ∧ (mf_ s cA cI i).vm = s.vm ∧ (mf_ s cA cI i).slotsUsed = s.slotsUsed + 8 + 8 * i
  | 0 => by
    refine ⟨?_, ?_, fun j hj => absurd hj (Nat.not_lt_zero j), fun q hq => ?_, rfl, ?_⟩
    · show (s.heap.push _).size = _
      rw [Array.size_push]
    · show (s.heap.push _)[s.heap.size]? = _
      rw [Array.getElem?_push_size]
    · show (s.heap.push _)[q]? = _
      rw [Array.getElem?_push_lt hq, Array.getElem?_eq_getElem hq]
    · show s.slotsUsed + (mf_o cA s.heap.size 0).slots.size = _
      unfold mf_o
      rw [arrV_size]
  | i + 1 => by
    obtain ⟨h1, h2, h3, h4, h5, h6⟩ := mf_facts i
    have hh : (mf_ s cA cI (i + 1)).heap = ((mf_ s cA cI i).heap.push (mf_i cI)).setIfInBounds s.heap.size (mf_o cA s.heap.size (i + 1)) := rfl
    refine ⟨?_, ?_, fun j hj => ?_, fun q hq => ?_, h5, ?_⟩
    · rw [hh, Array.size_setIfInBounds, Array.size_push, h1]
      omega
    · rw [hh, Array.getElem?_setIfInBounds, if_pos rfl, if_pos (by rw [Array.size_push, h1]; omega)]
    · rw [hh, Array.getElem?_setIfInBounds, if_neg (by omega)]
      by_cases e : j = i
      · rw [e, ← h1, Array.getElem?_push_size]
      · rw [Array.getElem?_push, if_neg (by rw [h1]; omega)]
        exact h3 j (by omega)
    · rw [hh, Array.getElem?_setIfInBounds, if_neg (by omega), Array.getElem?_push, if_neg (by rw [h1]; omega)]
      exact h4 q hq
    · show (mf_ s cA cI i).slotsUsed + (mf_i cI).slots.size = _
      unfold mf_i
      rw [arrV_size, h6]
      omega
end MN
section MW
variable {Q : Addr → Pre} {E : CtlPost} {e : Env} {d : Bool} {acts : List Action} {s : State} {cA cI : ClassId}
theorem mk_row {kI : Class} {comp : ClassId} (hk : s.vm.classes[cI]? = some kI) (hkind : kI.kind = .array comp .int) (h1 : 8 ≤ e.platform.arrayLengthLimit) (h2 : 32 ≤ e.platform.maxHeapBytes) (h3 : s.heap.size < e.platform.maxCells) (h4 : s.slotsUsed + 8 ≤ e.platform.maxSlots) (hq : Q s.heap.size d acts (s.pushCell (mf_i cI))) :
    wp (Op.multianewarray.make cI [nI 8]) Q E e d acts s := by
  have hc : (nI 8).toNatClampNeg = 8 := nI_clamp (by decide)
  have hn : ¬ nI 8 < 0 := by decide
  have hfit : ∀ i v, (Array.replicate 8 (Value.int 0))[i]? = some v → s.fitsSlot cI .none i v = true := by
    intro i v hv
    simp only [Array.getElem?_replicate] at hv
    split at hv
    · cases hv; simp [State.fitsSlot, State.slotType?, hk, hkind, fits]
    · cases hv
  have hdef : allocActs (Array.replicate 8 (Value.int 0)) s.heap.size acts = acts := by
    have hall : ((Array.replicate 8 (Value.int 0)).all (·.isDefault)) = true := by
      rw [Array.all_replicate]; split <;> simp [Value.isDefault]
    unfold allocActs; rw [if_pos hall]
  simp only [Op.multianewarray.make, wp_bind', W.ite, hn, if_false, wp_pure', W.theClass, hk, Option.some.injEq, exists_eq_left', hkind, hc, Jvm.newArray, Jvm.arrayFits, W.ask, W.alloc, W.stop]
  have hcb : componentBytes FieldType.int = 4 := rfl
  rw [if_neg (by omega), if_neg (by rw [hcb]; omega), if_neg (by omega)]
  refine ⟨h3, by rw [Array.size_replicate]; exact h4, hfit, ?_⟩
  have e1 : defaultValue FieldType.int = Value.int 0 := rfl
  rw [e1, hdef, mf_i_0]
  exact hq
theorem mk_all {kA kI : Class} {comp : ClassId} (hkA : s.vm.classes[cA]? = some kA) (hkindA : kA.kind = .array cI (.array .int)) (hk : s.vm.classes[cI]? = some kI) (hkind : kI.kind = .array comp .int) (h1 : 8 ≤ e.platform.arrayLengthLimit) (h2 : 64 ≤ e.platform.maxHeapBytes) (h3 : s.heap.size + 9 ≤ e.platform.maxCells) (h4 : s.slotsUsed + 72 ≤ e.platform.maxSlots) (hq : ∀ d' acts', Q s.heap.size d' acts' (mf_ s cA cI 8)) :
    wp (Op.multianewarray.make cA [nI 8, nI 8]) Q E e d acts s := by
  have hc : (nI 8).toNatClampNeg = 8 := nI_clamp (by decide)
  have hn : ¬ nI 8 < 0 := by decide
  have h0 : (nI 8 == 0) = false := by decide
  have hfit : ∀ i v, (Array.replicate 8 Value.null)[i]? = some v → s.fitsSlot cA .none i v = true := by
    intro i v hv
    simp only [Array.getElem?_replicate] at hv
    split at hv
    · cases hv; simp [State.fitsSlot, State.slotType?, hkA, hkindA, fits]
    · cases hv
  have hdef : allocActs (Array.replicate 8 Value.null) s.heap.size acts = acts := by
    have hall : ((Array.replicate 8 Value.null).all (·.isDefault)) = true := by
      rw [Array.all_replicate]; split <;> simp [Value.isDefault]
    unfold allocActs; rw [if_pos hall]
  unfold Op.multianewarray.make
  simp only [wp_bind', W.ite, hn, if_false, wp_pure', W.theClass, hkA, Option.some.injEq, exists_eq_left', hkindA, hc, Jvm.newArray, Jvm.arrayFits, W.ask, W.alloc, W.stop, h0]
  have hcb : componentBytes (FieldType.array FieldType.int) = 4 := rfl
  rw [if_neg (by omega), if_neg (by rw [hcb]; omega), if_neg (by omega)]
  refine ⟨by omega, by rw [Array.size_replicate]; omega, hfit, ?_⟩
  rw [if_neg (by decide), hdef, mf_o_0 cA s.heap.size, Std.Legacy.Range.forIn_eq_forIn_range']
  show wp (forIn (List.range' 0 8 1) PUnit.unit _) _ E e d acts _
  refine wp_forIn_inv (fun rest s' => ∃ i, i ≤ 8 ∧ rest = List.range' i (8 - i) ∧ s' = mf_ s cA cI i) _ _ ⟨0, by omega, rfl, rfl⟩ (fun x rest s' d' acts' Q' hI hQ => ?_) (fun s' d' acts' hI => ?_)
  · obtain ⟨i, hi, hr, rfl⟩ := hI
    have hi8 : i < 8 := by
      rcases Nat.lt_or_ge i 8 with h | h
      · exact h
      · have : i = 8 := by omega
        subst this
        cases hr
    rw [show 8 - i = (8 - (i + 1)) + 1 by omega, List.range'_succ] at hr
    obtain ⟨rfl, rfl⟩ := List.cons.inj hr
    obtain ⟨f1, f2, f3, f4, f5, f6⟩ := mf_facts (s := s) (cA := cA) (cI := cI) x
    rw [wp_bind']
    refine mk_row (kI := kI) (comp := comp) (by rw [f5]; exact hk) hkind h1 (by omega) (by rw [f1]; omega) (by rw [f6]; omega) ?_
    rw [wp_bind', W.writeLoc]
    have hcell : ((mf_ s cA cI x).pushCell (mf_i cI)).heap[s.heap.size]? = some (mf_o cA s.heap.size x) := by
      show ((mf_ s cA cI x).heap.push (mf_i cI))[s.heap.size]? = _
      rw [Array.getElem?_push, if_neg (by rw [f1]; omega)]
      exact f2
    refine ⟨mf_o cA s.heap.size x, hcell, by unfold mf_o arrV; simp, by unfold mf_o; rw [arrV_size]; exact hi8, ?_, ?_⟩
    · have hv : ((mf_ s cA cI x).pushCell (mf_i cI)).vm = s.vm := f5
      show State.fitsSlot _ cA .none x _ = true
      unfold State.fitsSlot State.slotType?
      rw [hv, hkA]
      simp [hkindA, fits]
    · rw [wp_pure']
      refine hQ _ _ _ ⟨x + 1, by omega, rfl, ?_⟩
      rw [f1, mf_o_s]
      rfl
  · obtain ⟨i, hi, hr, rfl⟩ := hI
    have : i = 8 := by
      rcases Nat.lt_or_ge i 8 with h | h
      · rw [show 8 - i = (8 - (i + 1)) + 1 by omega, List.range'_succ] at hr
        cases hr
      · omega
    subst this
    rw [wp_pure']
    exact hq d' acts'
end MW
