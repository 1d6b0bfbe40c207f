/-! what holds at a frame of the method k, what holds of the heap, how it ends; the judgement pm_Y -/
def pm_fr (b : pB) (k : pK) (p : Program) (e : Env) (s : State) (m : MethodId) (args : Array Value) (meth : Method) (c : Code) : Prop :=
  p.tables.exec = Jvm.exec ∧ c.code = k.2.1 ∧ c.maxLocals = k.2.2.1 ∧ s.vm.findClass k.1.cls = some m.cls ∧ meth.sig.returnType = k.2.2.2.1 ∧ meth.locks = false ∧ meth.name = k.1.name ∧
  c.exceptionTable.toList.map (fun h => (h.startPc, h.endPc, h.handlerPc, h.catchType)) = k.2.2.2.2 ∧ (∀ w ∈ pm_words, w.before args s = true) ∧ va_K b.2.2.2.1 pm_cl (pm_tys b) s ∧
  b.2.1.WarmedH s.vm ∧ va_S (pm_A b) b.2.1.heap s.heap [] ∧ b.1.admits e
def pm_room (d mc ms : Nat) (R : Room) : Prop := d + 7 ≤ R.frames ∧ 64 * d + 120 ≤ R.locals ∧ mc ≤ R.cells ∧ ms ≤ R.slots
def pm_rm (d mc ms : Nat) : Room := { frames := d + 7, cells := mc, slots := ms, locals := 64 * d + 120 }
theorem pm_rm_ok (d mc ms : Nat) : pm_room d mc ms (pm_rm d mc ms) := ⟨Nat.le_refl _, Nat.le_refl _, Nat.le_refl _, Nat.le_refl _⟩
def pm_inv (b : pB) (ad : Nat → Nat) (f : Bool) (g : pG) (σ : pI) (τ : pJ) (H : Heap) (locs : List Loc) : Prop :=
  pm_P b ad g σ τ H ∧ pm_D b ad g.1 ∧ va_S (pm_A b) b.2.1.heap H locs ∧ (f = false → locs = [])
def pm_Qr (b : pB) (k : pK) (ad : Nat → Nat) (g : pG) (Q : Option Int32 → pI → pJ → Prop) : Array Value → State → Outcome → State → Prop := fun _ _ o t =>
  ∃ (v : Option Int32) (σ : pI) (τ : pJ), o = .returned (v.map Value.int) ∧ v.isSome = k.2.2.2.1.isSome ∧ Q v σ τ ∧ pm_P b ad g σ τ t.heap ∧ va_S (pm_A b) b.2.1.heap t.heap []
def pm_Qn (b : pB) (ad : Nat → Nat) (g : pG) (Q : pG → pI → pJ → Prop) : Array Value → State → Outcome → State → Prop := fun _ _ o t =>
  ∃ (ad' : Nat → Nat) (g' : pG) (σ : pI) (τ : pJ), o = .returned none ∧ Q g' σ τ ∧ g.1 ≤ g'.1 ∧ (∀ i, i < g.1 → ad' i = ad i) ∧ pm_P b ad' g' σ τ t.heap ∧ pm_D b ad' g'.1 ∧ va_S (pm_A b) b.2.1.heap t.heap []
/-- the object that is thrown -/
def pm_xc (X : String) (s : State) (a : Nat) (H : Heap) : Prop := s.heap.size ≤ a ∧ ∃ ce : Cell, H[a]? = some ce ∧ ce.vm.isStatics = false ∧ s.vm.findClass X = some ce.cls
def pm_Qt (X : String) (mc ms : Nat) : Array Value → State → Outcome → State → Prop := fun _ s o t =>
  ∃ a : Nat, o = .threw a ∧ s.WarmedH t.vm ∧ s.sameButNew ({ t with vm := s.vm } : State) [] mc ms ∧ pm_xc X s a t.heap
def pm_end (b : pB) (k : pK) (E : pE) (ad : Nat → Nat) (g : pG) (below : List Frame) (args : Array Value) (s : State) (mc ms : Nat) : State → Prop := match E with
  | .inl (wr, Q) => MQ below (pm_Qr b k ad g Q) args s mc ms (fun q => wr = true ∧ pm_A b q)
  | .inr (.inl X) => fun t => ∃ o : Outcome, t.status = .running ∧ Ended t below o ∧ pm_Qt X mc ms args s o t
  | .inr (.inr Q) => MQ below (pm_Qn b ad g Q) args s mc ms (pm_A b)
def pm_Y (b : pB) (d : Nat) (k : pK) (pc : Nat) (f : Bool) (lo : List (Option pV)) (st : List pV) (g : pG) (σ : pI) (τ : pJ) (cu su mc ms : Nat) (E : pE) : Prop :=
  ∀ (p : Program) (e : Env) (R : Room) (s : State) (m : MethodId) (args : Array Value) (below : List Frame) (meth : Method) (c : Code) (H : Heap) (locs : List Loc) (ls : Array Slot) (ad : Nat → Nat) (jk : Nat),
    pm_fr b k p e s m args meth c → pm_room d mc ms R → pm_inv b ad f g σ τ H locs → pm_lo b ad jk k.2.2.1 lo ls →
    W p b.1 e R s m args below meth c H locs cu su (pm_end b k E ad g below args s mc ms) (F0 m pc ls (st.map (pm_v ad b.2.2.2.2.2.1 jk)))
/-- a method's contract: from its entry, with these arguments -/
def pm_C (b : pB) (d : Nat) (k : pK) (vs : List pV) (g : pG) (σ : pI) (τ : pJ) (mc ms : Nat) (E : pE) : Prop :=
  pm_Y b d k 0 false (vs.map some ++ List.replicate (k.2.2.1 - vs.length) none) [] g σ τ 0 0 mc ms E
section PMR
variable {b : pB} {d : Nat} {k : pK} {pc : Nat} {f : Bool} {lo : List (Option pV)} {st : List pV} {g : pG} {σ : pI} {τ : pJ} {cu su mc ms : Nat} {E : pE}
theorem pm_iconst {z : Int} (hd : decode k.2.1 pc = .ok (.iconst z, 1)) (K : pm_Y b d k (pc + 1) f lo (pm_I (Int32.ofInt z) :: st) g σ τ cu su mc ms E) : pm_Y b d k pc f lo (st) g σ τ cu su mc ms E := by
  intro p e R s m args below meth c H locs ls ad jk hF hR hI hL
  exact lv_iconst hF.1 hF.2.1 hd rfl (K _ _ _ _ _ _ _ _ _ _ _ _ _ _ hF hR hI hL)
theorem pm_bipush {z : Int} (hd : decode k.2.1 pc = .ok (.bipush z, 2)) (K : pm_Y b d k (pc + 2) f lo (pm_I (Int8.ofInt z).toInt32 :: st) g σ τ cu su mc ms E) : pm_Y b d k pc f lo (st) g σ τ cu su mc ms E := by
  intro p e R s m args below meth c H locs ls ad jk hF hR hI hL
  exact lv_bipush hF.1 hF.2.1 hd rfl (K _ _ _ _ _ _ _ _ _ _ _ _ _ _ hF hR hI hL)
theorem pm_iload_n {j : Fin 4} {x : Int32} (hd : decode k.2.1 pc = .ok (.iload_n j, 1)) (hl : lo[j.val]? = some (some (pm_I x))) (K : pm_Y b d k (pc + 1) f lo (pm_I x :: st) g σ τ cu su mc ms E) : pm_Y b d k pc f lo (st) g σ τ cu su mc ms E := by
  intro p e R s m args below meth c H locs ls ad jk hF hR hI hL
  exact lv_iload_n hF.1 hF.2.1 hd rfl (hL.at hl) (K _ _ _ _ _ _ _ _ _ _ _ _ _ _ hF hR hI hL)
theorem pm_iload {j : Nat} {x : Int32} (hd : decode k.2.1 pc = .ok (.iload j, 2)) (hl : lo[j]? = some (some (pm_I x))) (K : pm_Y b d k (pc + 2) f lo (pm_I x :: st) g σ τ cu su mc ms E) : pm_Y b d k pc f lo (st) g σ τ cu su mc ms E := by
  intro p e R s m args below meth c H locs ls ad jk hF hR hI hL
  exact lv_iload hF.1 hF.2.1 hd (hL.at hl) (K _ _ _ _ _ _ _ _ _ _ _ _ _ _ hF hR hI hL)
theorem pm_aload_n {j : Fin 4} {x : Nat} (hd : decode k.2.1 pc = .ok (.aload_n j, 1)) (hl : lo[j.val]? = some (some (pm_R x))) (K : pm_Y b d k (pc + 1) f lo (pm_R x :: st) g σ τ cu su mc ms E) : pm_Y b d k pc f lo (st) g σ τ cu su mc ms E := by
  intro p e R s m args below meth c H locs ls ad jk hF hR hI hL
  exact lv_aload_n hF.1 hF.2.1 hd rfl (hL.at hl) (K _ _ _ _ _ _ _ _ _ _ _ _ _ _ hF hR hI hL)
theorem pm_aload {j : Nat} {x : Nat} (hd : decode k.2.1 pc = .ok (.aload j, 2)) (hl : lo[j]? = some (some (pm_R x))) (K : pm_Y b d k (pc + 2) f lo (pm_R x :: st) g σ τ cu su mc ms E) : pm_Y b d k pc f lo (st) g σ τ cu su mc ms E := by
  intro p e R s m args below meth c H locs ls ad jk hF hR hI hL
  exact lv_aload hF.1 hF.2.1 hd (hL.at hl) (K _ _ _ _ _ _ _ _ _ _ _ _ _ _ hF hR hI hL)
theorem pm_aload_s {j : Fin 4} (hd : decode k.2.1 pc = .ok (.aload_n j, 1)) (hl : lo[j.val]? = some (some pm_S)) (K : pm_Y b d k (pc + 1) f lo (pm_S :: st) g σ τ cu su mc ms E) : pm_Y b d k pc f lo (st) g σ τ cu su mc ms E := by
  intro p e R s m args below meth c H locs ls ad jk hF hR hI hL
  exact lv_aload_n hF.1 hF.2.1 hd rfl (hL.at hl) (K _ _ _ _ _ _ _ _ _ _ _ _ _ _ hF hR hI hL)
theorem pm_iadd {x y : Int32} (hd : decode k.2.1 pc = .ok (.iadd, 1)) (K : pm_Y b d k (pc + 1) f lo (pm_I (x + y) :: st) g σ τ cu su mc ms E) : pm_Y b d k pc f lo (pm_I y :: pm_I x :: st) g σ τ cu su mc ms E := by
  intro p e R s m args below meth c H locs ls ad jk hF hR hI hL
  exact lv_iadd hF.1 hF.2.1 hd (K _ _ _ _ _ _ _ _ _ _ _ _ _ _ hF hR hI hL)
theorem pm_isub {x y : Int32} (hd : decode k.2.1 pc = .ok (.isub, 1)) (K : pm_Y b d k (pc + 1) f lo (pm_I (x - y) :: st) g σ τ cu su mc ms E) : pm_Y b d k pc f lo (pm_I y :: pm_I x :: st) g σ τ cu su mc ms E := by
  intro p e R s m args below meth c H locs ls ad jk hF hR hI hL
  exact lv_isub hF.1 hF.2.1 hd (K _ _ _ _ _ _ _ _ _ _ _ _ _ _ hF hR hI hL)
theorem pm_imul {x y : Int32} (hd : decode k.2.1 pc = .ok (.imul, 1)) (K : pm_Y b d k (pc + 1) f lo (pm_I (x * y) :: st) g σ τ cu su mc ms E) : pm_Y b d k pc f lo (pm_I y :: pm_I x :: st) g σ τ cu su mc ms E := by
  intro p e R s m args below meth c H locs ls ad jk hF hR hI hL
  exact lv_imul hF.1 hF.2.1 hd (K _ _ _ _ _ _ _ _ _ _ _ _ _ _ hF hR hI hL)
theorem pm_iand {x y : Int32} (hd : decode k.2.1 pc = .ok (.iand, 1)) (K : pm_Y b d k (pc + 1) f lo (pm_I (x &&& y) :: st) g σ τ cu su mc ms E) : pm_Y b d k pc f lo (pm_I y :: pm_I x :: st) g σ τ cu su mc ms E := by
  intro p e R s m args below meth c H locs ls ad jk hF hR hI hL
  exact lv_iand hF.1 hF.2.1 hd (K _ _ _ _ _ _ _ _ _ _ _ _ _ _ hF hR hI hL)
theorem pm_irem {x y : Int32} (hd : decode k.2.1 pc = .ok (.irem, 1)) (hn : ¬ y = 0) (K : pm_Y b d k (pc + 1) f lo (pm_I (x - x / y * y) :: st) g σ τ cu su mc ms E) : pm_Y b d k pc f lo (pm_I y :: pm_I x :: st) g σ τ cu su mc ms E := by
  intro p e R s m args below meth c H locs ls ad jk hF hR hI hL
  exact lv_irem hF.1 hF.2.1 hd hn (K _ _ _ _ _ _ _ _ _ _ _ _ _ _ hF hR hI hL)
theorem pm_i2l {x : Int32} (hd : decode k.2.1 pc = .ok (.i2l, 1)) (K : pm_Y b d k (pc + 1) f lo (pm_L x.toInt64 :: st) g σ τ cu su mc ms E) : pm_Y b d k pc f lo (pm_I x :: st) g σ τ cu su mc ms E := by
  intro p e R s m args below meth c H locs ls ad jk hF hR hI hL
  exact lv_i2l hF.1 hF.2.1 hd rfl (K _ _ _ _ _ _ _ _ _ _ _ _ _ _ hF hR hI hL)
theorem pm_lcmp {x y : Int64} (hd : decode k.2.1 pc = .ok (.lcmp, 1)) (K : pm_Y b d k (pc + 1) f lo (pm_I (lg_cmp x y) :: st) g σ τ cu su mc ms E) : pm_Y b d k pc f lo (pm_L y :: pm_L x :: st) g σ τ cu su mc ms E := by
  intro p e R s m args below meth c H locs ls ad jk hF hR hI hL
  exact W.lcmp hF.1 hF.2.1 hd (K _ _ _ _ _ _ _ _ _ _ _ _ _ _ hF hR hI hL)
theorem pm_dup {v : pV} (hd : decode k.2.1 pc = .ok (.dup, 1)) (hv : pm_one v = true) (K : pm_Y b d k (pc + 1) f lo (v :: v :: st) g σ τ cu su mc ms E) : pm_Y b d k pc f lo (v :: st) g σ τ cu su mc ms E := by
  intro p e R s m args below meth c H locs ls ad jk hF hR hI hL
  exact lv_dup hF.1 hF.2.1 hd (pm_v_one hv) (K _ _ _ _ _ _ _ _ _ _ _ _ _ _ hF hR hI hL)
theorem pm_pop {v : pV} (hd : decode k.2.1 pc = .ok (.pop, 1)) (hv : pm_one v = true) (K : pm_Y b d k (pc + 1) f lo (st) g σ τ cu su mc ms E) : pm_Y b d k pc f lo (v :: st) g σ τ cu su mc ms E := by
  intro p e R s m args below meth c H locs ls ad jk hF hR hI hL
  exact lv_pop hF.1 hF.2.1 hd (pm_v_one hv) (K _ _ _ _ _ _ _ _ _ _ _ _ _ _ hF hR hI hL)
theorem pm_dup2 {v w : pV} (hd : decode k.2.1 pc = .ok (.dup2, 1)) (hv : pm_one v = true) (hw : pm_one w = true) (K : pm_Y b d k (pc + 1) f lo (v :: w :: v :: w :: st) g σ τ cu su mc ms E) : pm_Y b d k pc f lo (v :: w :: st) g σ τ cu su mc ms E := by
  intro p e R s m args below meth c H locs ls ad jk hF hR hI hL
  exact lv_dup2_11 hF.1 hF.2.1 hd (pm_v_one hv) (pm_v_one hw) (K _ _ _ _ _ _ _ _ _ _ _ _ _ _ hF hR hI hL)
theorem pm_dup_x1 {v w : pV} (hd : decode k.2.1 pc = .ok (.dup_x1, 1)) (hv : pm_one v = true) (hw : pm_one w = true) (K : pm_Y b d k (pc + 1) f lo (v :: w :: v :: st) g σ τ cu su mc ms E) : pm_Y b d k pc f lo (v :: w :: st) g σ τ cu su mc ms E := by
  intro p e R s m args below meth c H locs ls ad jk hF hR hI hL
  exact lv_dup_x1 hF.1 hF.2.1 hd (pm_v_one hv) (pm_v_one hw) (K _ _ _ _ _ _ _ _ _ _ _ _ _ _ hF hR hI hL)
theorem pm_if_eq {x : Int32} {off : Int} (tgt : Nat) (hd : decode k.2.1 pc = .ok (.ifCond .eq off, 3)) (ht : (pc : Int) + off = (tgt : Int)) (kt : x = 0 → pm_Y b d k tgt f lo st g σ τ cu su mc ms E) (kf : ¬ (x = 0) → pm_Y b d k (pc + 3) f lo st g σ τ cu su mc ms E) : pm_Y b d k pc f lo (pm_I x :: st) g σ τ cu su mc ms E := by
  intro p e R s m args below meth c H locs ls ad jk hF hR hI hL
  exact lv_if_eq hF.1 hF.2.1 hd ht (fun h => kt h _ _ _ _ _ _ _ _ _ _ _ _ _ _ hF hR hI hL) (fun h => kf h _ _ _ _ _ _ _ _ _ _ _ _ _ _ hF hR hI hL)
theorem pm_if_ne {x : Int32} {off : Int} (tgt : Nat) (hd : decode k.2.1 pc = .ok (.ifCond .ne off, 3)) (ht : (pc : Int) + off = (tgt : Int)) (kt : ¬ x = 0 → pm_Y b d k tgt f lo st g σ τ cu su mc ms E) (kf : x = 0 → pm_Y b d k (pc + 3) f lo st g σ τ cu su mc ms E) : pm_Y b d k pc f lo (pm_I x :: st) g σ τ cu su mc ms E := by
  intro p e R s m args below meth c H locs ls ad jk hF hR hI hL
  exact lv_if_ne hF.1 hF.2.1 hd ht (fun h => kt h _ _ _ _ _ _ _ _ _ _ _ _ _ _ hF hR hI hL) (fun h => kf h _ _ _ _ _ _ _ _ _ _ _ _ _ _ hF hR hI hL)
theorem pm_if_lt {x : Int32} {off : Int} (tgt : Nat) (hd : decode k.2.1 pc = .ok (.ifCond .lt off, 3)) (ht : (pc : Int) + off = (tgt : Int)) (kt : x < 0 → pm_Y b d k tgt f lo st g σ τ cu su mc ms E) (kf : ¬ (x < 0) → pm_Y b d k (pc + 3) f lo st g σ τ cu su mc ms E) : pm_Y b d k pc f lo (pm_I x :: st) g σ τ cu su mc ms E := by
  intro p e R s m args below meth c H locs ls ad jk hF hR hI hL
  exact lv_if_lt hF.1 hF.2.1 hd ht (fun h => kt h _ _ _ _ _ _ _ _ _ _ _ _ _ _ hF hR hI hL) (fun h => kf h _ _ _ _ _ _ _ _ _ _ _ _ _ _ hF hR hI hL)
theorem pm_if_ge {x : Int32} {off : Int} (tgt : Nat) (hd : decode k.2.1 pc = .ok (.ifCond .ge off, 3)) (ht : (pc : Int) + off = (tgt : Int)) (kt : 0 ≤ x → pm_Y b d k tgt f lo st g σ τ cu su mc ms E) (kf : ¬ (0 ≤ x) → pm_Y b d k (pc + 3) f lo st g σ τ cu su mc ms E) : pm_Y b d k pc f lo (pm_I x :: st) g σ τ cu su mc ms E := by
  intro p e R s m args below meth c H locs ls ad jk hF hR hI hL
  exact lv_if_ge hF.1 hF.2.1 hd ht (fun h => kt h _ _ _ _ _ _ _ _ _ _ _ _ _ _ hF hR hI hL) (fun h => kf h _ _ _ _ _ _ _ _ _ _ _ _ _ _ hF hR hI hL)
theorem pm_if_gt {x : Int32} {off : Int} (tgt : Nat) (hd : decode k.2.1 pc = .ok (.ifCond .gt off, 3)) (ht : (pc : Int) + off = (tgt : Int)) (kt : 0 < x → pm_Y b d k tgt f lo st g σ τ cu su mc ms E) (kf : ¬ (0 < x) → pm_Y b d k (pc + 3) f lo st g σ τ cu su mc ms E) : pm_Y b d k pc f lo (pm_I x :: st) g σ τ cu su mc ms E := by
  intro p e R s m args below meth c H locs ls ad jk hF hR hI hL
  exact lv_if_gt hF.1 hF.2.1 hd ht (fun h => kt h _ _ _ _ _ _ _ _ _ _ _ _ _ _ hF hR hI hL) (fun h => kf h _ _ _ _ _ _ _ _ _ _ _ _ _ _ hF hR hI hL)
theorem pm_if_le {x : Int32} {off : Int} (tgt : Nat) (hd : decode k.2.1 pc = .ok (.ifCond .le off, 3)) (ht : (pc : Int) + off = (tgt : Int)) (kt : x ≤ 0 → pm_Y b d k tgt f lo st g σ τ cu su mc ms E) (kf : ¬ (x ≤ 0) → pm_Y b d k (pc + 3) f lo st g σ τ cu su mc ms E) : pm_Y b d k pc f lo (pm_I x :: st) g σ τ cu su mc ms E := by
  intro p e R s m args below meth c H locs ls ad jk hF hR hI hL
  exact lv_if_le hF.1 hF.2.1 hd ht (fun h => kt h _ _ _ _ _ _ _ _ _ _ _ _ _ _ hF hR hI hL) (fun h => kf h _ _ _ _ _ _ _ _ _ _ _ _ _ _ hF hR hI hL)
theorem pm_icmp_eq {x y : Int32} {off : Int} (tgt : Nat) (hd : decode k.2.1 pc = .ok (.if_icmp .eq off, 3)) (ht : (pc : Int) + off = (tgt : Int)) (kt : x = y → pm_Y b d k tgt f lo st g σ τ cu su mc ms E) (kf : ¬ (x = y) → pm_Y b d k (pc + 3) f lo st g σ τ cu su mc ms E) : pm_Y b d k pc f lo (pm_I y :: pm_I x :: st) g σ τ cu su mc ms E := by
  intro p e R s m args below meth c H locs ls ad jk hF hR hI hL
  exact lv_icmp_eq hF.1 hF.2.1 hd ht (fun h => kt h _ _ _ _ _ _ _ _ _ _ _ _ _ _ hF hR hI hL) (fun h => kf h _ _ _ _ _ _ _ _ _ _ _ _ _ _ hF hR hI hL)
theorem pm_icmp_ne {x y : Int32} {off : Int} (tgt : Nat) (hd : decode k.2.1 pc = .ok (.if_icmp .ne off, 3)) (ht : (pc : Int) + off = (tgt : Int)) (kt : ¬ x = y → pm_Y b d k tgt f lo st g σ τ cu su mc ms E) (kf : x = y → pm_Y b d k (pc + 3) f lo st g σ τ cu su mc ms E) : pm_Y b d k pc f lo (pm_I y :: pm_I x :: st) g σ τ cu su mc ms E := by
  intro p e R s m args below meth c H locs ls ad jk hF hR hI hL
  exact lv_icmp_ne hF.1 hF.2.1 hd ht (fun h => kt h _ _ _ _ _ _ _ _ _ _ _ _ _ _ hF hR hI hL) (fun h => kf h _ _ _ _ _ _ _ _ _ _ _ _ _ _ hF hR hI hL)
theorem pm_icmp_lt {x y : Int32} {off : Int} (tgt : Nat) (hd : decode k.2.1 pc = .ok (.if_icmp .lt off, 3)) (ht : (pc : Int) + off = (tgt : Int)) (kt : x < y → pm_Y b d k tgt f lo st g σ τ cu su mc ms E) (kf : ¬ (x < y) → pm_Y b d k (pc + 3) f lo st g σ τ cu su mc ms E) : pm_Y b d k pc f lo (pm_I y :: pm_I x :: st) g σ τ cu su mc ms E := by
  intro p e R s m args below meth c H locs ls ad jk hF hR hI hL
  exact lv_icmp_lt hF.1 hF.2.1 hd ht (fun h => kt h _ _ _ _ _ _ _ _ _ _ _ _ _ _ hF hR hI hL) (fun h => kf h _ _ _ _ _ _ _ _ _ _ _ _ _ _ hF hR hI hL)
theorem pm_icmp_ge {x y : Int32} {off : Int} (tgt : Nat) (hd : decode k.2.1 pc = .ok (.if_icmp .ge off, 3)) (ht : (pc : Int) + off = (tgt : Int)) (kt : y ≤ x → pm_Y b d k tgt f lo st g σ τ cu su mc ms E) (kf : ¬ (y ≤ x) → pm_Y b d k (pc + 3) f lo st g σ τ cu su mc ms E) : pm_Y b d k pc f lo (pm_I y :: pm_I x :: st) g σ τ cu su mc ms E := by
  intro p e R s m args below meth c H locs ls ad jk hF hR hI hL
  exact lv_icmp_ge hF.1 hF.2.1 hd ht (fun h => kt h _ _ _ _ _ _ _ _ _ _ _ _ _ _ hF hR hI hL) (fun h => kf h _ _ _ _ _ _ _ _ _ _ _ _ _ _ hF hR hI hL)
theorem pm_icmp_gt {x y : Int32} {off : Int} (tgt : Nat) (hd : decode k.2.1 pc = .ok (.if_icmp .gt off, 3)) (ht : (pc : Int) + off = (tgt : Int)) (kt : y < x → pm_Y b d k tgt f lo st g σ τ cu su mc ms E) (kf : ¬ (y < x) → pm_Y b d k (pc + 3) f lo st g σ τ cu su mc ms E) : pm_Y b d k pc f lo (pm_I y :: pm_I x :: st) g σ τ cu su mc ms E := by
  intro p e R s m args below meth c H locs ls ad jk hF hR hI hL
  exact lv_icmp_gt hF.1 hF.2.1 hd ht (fun h => kt h _ _ _ _ _ _ _ _ _ _ _ _ _ _ hF hR hI hL) (fun h => kf h _ _ _ _ _ _ _ _ _ _ _ _ _ _ hF hR hI hL)
theorem pm_icmp_le {x y : Int32} {off : Int} (tgt : Nat) (hd : decode k.2.1 pc = .ok (.if_icmp .le off, 3)) (ht : (pc : Int) + off = (tgt : Int)) (kt : x ≤ y → pm_Y b d k tgt f lo st g σ τ cu su mc ms E) (kf : ¬ (x ≤ y) → pm_Y b d k (pc + 3) f lo st g σ τ cu su mc ms E) : pm_Y b d k pc f lo (pm_I y :: pm_I x :: st) g σ τ cu su mc ms E := by
  intro p e R s m args below meth c H locs ls ad jk hF hR hI hL
  exact lv_icmp_le hF.1 hF.2.1 hd ht (fun h => kt h _ _ _ _ _ _ _ _ _ _ _ _ _ _ hF hR hI hL) (fun h => kf h _ _ _ _ _ _ _ _ _ _ _ _ _ _ hF hR hI hL)
theorem pm_goto {off : Int} (tgt : Nat) (hd : decode k.2.1 pc = .ok (.goto off, 3)) (ht : (pc : Int) + off = (tgt : Int)) (K : pm_Y b d k tgt f lo st g σ τ cu su mc ms E) : pm_Y b d k pc f lo st g σ τ cu su mc ms E := by
  intro p e R s m args below meth c H locs ls ad jk hF hR hI hL
  exact lv_goto hF.1 hF.2.1 hd ht (K _ _ _ _ _ _ _ _ _ _ _ _ _ _ hF hR hI hL)
theorem pm_istore_n {j : Fin 4} {x : Int32} (hd : decode k.2.1 pc = .ok (.istore_n j, 1)) (hn : j.val < k.2.2.1) (K : pm_Y b d k (pc + 1) f (lo.set j.val (some (pm_I x))) st g σ τ cu su mc ms E) : pm_Y b d k pc f lo (pm_I x :: st) g σ τ cu su mc ms E := by
  intro p e R s m args below meth c H locs ls ad jk hF hR hI hL
  exact lv_istore_n hF.1 hF.2.1 hd rfl hL.has hn rfl (fun ls' h' => K _ _ _ _ _ _ _ _ _ _ _ ls' _ jk hF hR hI (hL.set (v := pm_I x) rfl h'))
theorem pm_istore {j : Nat} {x : Int32} (hd : decode k.2.1 pc = .ok (.istore j, 2)) (hn : j < k.2.2.1) (K : pm_Y b d k (pc + 2) f (lo.set j (some (pm_I x))) st g σ τ cu su mc ms E) : pm_Y b d k pc f lo (pm_I x :: st) g σ τ cu su mc ms E := by
  intro p e R s m args below meth c H locs ls ad jk hF hR hI hL
  exact lv_istore hF.1 hF.2.1 hd hL.has hn rfl (fun ls' h' => K _ _ _ _ _ _ _ _ _ _ _ ls' _ jk hF hR hI (hL.set (v := pm_I x) rfl h'))
theorem pm_astore_n {j : Fin 4} {x : Nat} (hd : decode k.2.1 pc = .ok (.astore_n j, 1)) (hn : j.val < k.2.2.1) (K : pm_Y b d k (pc + 1) f (lo.set j.val (some (pm_R x))) st g σ τ cu su mc ms E) : pm_Y b d k pc f lo (pm_R x :: st) g σ τ cu su mc ms E := by
  intro p e R s m args below meth c H locs ls ad jk hF hR hI hL
  exact lv_astore_n hF.1 hF.2.1 hd rfl hL.has hn rfl (fun ls' h' => K _ _ _ _ _ _ _ _ _ _ _ ls' _ jk hF hR hI (hL.set (v := pm_R x) rfl h'))
theorem pm_astore {j : Nat} {x : Nat} (hd : decode k.2.1 pc = .ok (.astore j, 2)) (hn : j < k.2.2.1) (K : pm_Y b d k (pc + 2) f (lo.set j (some (pm_R x))) st g σ τ cu su mc ms E) : pm_Y b d k pc f lo (pm_R x :: st) g σ τ cu su mc ms E := by
  intro p e R s m args below meth c H locs ls ad jk hF hR hI hL
  exact lv_astore hF.1 hF.2.1 hd hL.has hn rfl (fun ls' h' => K _ _ _ _ _ _ _ _ _ _ _ ls' _ jk hF hR hI (hL.set (v := pm_R x) rfl h'))
theorem pm_astore_n_j {j : Fin 4} (hd : decode k.2.1 pc = .ok (.astore_n j, 1)) (hn : j.val < k.2.2.1) (K : pm_Y b d k (pc + 1) f (lo.set j.val (some (pm_J))) st g σ τ cu su mc ms E) : pm_Y b d k pc f lo (pm_J :: st) g σ τ cu su mc ms E := by
  intro p e R s m args below meth c H locs ls ad jk hF hR hI hL
  exact lv_astore_n hF.1 hF.2.1 hd rfl hL.has hn rfl (fun ls' h' => K _ _ _ _ _ _ _ _ _ _ _ ls' _ jk hF hR hI (hL.set (v := pm_J) rfl h'))
theorem pm_astore_j {j : Nat} (hd : decode k.2.1 pc = .ok (.astore j, 2)) (hn : j < k.2.2.1) (K : pm_Y b d k (pc + 2) f (lo.set j (some (pm_J))) st g σ τ cu su mc ms E) : pm_Y b d k pc f lo (pm_J :: st) g σ τ cu su mc ms E := by
  intro p e R s m args below meth c H locs ls ad jk hF hR hI hL
  exact lv_astore hF.1 hF.2.1 hd hL.has hn rfl (fun ls' h' => K _ _ _ _ _ _ _ _ _ _ _ ls' _ jk hF hR hI (hL.set (v := pm_J) rfl h'))
theorem pm_iinc {j : Nat} {n : Int} {x : Int32} (hd : decode k.2.1 pc = .ok (.iinc j n, 3)) (hn : j < k.2.2.1) (hl : lo[j]? = some (some (pm_I x))) (K : pm_Y b d k (pc + 3) f (lo.set j (some (pm_I (x + Int32.ofInt n)))) st g σ τ cu su mc ms E) : pm_Y b d k pc f lo st g σ τ cu su mc ms E := by
  intro p e R s m args below meth c H locs ls ad jk hF hR hI hL
  have hm : ((j, Value.int x) : Nat × Value) ∈ pm_ll (pm_v ad b.2.2.2.2.2.1 jk) 0 lo := (pm_ll_mem lo 0 _).mpr ⟨j, pm_I x, hl, by rw [Nat.zero_add]; rfl⟩
  obtain ⟨q, hq, hq2⟩ := List.mem_iff_getElem.mp hm
  have hq3 : (pm_ll (pm_v ad b.2.2.2.2.2.1 jk) 0 lo)[q]? = some (j, Value.int x) := by rw [List.getElem?_eq_getElem hq, hq2]
  exact lv_iinc hF.1 hF.2.1 hd hL.has hq3 rfl hn rfl (fun ls' h' => K _ _ _ _ _ _ _ _ _ _ _ ls' _ jk hF hR hI (hL.set (v := pm_I (x + Int32.ofInt n)) rfl h'))
theorem pm_table {x : Int32} {dflt lo' hi off : Int} {offs : Array Int} {len : Nat} (tgt : Nat) (hd : decode k.2.1 pc = .ok (.tableswitch dflt lo' hi offs, len)) (h1 : ¬ x.toInt < lo') (h2 : ¬ hi < x.toInt) (ho : offs[(x.toInt - lo').toNat]? = some off) (ht : (pc : Int) + off = (tgt : Int)) (K : pm_Y b d k tgt f lo st g σ τ cu su mc ms E) : pm_Y b d k pc f lo (pm_I x :: st) g σ τ cu su mc ms E := by
  intro p e R s m args below meth c H locs ls ad jk hF hR hI hL
  exact lv_tableIn hF.1 hF.2.1 hd h1 h2 ho ht (K _ _ _ _ _ _ _ _ _ _ _ _ _ _ hF hR hI hL)
end PMR
