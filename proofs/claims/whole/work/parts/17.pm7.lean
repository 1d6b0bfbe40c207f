/-! into a handler -/
theorem pm_go {e : Env} {s : State} {f : JFrame} {a : Addr} {x : ExceptionTableEntry} {t : List ExceptionTableEntry} {c : ClassId} {cell : Cell} {vm' : Vm} (hx : covers x f.pc = true) (h0 : x.catchType ≠ 0)
    (hg : (Jvm.resolveClass f.method.cls x.catchType).Gives e.toSetting s.vm (.ok c) vm') (hsz : vm'.classes.size ≤ s.vm.classes.size) (hcell : s.heap[a]? = some cell) (hobj : ∀ k, cell.vm ≠ .statics k)
    (hk : ∃ k, vm'.classes[cell.cls]? = some k) (hc : ∃ k, vm'.classes[c]? = some k) (Q : Handler → Pre) (E : CtlPost) (d : Bool) (acts : List Action) :
    wp (findHandler.go f a (x :: t)) Q E e d acts s ↔ if vm'.assignable cell.cls c = true then Q (.found x.handlerPc) d acts (s.setVm vm') else wp (findHandler.go f a t) Q E e d acts (s.setVm vm') := by
  simp only [covers] at hx
  obtain ⟨ha, ht⟩ := hg.op (op := VmOp.resolveClass f.method.cls x.catchType) rfl
  cases hfit : vm'.assignable cell.cls c <;>
    simp [findHandler.go, hx, h0, ha, ht, hsz, hcell, hobj, hk, hc, hfit, VmOp.dirties, VmOp.acts]
/-- the first handler for an object of the type X -/
def pm_pick (X : String) : List (Nat × String) → Option Nat
  | [] => none
  | (h, Y) :: t => if X = Y then some h else pm_pick X t
def pm_no (X Y : String) : Prop := (X, Y) ∈ [("java/lang/IllegalArgumentException", "java/lang/IndexOutOfBoundsException"), ("java/lang/IllegalStateException", "java/lang/IndexOutOfBoundsException"), ("java/lang/IllegalStateException", "java/lang/IllegalArgumentException")]
theorem pm_finds {p : Program} {l : Launch} {e : Env} {R : Room} {s : State} {m : MethodId} {args : Array Value} {below : List Frame} {meth : Method} {c : Code} {T : State} {locs : List Loc} {cells slots : Nat}
    (X0 : Stand p l e R s m args below meth c T locs cells slots) {own X : String} (hown : s.vm.findClass own = some m.cls) {f : JFrame} (hf : f.method = m) {a : Addr} {cell : Cell} (hobj : ∀ k, cell.vm ≠ .statics k) (hcls : s.vm.findClass X = some cell.cls) {kx : Class} (hkx : s.vm.classes[cell.cls]? = some kx)
    (hasg : ∀ (Y : String) (cY : ClassId), s.vm.findClass Y = some cY → (Y = X ∨ pm_no X Y) → s.vm.assignable cell.cls cY = decide (X = Y)) :
    ∀ (xs : List ExceptionTableEntry) (ys : List String) (vm₁ : Vm) (h : Nat), s.WarmedH vm₁ → xs.length = ys.length → (∀ (i : Nat) (x : ExceptionTableEntry) (Y : String), xs[i]? = some x → ys[i]? = some Y → covers x f.pc = true ∧ x.catchType ≠ 0 ∧ (Cond.classLink own x.catchType Y).before args s = true ∧ (Y = X ∨ pm_no X Y)) →
      pm_pick X ((xs.map fun x => x.handlerPc).zip ys) = some h →
      ∃ vm₂ : Vm, s.WarmedH vm₂ ∧ ∀ (Z : State), Z.vm = vm₁ → Z.heap[a]? = some cell → ∀ (Q : Handler → Pre) (E : CtlPost) (d : Bool) (acts : List Action), wp (findHandler.go f a xs) Q E e d acts Z ↔ Q (.found h) d acts (Z.setVm vm₂)
  | [], ys, vm₁, h, hW, hl, hx, hp => by
    simp [pm_pick] at hp
  | x :: xs, [], vm₁, h, hW, hl, hx, hp => by
    simp at hl
  | x :: xs, Y :: ys, vm₁, h, hW, hl, hx, hp => by
    obtain ⟨h1, h2, h3, h4⟩ := hx 0 x Y rfl rfl
    have hpl : e.platform.magicAccessors = ({} : Platform).magicAccessors := by rw [X0.admits.platform]
    obtain ⟨cY, hcY, hcl⟩ := Cond.classLink_spec hown h3 e.platform hpl
    obtain ⟨dk, _, _, kt, hd, _, _, _, _, hkt, _, hopen⟩ := hcl.here
    have hcl₀ := hW.classLinks hcl
    have hW' : s.WarmedH (vm₁.noted m.cls x.catchType (.cls cY)) := hW.noted hd hopen (State.rightAt_cls hcl)
    obtain ⟨ks', hks', -⟩ := hW'.alike.2.2 _ _ hkx
    obtain ⟨kt', hkt', -⟩ := hW'.alike.2.2 _ _ hkt
    have hgo : ∀ (Z : State), Z.vm = vm₁ → Z.heap[a]? = some cell → ∀ (Q : Handler → Pre) (E : CtlPost) (d : Bool) (acts : List Action), wp (findHandler.go f a (x :: xs)) Q E e d acts Z ↔ if (vm₁.noted m.cls x.catchType (.cls cY)).assignable cell.cls cY = true then Q (.found x.handlerPc) d acts (Z.setVm (vm₁.noted m.cls x.catchType (.cls cY))) else wp (findHandler.go f a xs) Q E e d acts (Z.setVm (vm₁.noted m.cls x.catchType (.cls cY))) := by
      intro Z hZ hZc Q E d acts
      refine pm_go h1 h2 ?_ ?_ hZc hobj ⟨_, hks'⟩ ⟨_, hkt'⟩ Q E d acts
      · rw [hZ, hf]
        exact resolveClass_links e.toSetting hcl₀
      · rw [hZ, Vm.size_noted]
        exact Nat.le_refl _
    have ha : (vm₁.noted m.cls x.catchType (.cls cY)).assignable cell.cls cY = decide (X = Y) := by
      rw [hW'.alike.assignable]
      exact hasg Y cY hcY h4
    have hp : (if X = Y then some x.handlerPc else pm_pick X ((xs.map fun x => x.handlerPc).zip ys)) = some h := hp
    by_cases e1 : X = Y
    · rw [if_pos e1] at hp
      cases hp
      refine ⟨_, hW', fun Z hZ hZc Q E d acts => ?_⟩
      rw [hgo Z hZ hZc, ha, decide_eq_true e1, if_pos rfl]
    · rw [if_neg e1] at hp
      obtain ⟨vm₂, g1, g2⟩ := pm_finds X0 hown hf hobj hcls hkx hasg xs ys (vm₁.noted m.cls x.catchType (.cls cY)) h hW' (by simpa using hl) (fun i x' Y' a1 a2 => hx (i + 1) x' Y' (by simpa using a1) (by simpa using a2)) hp
      refine ⟨vm₂, g1, fun Z hZ hZc Q E d acts => ?_⟩
      rw [hgo Z hZ hZc, ha, decide_eq_false e1, if_neg (by decide), g2 (Z.setVm (vm₁.noted m.cls x.catchType (.cls cY))) rfl hZc]
      rfl
theorem pm_caught {p : Program} {l : Launch} {e : Env} {R : Room} {s : State} {m : MethodId} {args : Array Value} {below : List Frame} {meth : Method} {c : Code} {T : State} {locs : List Loc} {cells slots : Nat}
    (X : Stand p l e R s m args below meth c T locs cells slots) (a : Addr) {g : JFrame} (hg : g.method = m) {pc : Nat} {vm' : Vm}
    (hfind : ∀ (Q : Handler → Pre) (E : CtlPost) (d : Bool) (acts : List Action), wp (findHandler g a) Q E e d acts ((T.setTop g).pushFrame (.throwing a)) ↔ Q (.found pc) d acts (((T.setTop g).pushFrame (.throwing a)).setVm vm')) {target : State}
    (hrest : Steps p.tables e below ((T.setVm vm').setTop { g with pc := pc, stack := [.ref a] }) target) : Steps p.tables e below ((T.setTop g).pushFrame (.throwing a)) target := by
  have h : At T g.method c below := by rw [hg]; exact X.here
  obtain ⟨hgo, hw⟩ := h.throwing a
  refine Steps.head hgo hw ?_
  obtain ⟨g₀, hg0⟩ := Option.isSome_iff_exists.mp h.top
  obtain ⟨r, hr⟩ := State.topJava?_eq_some.mp hg0
  rw [stepThread_throwing (frames_entered h.top _)]
  have hstep : (stepThrowing e ((T.setTop g).pushFrame (.throwing a)) a (.java g :: T.frames.tail)).1 = ((((T.setTop g).pushFrame (.throwing a)).setVm vm').setFrames (.java { g with pc := pc, stack := [.ref a] } :: T.frames.tail)) := by
    simp only [stepThrowing, searchFrame, vmDo]
    generalize hr' : Sem.go _ e false [] ((T.setTop g).pushFrame (.throwing a)) = res
    obtain ⟨as, rfl, -⟩ := Sem.eq_ok_of hr' (a := Handler.found pc) (s' := ((T.setTop g).pushFrame (.throwing a)).setVm vm') (acts' := []) (by simp [hfind _ _ _ _])
    rfl
  rw [hstep]
  have hr2 : (T.setVm vm').frames = .java g₀ :: r := hr
  rw [State.setTop_of_frames _ hr2] at hrest
  have he : (((T.setTop g).pushFrame (.throwing a)).setVm vm').setFrames (.java { g with pc := pc, stack := [.ref a] } :: T.frames.tail) = (T.setVm vm').setFrames (.java { g with pc := pc, stack := [.ref a] } :: r) := by
    rw [State.pushFrame, State.setTop_of_frames _ hr, State.setFrames_setFrames, hr]
    show ((T.setFrames _).setVm vm').setFrames _ = _
    have : (T.setFrames (.throwing a :: (T.setFrames (.java g :: r)).frames)).setVm vm' = (T.setVm vm').setFrames (.throwing a :: (T.setFrames (.java g :: r)).frames) := rfl
    rw [this, State.setFrames_setFrames]
    rfl
  rw [he]
  exact hrest
