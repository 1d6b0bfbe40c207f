/-! calls whose throws are caught -/
/-- which exceptions fit which handlers, in the first state -/
def pm_asg (b : pB) : Prop := ∀ (X : String) (cX : ClassId), b.2.1.vm.findClass X = some cX → (∃ kx, b.2.1.vm.classes[cX]? = some kx) ∧ ∀ (Y : String) (cY : ClassId), b.2.1.vm.findClass Y = some cY → (Y = X ∨ pm_no X Y) → b.2.1.vm.assignable cX cY = decide (X = Y)
theorem pm_finds2 {p : Program} {l : Launch} {e : Env} {R : Room} {s : State} {m : MethodId} {args : Array Value} {below : List Frame} {meth : Method} {c : Code} {T : State} {locs : List Loc} {cells slots : Nat}
    (X0 : Stand p l e R s m args below meth c T locs cells slots) {own X : String} (hown : s.vm.findClass own = some m.cls) {f : JFrame} (hf : f.method = m) {a : Addr} {cell : Cell} (hobj : ∀ k, cell.vm ≠ .statics k) (hcls : s.vm.findClass X = some cell.cls) {kx : Class} (hkx : s.vm.classes[cell.cls]? = some kx)
    (hasg : ∀ (Y : String) (cY : ClassId), s.vm.findClass Y = some cY → (Y = X ∨ pm_no X Y) → s.vm.assignable cell.cls cY = decide (X = Y)) :
    ∀ (xs : List ExceptionTableEntry) (ys : List String) (vm₁ : Vm) (h : Nat), s.WarmedH vm₁ → (∀ (i : Nat) (x : ExceptionTableEntry) (Y : String), xs[i]? = some x → ys[i]? = some Y → covers x f.pc = true ∧ x.catchType ≠ 0 ∧ (Cond.classLink own x.catchType Y).before args s = true ∧ (Y = X ∨ pm_no X Y)) →
      pm_pick X ((xs.map fun x => x.handlerPc).zip ys) = some h →
      ∃ vm₂ : Vm, s.WarmedH vm₂ ∧ ∀ (Z : State), Z.vm = vm₁ → Z.heap[a]? = some cell → ∀ (Q : Handler → Pre) (E : CtlPost) (d : Bool) (acts : List Action), wp (findHandler.go f a xs) Q E e d acts Z ↔ Q (.found h) d acts (Z.setVm vm₂)
  | [], ys, vm₁, h, hW, hx, hp => by
    simp [pm_pick] at hp
  | x :: xs, [], vm₁, h, hW, hx, hp => by
    simp [pm_pick] at hp
  | x :: xs, Y :: ys, vm₁, h, hW, hx, hp => by
    obtain ⟨h1, h2, h3, h4⟩ := hx 0 x Y rfl rfl
    have hpl : e.platform.magicAccessors = ({} : Platform).magicAccessors := by rw [X0.admits.platform]
    obtain ⟨cY, hcY, hcl⟩ := Cond.classLink_spec hown h3 e.platform hpl
    obtain ⟨dk, _, _, kt, hd, _, _, _, _, hkt, _, hopen⟩ := hcl.here
    have hcl₀ := hW.classLinks hcl
    have hW' : s.WarmedH (vm₁.noted m.cls x.catchType (.cls cY)) := hW.noted hd hopen (State.rightAt_cls hcl)
    obtain ⟨ks', hks', -⟩ := hW'.alike.2.2 _ _ hkx
    obtain ⟨kt', hkt', -⟩ := hW'.alike.2.2 _ _ hkt
    have hgo : ∀ (Z : State), Z.vm = vm₁ → Z.heap[a]? = some cell → ∀ (Q : Handler → Pre) (E : CtlPost) (d : Bool) (acts : List Action), wp (findHandler.go f a (x :: xs)) Q E e d acts Z ↔ if (vm₁.noted m.cls x.catchType (.cls cY)).assignable cell.cls cY = true then Q (.found x.handlerPc) d acts (Z.setVm (vm₁.noted m.cls x.catchType (.cls cY))) else wp (findHandler.go f a xs) Q E e d acts (Z.setVm (vm₁.noted m.cls x.catchType (.cls cY))) := by
      intro Z hZ hZc Q E d acts
      refine pm_go h1 h2 ?_ ?_ hZc hobj ⟨_, hks'⟩ ⟨_, hkt'⟩ Q E d acts
      · rw [hZ, hf]
        exact resolveClass_links e.toSetting hcl₀
      · rw [hZ, Vm.size_noted]
        exact Nat.le_refl _
    have ha : (vm₁.noted m.cls x.catchType (.cls cY)).assignable cell.cls cY = decide (X = Y) := by
      rw [hW'.alike.assignable]
      exact hasg Y cY hcY h4
    have hp : (if X = Y then some x.handlerPc else pm_pick X ((xs.map fun x => x.handlerPc).zip ys)) = some h := hp
    by_cases e1 : X = Y
    · rw [if_pos e1] at hp
      cases hp
      refine ⟨_, hW', fun Z hZ hZc Q E d acts => ?_⟩
      rw [hgo Z hZ hZc, ha, decide_eq_true e1, if_pos rfl]
    · rw [if_neg e1] at hp
      obtain ⟨vm₂, g1, g2⟩ := pm_finds2 X0 hown hf hobj hcls hkx hasg xs ys (vm₁.noted m.cls x.catchType (.cls cY)) h hW' (fun i x' Y' a1 a2 => hx (i + 1) x' Y' (by simpa using a1) (by simpa using a2)) hp
      refine ⟨vm₂, g1, fun Z hZ hZc Q E d acts => ?_⟩
      rw [hgo Z hZ hZc, ha, decide_eq_false e1, if_neg (by decide), g2 (Z.setVm (vm₁.noted m.cls x.catchType (.cls cY))) rfl hZc]
      rfl
section VC
variable {b : pB} {d : Nat} {k k' : pK} {pc : Nat} {f : Bool} {lo : List (Option pV)} {st rest : List pV} {g : pG} {σ : pI} {τ : pJ} {cu su mc ms mc' ms' : Nat} {E : pE}
theorem pm_callVC {idx i ci h : Nat} {vs stk : List pV} {Tt : u_T} {N : Nat} {X : String} (ys : List String) (hB : pm_base b) (hA : pm_asg b) (hd : decode k.2.1 pc = .ok (.invokevirtual idx, 3)) (hc : pm_CV k.1.cls idx k' vs.length)
    (hC : pm_C b d k' (pm_R i :: vs) g σ τ mc' ms' (.inr (.inl X))) (hs : g.2.1 i = (0, ci)) (hi : i < g.1) (hcl : pm_cl[ci]? = some (k'.1.cls, Tt, N))
    (hstk : stk = vs.reverse ++ pm_R i :: rest) (h1 : vs.all pm_one = true) (hj : vs.all pm_nj = true) (hn : vs.length + 1 ≤ k'.2.2.1) (hw : (rest.map pm_wt).sum ≤ 8) (hcu : cu + mc' ≤ mc) (hsu : su + ms' ≤ ms)
    (hx : ∀ (j a1 a2 a3 a4 : Nat) (Y : String), k.2.2.2.2[j]? = some (a1, a2, a3, a4) → ys[j]? = some Y → (a1 ≤ pc ∧ pc < a2) ∧ a4 ≠ 0 ∧ Cond.classLink k.1.cls a4 Y ∈ pm_words ∧ (Y = X ∨ pm_no X Y))
    (hp : pm_pick X ((k.2.2.2.2.map fun q => q.2.2.1).zip ys) = some h)
    (K : pm_Y b (d + 1) k h f [] [pm_J] g σ τ (cu + mc') (su + ms') mc ms E) : pm_Y b (d + 1) k pc f lo stk g σ τ cu su mc ms E := by
  intro p e R s m args below meth c H locs ls ad jk hF hR hI hL T hT X0
  obtain ⟨a, T', X', hk, hz, ⟨ha, ce, hce1, hce2, hce3⟩, hst⟩ := pm_thrown hB hd hc hC hs hi hcl hstk h1 hj hn hw hcu hsu hF hR hI hL hT X0
  have hxt := hF.xt
  have hal := hF.warm.alike
  have hfX : b.2.1.vm.findClass X = some ce.cls := by rw [← hal.findClass]; exact hce3
  obtain ⟨⟨kx, hkx⟩, hasg⟩ := hA X ce.cls hfX
  obtain ⟨kx', hkx', -⟩ := hal.2.2 _ _ hkx
  obtain ⟨vm₂, hW2, hfind⟩ := pm_finds2 X' (own := k.1.cls) (X := X) hF.own (f := F0 m pc ls (rest.map (pm_v ad b.2.2.2.2.2.1 jk))) rfl (a := a) (cell := ce) (fun q hq => by rw [hq] at hce2; cases hce2) hce3 hkx' (fun Y cY hY hy => by
      rw [hal.assignable]
      exact hasg Y cY (by rw [← hal.findClass]; exact hY) hy) c.exceptionTable.toList ys T'.vm h X'.warmed (fun j x Y hj hY => by
      have h9 : k.2.2.2.2[j]? = some (x.startPc, x.endPc, x.handlerPc, x.catchType) := by
        rw [← hxt, List.getElem?_map, hj]
        rfl
      obtain ⟨q1, q2, q3, q4⟩ := hx j _ _ _ _ Y h9 hY
      refine ⟨?_, q2, hF.ws _ q3, q4⟩
      show covers x pc = true
      simp only [covers]
      simp [q1.1, q1.2]) (by
      have h9 : k.2.2.2.2.map (fun q => q.2.2.1) = c.exceptionTable.toList.map fun x => x.handlerPc := by
        rw [← hxt, List.map_map]
        rfl
      rw [← h9]
      exact hp)
  have hX2 : Stand p b.1 e R s m args below meth c (T'.setVm vm₂) locs (cu + mc') (su + ms') := X'.noted hW2
  have hH : (T'.setVm vm₂).heap = T'.heap := rfl
  obtain ⟨t, g1, g2⟩ := K p e R s m args below meth c T'.heap locs ls ad a hF hR ⟨pm_P_keep hI.1 hk, hI.2.1, pm_S_keep hI.2.2.1 hk hz, hI.2.2.2⟩ ⟨hL.1, hL.2.1, fun j v hv => by cases hv⟩ (T'.setVm vm₂) hH hX2
  refine ⟨t, hst t (pm_caught X' a (g := F0 m pc ls (rest.map (pm_v ad b.2.2.2.2.2.1 jk))) rfl (pc := h) (vm' := vm₂) (fun Q E d acts => ?_) g1), g2⟩
  have hvm : ((T'.setTop (F0 m pc ls (rest.map (pm_v ad b.2.2.2.2.2.1 jk)))).pushFrame (.throwing a)).vm = T'.vm := Stand.throwing_vm T' _ a
  have hhp : ((T'.setTop (F0 m pc ls (rest.map (pm_v ad b.2.2.2.2.2.1 jk)))).pushFrame (.throwing a)).heap = T'.heap := Stand.throwing_heap T' _ a
  rw [W.findHandler_eq (meth := meth) (code := c) (by rw [hvm]; exact X'.method') X'.code]
  exact hfind _ hvm (by rw [hhp]; exact hce1) Q E d acts
end VC
