/-! static calls; constructors -/
def pm_upR (r : Nat → Nat → Option Nat) (i j : Nat) (x : Option Nat) : Nat → Nat → Option Nat := fun a c => if a = i ∧ c = j then x else r a c
theorem pm_upR_at {r : Nat → Nat → Option Nat} {i j : Nat} {x : Option Nat} : pm_upR r i j x i j = x := if_pos ⟨rfl, rfl⟩
theorem pm_upR_ne {r : Nat → Nat → Option Nat} {i j a c : Nat} {x : Option Nat} (h : ¬ (a = i ∧ c = j)) : pm_upR r i j x a c = r a c := if_neg h
def pm_CS (own : String) (idx : Nat) (k' : pK) (n : Nat) : Prop := Cond.methodLink own idx k'.1 ∈ pm_words ∧ Cond.static k'.1 ∈ pm_words ∧ (parseMethodDescriptor k'.1.desc).map (fun d => d.parameters.length) = some n ∧ pm_kok k'
section PMS
variable {b : pB} {d : Nat} {k k' : pK} {pc : Nat} {f : Bool} {lo : List (Option pV)} {st rest : List pV} {g : pG} {σ : pI} {τ : pJ} {cu su mc ms mc' ms' : Nat} {E : pE}
theorem pm_callS {idx : Nat} {vs stk : List pV} {wr : Bool} {Q : Option Int32 → pI → pJ → Prop} (hB : pm_base b) (hd : decode k.2.1 pc = .ok (.invokestatic idx, 3)) (hc : pm_CS k.1.cls idx k' vs.length)
    (hC : pm_C b d k' vs g σ τ mc' ms' (.inl (wr, Q))) (hstk : stk = vs.reverse ++ rest) (h1 : vs.all pm_one = true) (hj : vs.all pm_nj = true) (hn : vs.length ≤ k'.2.2.1) (hw : (rest.map pm_wt).sum ≤ 8) (hcu : cu + mc' ≤ mc) (hsu : su + ms' ≤ ms)
    (hK : ∀ (v : Option Int32) (σ' : pI) (τ' : pJ), v.isSome = k'.2.2.2.1.isSome → Q v σ' τ' → pm_Y b (d + 1) k (pc + 3) (f || wr) lo (v.toList.map pm_I ++ rest) g σ' τ' (cu + mc') (su + ms') mc ms E) :
    pm_Y b (d + 1) k pc f lo stk g σ τ cu su mc ms E := by
  intro p e R s m args below meth c H locs ls ad jk hF hR hI hL
  obtain ⟨c1, c2, c4, c5⟩ := hc
  have hM := pm_met (ad := ad) hB c5 hC h1 hn (Qc := pm_Qr b k' ad g Q) (free := fun q => wr = true ∧ pm_A b q) (fun _ _ _ => rfl)
  have hmap : vs.map (pm_v ad b.2.2.2.2.2.1 jk) = vs.map (pm_v ad b.2.2.2.2.2.1 0) := pm_nj_map hj
  have hmc := hR.2.2.1
  have hms := hR.2.2.2
  have hR1 := hR.1
  have hR2 := hR.2.1
  have hk2 := c5.2.1
  refine pm_after (k' := k') (rest := rest) (a := (vs.map (pm_v ad b.2.2.2.2.2.1 jk)).toArray) (Q := Q) (wr := wr) (mc' := mc') (ms' := ms') ?_ hF hR hI hL hK
  intro T hT X
  have hwords : ∀ w ∈ [pm_word k'], ∀ (a' : Array Value) (U : State), s.WarmedH U.vm → w.before a' U = true := fun w hw' a' U hW => by
    rw [List.mem_singleton] at hw'
    subst hw'
    exact pm_at hW (pm_good _ c5.2.2.1) (hF.ws _ c5.2.2.1)
  have hini : ∀ (a' : Array Value) (U : State), s.WarmedH U.vm → (Cond.initialized k'.1.cls).before a' U = true := fun a' U hW => pm_at hW (pm_good _ c5.2.2.2.1) (hF.ws _ c5.2.2.2.1)
  have hK' : Back b.1 R p e below s args k'.1 3 8 (PreOf R mc' ms' (pm_Pc b ad vs g σ τ)) (PostOf (pm_Qr b k' ad g Q) mc' ms' (fun q => wr = true ∧ pm_A b q)) := by
    have hf1 : (pm_rm d mc' ms').frames + 1 ≤ R.frames := by show d + 7 + 1 ≤ R.frames; omega
    have hl1 : 8 + (k'.2.2.1 + 11) + (pm_rm d mc' ms').locals ≤ R.locals := by show 8 + (k'.2.2.1 + 11) + (64 * d + 120) ≤ R.locals; omega
    cases hh : k'.2.2.2.2 with
    | nil => exact back_of (bytes := k'.2.1) (maxL := k'.2.2.1) (ret := k'.2.2.2.1) hM pm_blind rfl rfl hf1 hl1 hwords (by unfold pm_word; rw [hh]; exact List.mem_cons_self) hini
    | cons x t => exact va_backW (bytes := k'.2.1) (maxL := k'.2.2.1) (ret := k'.2.2.2.1) (hh := x :: t) hM pm_blind rfl rfl hf1 hl1 hwords (by unfold pm_word; rw [hh]; exact List.mem_cons_self) hini
  have hnm : ∃ (mk : MethodId) (methM : Method), s.methodNamed? k'.1 = some mk ∧ s.vm.method? mk = some methM ∧ parseMethodDescriptor k'.1.desc = some methM.sig := by
    have hw' := hF.ws _ c5.2.2.1
    unfold pm_word at hw'
    cases hh : k'.2.2.2.2 with
    | nil =>
      rw [hh] at hw'
      obtain ⟨mk, hnamed⟩ := Cond.code_named hw'
      obtain ⟨methM, cM, q1, -, -, -, -, -, -, q9⟩ := Cond.code_spec hnamed hw'
      exact ⟨mk, methM, hnamed, q1, q9⟩
    | cons x t =>
      rw [hh] at hw'
      obtain ⟨mk, methM, cM, q0, q1, -, -, -, -, -, -, q9⟩ := Cond.codeWith_spec hw'
      exact ⟨mk, methM, q0, q1, q9⟩
  obtain ⟨mk, methM, hnamed, hmethM, hsigM⟩ := hnm
  have hstatic : methM.isStatic = true := Cond.static_spec hnamed hmethM (hF.ws _ c2)
  obtain ⟨kP, hkP, -⟩ := className_of_methodNamed hnamed
  have hinitP : kP.init = .initialized := Cond.initialized_spec (findClass_of_methodNamed hnamed) hkP (hF.ws _ c5.2.2.2.1)
  have hlen : (vs.map (pm_v ad b.2.2.2.2.2.1 jk)).length = methM.sig.parameters.length := by
    rw [List.length_map]
    rw [hsigM] at c4
    exact (Option.some.inj c4).symm
  obtain ⟨vm₁, X₁, hstep₁⟩ := X.invokestatic hF.1 hF.own (hF.ws _ c1) hnamed hmethM hstatic hkP hinitP c5.2.2.2.2 (g := F0 m pc ls (stk.map (pm_v ad b.2.2.2.2.2.1 jk))) rfl (argsL := vs.map (pm_v ad b.2.2.2.2.2.1 jk)) (rest := rest.map (pm_v ad b.2.2.2.2.2.1 jk)) hlen (by rw [hstk, List.map_append, List.map_reverse]) (by rw [hF.2.1]; exact hd)
  obtain ⟨v, ⟨U', l2, n2, s2⟩, X', ⟨g', mk', t, L, e1, e2, hq, q1, hL', q2, q3⟩, hsteps⟩ := hK' m meth c ⟨T.setVm vm₁, locs, cu, su⟩ (F0 m pc ls (rest.map (pm_v ad b.2.2.2.2.2.1 jk))) (.invokestatic idx) mk (vs.map (pm_v ad b.2.2.2.2.2.1 jk)).toArray X₁ rfl (hL.1.trans hF.2.2.1.symm) (by rw [hF.2.1]; exact hd) (lv_room (by rw [pm_v_sum]; exact hw)) (X₁.named hnamed)
    ⟨by show cu + mc' ≤ R.cells; omega, by show su + ms' ≤ R.slots; omega, pm_pre hF hI (U := T.setVm vm₁) hT X₁.warmed hmap⟩
  dsimp only [Pt.U, Pt.locs, Pt.cells, Pt.slots] at X' e1 e2 q1 q2 q3 hsteps
  subst q1; subst q2; subst q3
  exact ⟨v, (T.setVm vm₁).calling g' mk' (vs.map (pm_v ad b.2.2.2.2.2.1 jk)).toArray, t, U', L, hT, X', hL', e1, e2, hq, fun target h => hstep₁ _ fun acts => by rw [doInvoke_state]; exact hsteps.trans h⟩
end PMS
section PMQ
variable {b : pB} {d : Nat} {k k' : pK} {pc : Nat} {f : Bool} {lo : List (Option pV)} {st rest : List pV} {g : pG} {σ : pI} {τ : pJ} {cu su mc ms mc' ms' : Nat} {Q : pG → pI → pJ → Prop}
theorem pm_putrF {idx ci j i r : Nat} {ty : FieldType} (hd : decode k.2.1 pc = .ok (.putfield idx, 3)) (hf : pm_FP k.1.cls idx ci j ty true) (hty : (∃ n, ty = .object n) ∨ ∃ t, ty = .array t) (hin : k.1.name = "<init>") (hown : ∃ T N, pm_cl[ci]? = some (k.1.cls, T, N)) (hs : g.2.1 i = (0, ci)) (hi : i < g.1) (hr : pm_rf ci j = true)
    (K : pm_Y b d k (pc + 3) true lo st (g.1, g.2.1, pm_upR g.2.2 i j (some r)) σ τ cu su mc ms (.inr (.inr Q))) : pm_Y b d k pc f lo (pm_R r :: pm_R i :: st) g σ τ cu su mc ms (.inr (.inr Q)) := by
  intro p e R s m args below meth c H locs ls ad jk hF hR hI hL
  obtain ⟨C, T, ty0, h1, h2, h3, h4, h5, h6, h7, h8, h9⟩ := hf
  obtain ⟨T', N', hcl⟩ := hown
  have hC : C = k.1.cls := by
    rw [h1] at hcl
    exact congrArg (fun q => q.1) (Option.some.inj hcl)
  refine va_putF (own := k.1.cls) (ref := C) (C := C) (T := T) (N := pm_nf ci) (v := .ref (ad r)) (ty := ty) hF.1 hF.2.1 hF.ws h5 ty0 h6 h7 hF.own hF.K hI.1 hI.2.1.to hI.2.2.1 i (by rw [pm_ws_get hi, pm_ct_o hs]) h1 j h2 (hF.ws _ h4) (fun x h => by rw [h3] at h; exact h) h8 (hF.name.trans hin) (h3.trans hC) h9 (by rcases hty with ⟨n, rfl⟩ | ⟨t, rfl⟩ <;> rfl) (by rcases hty with ⟨n, rfl⟩ | ⟨t, rfl⟩ <;> rfl) (by rw [List.length_map, List.length_range]; exact h2) hd (fun H1 locs1 hP _ hS => ?_)
  have hm : ((List.range (pm_nf ci)).map (pm_fs ad g σ ci i)).set j (.ref (ad r)) = (List.range (pm_nf ci)).map (pm_fs ad (g.1, g.2.1, pm_upR g.2.2 i j (some r)) σ ci i) := by
    refine pm_map_set (pm_nf ci) j (pm_fs ad g σ ci i) (pm_fs ad (g.1, g.2.1, pm_upR g.2.2 i j (some r)) σ ci i) (fun a ha => ?_) ?_
    · show (if pm_rf ci a = true then va_rf ((pm_upR g.2.2 i j (some r) i a).map ad) else Value.int (σ i a)) = (if pm_rf ci a = true then va_rf ((g.2.2 i a).map ad) else Value.int (σ i a))
      rw [pm_upR_ne (fun z => ha z.2)]
    · show _ = (if pm_rf ci j = true then va_rf ((pm_upR g.2.2 i j (some r) i j).map ad) else Value.int (σ i j))
      rw [hr, pm_upR_at]
      rfl
  have hset : (pm_ws b ad g σ τ).set i (ad i, .inr (ci, ((List.range (pm_nf ci)).map (pm_fs ad g σ ci i)).set j (.ref (ad r)))) = pm_ws b ad (g.1, g.2.1, pm_upR g.2.2 i j (some r)) σ τ := by
    refine pm_ws_set (g := g) (g' := (g.1, g.2.1, pm_upR g.2.2 i j (some r))) rfl (fun a ha => ?_) ?_
    · have hrow : pm_upR g.2.2 i j (some r) a = g.2.2 a := by
        funext q
        exact if_neg fun z => ha z.1
      unfold pm_ct
      simp only [hrow]
    · rw [hm, pm_ct_o (g := (g.1, g.2.1, pm_upR g.2.2 i j (some r))) hs]
  rw [hset] at hP
  exact K p e R s m args below meth c H1 locs1 ls ad jk hF hR ⟨hP, hI.2.1, hS, fun h => by cases h⟩ hL
theorem pm_objInit {idx i : Nat} (hd : decode k.2.1 pc = .ok (.invokespecial idx, 3)) (hw1 : Cond.methodLink k.1.cls idx Lib.objectInit ∈ pm_words) (hw2 : Cond.instanceMethod Lib.objectInit ∈ pm_words) (hw3 : Cond.code Lib.objectInit ⟨#[0xb1]⟩ 1 none ∈ pm_words) (hst : (st.map pm_wt).sum ≤ 8) {E : pE}
    (K : pm_Y b d k (pc + 3) f lo st g σ τ cu su mc ms E) : pm_Y b d k pc f lo (pm_R i :: st) g σ τ cu su mc ms E := by
  intro p e R s m args below meth c H locs ls ad jk hF hR hI hL
  have hR1 := hR.1
  have hR2 := hR.2.1
  refine W.objInit (g := F0 m pc ls ((pm_R i :: st).map (pm_v ad b.2.2.2.2.2.1 jk))) (rest := st.map (pm_v ad b.2.2.2.2.2.1 jk)) hF.1 hF.2.1 hF.own (hF.ws _ hw1) (hF.ws _ hw2) (hF.ws _ hw3) rfl (hL.1.trans hF.2.2.1.symm) rfl hd (by omega) (by
    rw [pm_v_sum]
    show 2 * 0 + (st.map pm_wt).sum + 12 ≤ R.locals
    omega) ?_
  exact K _ _ _ _ _ _ _ _ _ _ _ _ _ _ hF hR hI hL
theorem pm_returnN (hd : decode k.2.1 pc = .ok (.return_, 1)) (hr : k.2.2.2.1 = none) (hc : cu ≤ mc) (hs : su ≤ ms) (hq : Q g σ τ) : pm_Y b d k pc f lo [] g σ τ cu su mc ms (.inr (.inr Q)) := by
  intro p e R s m args below meth c H locs ls ad jk hF hR hI hL
  have hlocks := hF.locks
  refine W.widen hc hs ?_
  exact W.vret (Qc := pm_Qn b ad g Q) (free := pm_A b) hF.1 hF.2.1 (hF.ret.trans hr) (fun t ht hW => ⟨ad, g, σ, τ, rfl, hq, Nat.le_refl _, fun _ _ => rfl, by rw [ht]; exact hI.1, hI.2.1, by rw [ht]; exact ⟨hI.2.2.1.1, hI.2.2.1.2.1, fun q h => by cases h⟩⟩) hI.2.2.1.2.2 hd
variable {p : Program} {e : Env} {R : Room} {s : State} {m : MethodId} {args : Array Value} {below : List Frame} {meth : Method} {c : Code} {H : Heap} {locs : List Loc} {ls : Array Slot} {ad : Nat → Nat} {jk : Nat}
theorem pm_afterN {st0 : List Value} {a : Array Value} {Q' : pG → pI → pJ → Prop}
    (hrun : va_Run p b.1 e R s m args below meth c H locs cu su mc' ms' (F0 m pc ls st0) (rest.map (pm_v ad b.2.2.2.2.2.1 jk)) (pm_Qn b ad g Q' a) (pm_A b))
    (hF : pm_fr b k p e s m args meth c) (hR : pm_room d mc ms R) (hI : pm_inv b ad f g σ τ H locs) (hL : pm_lo b ad jk k.2.2.1 lo ls) (hlo : lo.all (pm_lto g.1) = true) (hst : rest.all (pm_lt g.1) = true)
    (hK : ∀ (g' : pG) (σ' : pI) (τ' : pJ), Q' g' σ' τ' → pm_Y b d k (pc + 3) true lo rest g' σ' τ' (cu + mc') (su + ms') mc ms (.inr (.inr Q))) :
    W p b.1 e R s m args below meth c H locs cu su (pm_end b k (.inr (.inr Q)) ad g below args s mc ms) (F0 m pc ls st0) := by
  intro T hT X
  obtain ⟨v, st₀, t, T', L, h0, X', hL', e1, e2, ⟨ad', g', σ', τ', hv, hq, hg, had, hP', hD', hS'⟩, st⟩ := hrun T hT X
  cases hv
  have hinv : pm_inv b ad' true g' σ' τ' T'.heap (locs ++ L) := by
    refine ⟨by rw [e1]; exact hP', hD', ⟨by rw [e1]; exact hS'.1, by rw [e1]; exact hS'.2.1, fun q hq' => ?_⟩, fun h => by cases h⟩
    rcases List.mem_append.mp hq' with h | h
    · exact hI.2.2.1.2.2 q h
    · exact hL' q h
  obtain ⟨t2, a1, b1⟩ := hK g' σ' τ' hq p e R s m args below meth c T'.heap (locs ++ L) ls ad' jk hF hR hinv (pm_lt_lo had hlo hL) T' rfl X'
  rw [pm_lt_map had hst] at a1
  exact ⟨t2, st t2 a1, pm_end_mono hg had t2 b1⟩
end PMQ
def pm_CI (own : String) (idx : Nat) (k' : pK) (n : Nat) : Prop := Cond.methodLink own idx k'.1 ∈ pm_words ∧ Cond.instanceMethod k'.1 ∈ pm_words ∧ (parseMethodDescriptor k'.1.desc).map (fun d => d.parameters.length) = some n ∧ pm_kok k' ∧ k'.2.2.2.2 = [] ∧ k'.1.name = "<init>" ∧ k'.2.2.2.1 = none
def pm_CIN (own host : String) (idx : Nat) (k' : pK) (n : Nat) : Prop := Cond.methodLinkNest own idx k'.1 host ∈ pm_words ∧ Cond.instanceMethod k'.1 ∈ pm_words ∧ (parseMethodDescriptor k'.1.desc).map (fun d => d.parameters.length) = some n ∧ pm_kok k' ∧ k'.2.2.2.2 = [] ∧ k'.1.name = "<init>" ∧ k'.2.2.2.1 = none
section PMZ
variable {b : pB} {d : Nat} {k k' : pK} {pc : Nat} {f : Bool} {lo : List (Option pV)} {st rest : List pV} {g : pG} {σ : pI} {τ : pJ} {cu su mc ms mc' ms' : Nat} {Q Q' : pG → pI → pJ → Prop}
theorem pm_callI {idx i : Nat} {vs stk : List pV} (hB : pm_base b) (hd : decode k.2.1 pc = .ok (.invokespecial idx, 3)) (hc : pm_CI k.1.cls idx k' vs.length)
    (hC : pm_C b d k' (pm_R i :: vs) g σ τ mc' ms' (.inr (.inr Q'))) (hstk : stk = vs.reverse ++ pm_R i :: rest) (h1 : vs.all pm_one = true) (hj : vs.all pm_nj = true) (hn : vs.length + 1 ≤ k'.2.2.1) (hw : (rest.map pm_wt).sum ≤ 8) (hcu : cu + mc' ≤ mc) (hsu : su + ms' ≤ ms)
    (hlo : lo.all (pm_lto g.1) = true) (hst : rest.all (pm_lt g.1) = true)
    (hK : ∀ (g' : pG) (σ' : pI) (τ' : pJ), Q' g' σ' τ' → pm_Y b (d + 1) k (pc + 3) true lo rest g' σ' τ' (cu + mc') (su + ms') mc ms (.inr (.inr Q))) :
    pm_Y b (d + 1) k pc f lo stk g σ τ cu su mc ms (.inr (.inr Q)) := by
  intro p e R s m args below meth c H locs ls ad jk hF hR hI hL
  obtain ⟨c1, c2, c4, c5, c6, c7, c8⟩ := hc
  have hM := pm_met (ad := ad) hB c5 hC (by rw [List.all_cons, h1]; rfl) (by rw [List.length_cons]; exact hn) (Qc := pm_Qn b ad g Q') (free := pm_A b) (fun _ _ _ => rfl)
  have hmap : vs.map (pm_v ad b.2.2.2.2.2.1 jk) = vs.map (pm_v ad b.2.2.2.2.2.1 0) := pm_nj_map hj
  have hmc := hR.2.2.1
  have hms := hR.2.2.2
  have hcb : CallB R s args k.1.cls idx k'.1 k'.2.1 k'.2.2.1 k'.2.2.2.1 [pm_word k'] (pm_rm d mc' ms') mc' ms' vs.length := pm_callB hF hR c1 c4 c5 c6
  rw [c8] at hcb
  exact pm_afterN (rest := rest) (va_runI (Ts := pm_words) (own := k.1.cls) (n := vs.length) (b := ad i) (As := vs.map (pm_v ad b.2.2.2.2.2.1 jk)) ⟨hF.1, hF.2.1, hF.2.2.1, hF.own, hF.ws⟩ hM ⟨hcb, c7, hF.ws _ c2⟩ ⟨pm_blind, fun U hU hW => pm_pre hF hI hU hW (by rw [List.map_cons, hmap]; rfl)⟩ rfl (by rw [List.length_map]) hL.1 (by rw [hstk, List.map_append, List.map_reverse, List.map_cons]; rfl) (lv_room (by rw [pm_v_sum]; exact hw)) hd ⟨by omega, by omega⟩) hF hR hI hL hlo hst hK
theorem pm_callIN {idx i : Nat} {host : String} {vs stk : List pV} (hB : pm_base b) (hd : decode k.2.1 pc = .ok (.invokespecial idx, 3)) (hc : pm_CIN k.1.cls host idx k' vs.length)
    (hC : pm_C b d k' (pm_R i :: vs) g σ τ mc' ms' (.inr (.inr Q'))) (hstk : stk = vs.reverse ++ pm_R i :: rest) (h1 : vs.all pm_one = true) (hj : vs.all pm_nj = true) (hn : vs.length + 1 ≤ k'.2.2.1) (hw : (rest.map pm_wt).sum ≤ 8) (hcu : cu + mc' ≤ mc) (hsu : su + ms' ≤ ms)
    (hlo : lo.all (pm_lto g.1) = true) (hst : rest.all (pm_lt g.1) = true)
    (hK : ∀ (g' : pG) (σ' : pI) (τ' : pJ), Q' g' σ' τ' → pm_Y b (d + 1) k (pc + 3) true lo rest g' σ' τ' (cu + mc') (su + ms') mc ms (.inr (.inr Q))) :
    pm_Y b (d + 1) k pc f lo stk g σ τ cu su mc ms (.inr (.inr Q)) := by
  intro p e R s m args below meth c H locs ls ad jk hF hR hI hL
  obtain ⟨c1, c2, c4, c5, c6, c7, c8⟩ := hc
  have hM := pm_met (ad := ad) hB c5 hC (by rw [List.all_cons, h1]; rfl) (by rw [List.length_cons]; exact hn) (Qc := pm_Qn b ad g Q') (free := pm_A b) (fun _ _ _ => rfl)
  have hmap : vs.map (pm_v ad b.2.2.2.2.2.1 jk) = vs.map (pm_v ad b.2.2.2.2.2.1 0) := pm_nj_map hj
  have hmc := hR.2.2.1
  have hms := hR.2.2.2
  have hR1 := hR.1
  have hR2 := hR.2.1
  have hk2 := c5.2.1
  have hwd : pm_word k' = .code k'.1 k'.2.1 k'.2.2.1 none := by unfold pm_word; rw [c6, c8]
  have hcb : va_CN R s args k.1.cls idx k'.1 host k'.2.1 k'.2.2.1 none [pm_word k'] (pm_rm d mc' ms') mc' ms' vs.length := by
    refine ⟨⟨rfl, rfl, by show d + 7 + 1 ≤ R.frames; omega, by show 8 + (k'.2.2.1 + 11) + (64 * d + 120) ≤ R.locals; omega, fun w hw' a' U hW => ?_, by rw [hwd]; exact List.mem_cons_self⟩, by rw [← hwd]; exact hF.ws _ c5.2.2.1, hF.ws _ c5.2.2.2.1, c5.2.2.2.2, fun sig h => ?_, hF.ws _ c1⟩
    · rw [List.mem_singleton] at hw'
      subst hw'
      exact pm_at hW (pm_good _ c5.2.2.1) (hF.ws _ c5.2.2.1)
    · rw [h] at c4
      exact (Option.some.inj c4).symm
  exact pm_afterN (rest := rest) (va_runIN (Ts := pm_words) (own := k.1.cls) (host := host) (n := vs.length) (b := ad i) (As := vs.map (pm_v ad b.2.2.2.2.2.1 jk)) ⟨hF.1, hF.2.1, hF.2.2.1, hF.own, hF.ws⟩ hM ⟨hcb, c7, hF.ws _ c2⟩ ⟨pm_blind, fun U hU hW => pm_pre hF hI hU hW (by rw [List.map_cons, hmap]; rfl)⟩ rfl (by rw [List.length_map]) hL.1 (by rw [hstk, List.map_append, List.map_reverse, List.map_cons]; rfl) (lv_room (by rw [pm_v_sum]; exact hw)) hd ⟨by omega, by omega⟩) hF hR hI hL hlo hst hK
end PMZ
