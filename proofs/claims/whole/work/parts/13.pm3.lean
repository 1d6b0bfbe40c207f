/-! the heap: fields, arrays, the script -/
theorem pm_map_set {α : Type} (n j : Nat) (F F' : Nat → α) (h : ∀ a, a ≠ j → F' a = F a) {x : α} (hx : x = F' j) : ((List.range n).map F).set j x = (List.range n).map F' := by
  subst hx
  apply List.ext_getElem?
  intro a
  rw [List.getElem?_set]
  by_cases e : j = a
  · subst e
    rw [if_pos rfl, List.length_map, List.length_range]
    by_cases hj : j < n
    · rw [if_pos hj, List.getElem?_map, List.getElem?_range hj]; rfl
    · rw [if_neg hj, List.getElem?_eq_none]
      rw [List.length_map, List.length_range]; omega
  · rw [if_neg e]
    by_cases ha : a < n
    · rw [List.getElem?_map, List.getElem?_map, List.getElem?_range ha]
      show some (F a) = some (F' a)
      rw [h a fun z => e z.symm]
    · rw [List.getElem?_eq_none (by rw [List.length_map, List.length_range]; omega), List.getElem?_eq_none (by rw [List.length_map, List.length_range]; omega)]
/-- the entry idx of the type own's pool names the field j of the type ci -/
def pm_F (own : String) (idx ci j : Nat) : Prop := ∃ (C : String) (T : u_T), pm_cl[ci]? = some (C, T, pm_nf ci) ∧ j < pm_nf ci ∧ (T j).1 = C ∧ Cond.fieldLink own idx C (T j).2.1 (T j).2.2.1 ∈ pm_words ∧ ∀ w ∈ u_ws C T (pm_nf ci), w ∈ pm_words
def pm_FP (own : String) (idx ci j : Nat) (ty : FieldType) (fin : Bool) : Prop := ∃ (C : String) (T : u_T) (ty0 : Nat → FieldType), pm_cl[ci]? = some (C, T, pm_nf ci) ∧ j < pm_nf ci ∧ (T j).1 = C ∧ Cond.fieldLink own idx C (T j).2.1 (T j).2.2.1 ∈ pm_words ∧ (∀ w ∈ u_ws C T (pm_nf ci), w ∈ pm_words) ∧
  (∀ a, a < pm_nf ci → parseFieldDescriptor (T a).2.2.1 = some (ty0 a)) ∧ (∀ a, a < pm_nf ci → ∀ c, c < pm_nf ci → a ≠ c → (T a).2.1 ≠ (T c).2.1) ∧ (T j).2.2.2 = fin ∧ parseFieldDescriptor (T j).2.2.1 = some ty
abbrev pm_fs (ad : Nat → Nat) (g : pG) (σ : pI) (ci i : Nat) : Nat → Value := fun j => if pm_rf ci j = true then va_rf ((g.2.2 i j).map ad) else .int (σ i j)
theorem pm_ct_o {b : pB} {ad : Nat → Nat} {g : pG} {σ : pI} {τ : pJ} {i ci : Nat} (h : g.2.1 i = (0, ci)) : pm_ct b ad g σ τ i = .inr (ci, (List.range (pm_nf ci)).map (pm_fs ad g σ ci i)) := by
  unfold pm_ct
  rw [h]
  rfl
theorem pm_ct_i {b : pB} {ad : Nat → Nat} {g : pG} {σ : pI} {τ : pJ} {i n : Nat} (h : g.2.1 i = (1, n)) : pm_ct b ad g σ τ i = .inl (b.2.2.2.2.1.1, n, .inl (σ i)) := by
  unfold pm_ct
  rw [h]
  rfl
theorem pm_ct_a {b : pB} {ad : Nat → Nat} {g : pG} {σ : pI} {τ : pJ} {i n : Nat} (h : g.2.1 i = (2, n)) : pm_ct b ad g σ τ i = .inl (b.2.2.2.2.1.2.1, n, .inr (.inr (.inr (.inr fun j => (g.2.2 i j).map ad)))) := by
  unfold pm_ct
  rw [h]
  rfl
theorem pm_ct_l {b : pB} {ad : Nat → Nat} {g : pG} {σ : pI} {τ : pJ} {i n : Nat} (h : g.2.1 i = (3, n)) : pm_ct b ad g σ τ i = .inl (b.2.2.2.2.1.2.2, n, .inr (.inl (τ i))) := by
  unfold pm_ct
  rw [h]
  rfl
theorem pm_free {b : pB} {ad : Nat → Nat} {f wr : Bool} {g : pG} {σ : pI} {τ : pJ} {H : Heap} {locs : List Loc} (h : pm_inv b ad f g σ τ H locs) (hw : f = true → wr = true) : ∀ q ∈ locs, wr = true ∧ pm_A b q.base := by
  intro q hq
  refine ⟨?_, h.2.2.1.2.2 q hq⟩
  cases hf : f with
  | false => rw [h.2.2.2 hf] at hq; cases hq
  | true => exact hw hf
section PMH
variable {b : pB} {d : Nat} {k : pK} {pc : Nat} {f : Bool} {lo : List (Option pV)} {st : List pV} {g : pG} {σ : pI} {τ : pJ} {cu su mc ms : Nat} {E : pE}
variable {p : Program} {e : Env} {s : State} {m : MethodId} {args : Array Value} {meth : Method} {c : Code}
theorem pm_fr.own (h : pm_fr b k p e s m args meth c) : s.vm.findClass k.1.cls = some m.cls := h.2.2.2.1
theorem pm_fr.ret (h : pm_fr b k p e s m args meth c) : meth.sig.returnType = k.2.2.2.1 := h.2.2.2.2.1
theorem pm_fr.locks (h : pm_fr b k p e s m args meth c) : meth.locks = false := h.2.2.2.2.2.1
theorem pm_fr.name (h : pm_fr b k p e s m args meth c) : meth.name = k.1.name := h.2.2.2.2.2.2.1
theorem pm_fr.xt (h : pm_fr b k p e s m args meth c) : c.exceptionTable.toList.map (fun h => (h.startPc, h.endPc, h.handlerPc, h.catchType)) = k.2.2.2.2 := h.2.2.2.2.2.2.2.1
theorem pm_fr.ws (h : pm_fr b k p e s m args meth c) : ∀ w ∈ pm_words, w.before args s = true := h.2.2.2.2.2.2.2.2.1
theorem pm_fr.K (h : pm_fr b k p e s m args meth c) : va_K b.2.2.2.1 pm_cl (pm_tys b) s := h.2.2.2.2.2.2.2.2.2.1
theorem pm_fr.warm (h : pm_fr b k p e s m args meth c) : b.2.1.WarmedH s.vm := h.2.2.2.2.2.2.2.2.2.2.1
theorem pm_fr.S (h : pm_fr b k p e s m args meth c) : va_S (pm_A b) b.2.1.heap s.heap [] := h.2.2.2.2.2.2.2.2.2.2.2.1
theorem pm_fr.adm (h : pm_fr b k p e s m args meth c) : b.1.admits e := h.2.2.2.2.2.2.2.2.2.2.2.2
theorem pm_geti {idx ci j i : Nat} (hd : decode k.2.1 pc = .ok (.getfield idx, 3)) (hf : pm_F k.1.cls idx ci j) (hs : g.2.1 i = (0, ci)) (hi : i < g.1) (hr : pm_rf ci j = false) (K : pm_Y b d k (pc + 3) f lo (pm_I (σ i j) :: st) g σ τ cu su mc ms E) : pm_Y b d k pc f lo (pm_R i :: st) g σ τ cu su mc ms E := by
  intro p e R s m args below meth c H locs ls ad jk hF hR hI hL
  obtain ⟨C, T, h1, h2, h3, h4, h5⟩ := hf
  refine va_get (own := k.1.cls) (ref := C) (C := C) (T := T) (N := pm_nf ci) (v := .int (σ i j)) hF.1 hF.2.1 hF.ws h5 hF.own hF.K hI.1 i (by rw [pm_ws_get hi, pm_ct_o hs]) h1 j h2 (hF.ws _ h4) (fun x h => by rw [h3] at h; exact h) ?_ hd (K _ _ _ _ _ _ _ _ _ _ _ _ _ _ hF hR hI hL)
  rw [List.getElem?_map, List.getElem?_range h2]
  show some (if pm_rf ci j = true then _ else _) = _
  rw [hr]
  rfl
theorem pm_getr {idx ci j i r : Nat} (hd : decode k.2.1 pc = .ok (.getfield idx, 3)) (hf : pm_F k.1.cls idx ci j) (hs : g.2.1 i = (0, ci)) (hi : i < g.1) (hr : pm_rf ci j = true) (hv : g.2.2 i j = some r) (K : pm_Y b d k (pc + 3) f lo (pm_R r :: st) g σ τ cu su mc ms E) : pm_Y b d k pc f lo (pm_R i :: st) g σ τ cu su mc ms E := by
  intro p e R s m args below meth c H locs ls ad jk hF hR hI hL
  obtain ⟨C, T, h1, h2, h3, h4, h5⟩ := hf
  refine va_get (own := k.1.cls) (ref := C) (C := C) (T := T) (N := pm_nf ci) (v := .ref (ad r)) hF.1 hF.2.1 hF.ws h5 hF.own hF.K hI.1 i (by rw [pm_ws_get hi, pm_ct_o hs]) h1 j h2 (hF.ws _ h4) (fun x h => by rw [h3] at h; exact h) ?_ hd (K _ _ _ _ _ _ _ _ _ _ _ _ _ _ hF hR hI hL)
  rw [List.getElem?_map, List.getElem?_range h2]
  show some (if pm_rf ci j = true then va_rf ((g.2.2 i j).map ad) else _) = _
  rw [hr, hv]
  rfl
theorem pm_puti {idx ci j i : Nat} {x : Int32} (hd : decode k.2.1 pc = .ok (.putfield idx, 3)) (hf : pm_FP k.1.cls idx ci j .int false) (hs : g.2.1 i = (0, ci)) (hi : i < g.1) (hr : pm_rf ci j = false) (K : pm_Y b d k (pc + 3) true lo st g (pm_up σ i j x) τ cu su mc ms E) : pm_Y b d k pc f lo (pm_I x :: pm_R i :: st) g σ τ cu su mc ms E := by
  intro p e R s m args below meth c H locs ls ad jk hF hR hI hL
  obtain ⟨C, T, ty0, h1, h2, h3, h4, h5, h6, h7, h8, h9⟩ := hf
  refine va_put (own := k.1.cls) (ref := C) (C := C) (T := T) (N := pm_nf ci) (v := .int x) (ty := .int) hF.1 hF.2.1 hF.ws h5 ty0 h6 h7 hF.own hF.K hI.1 hI.2.1.to hI.2.2.1 i (by rw [pm_ws_get hi, pm_ct_o hs]) h1 j h2 (hF.ws _ h4) (fun x h => by rw [h3] at h; exact h) h8 h9 rfl rfl (by rw [List.length_map, List.length_range]; exact h2) hd (fun H1 locs1 hP _ hS => ?_)
  have hm : ((List.range (pm_nf ci)).map (pm_fs ad g σ ci i)).set j (.int x) = (List.range (pm_nf ci)).map (pm_fs ad g (pm_up σ i j x) ci i) := by
    refine pm_map_set (pm_nf ci) j (pm_fs ad g σ ci i) (pm_fs ad g (pm_up σ i j x) ci i) (fun a ha => ?_) ?_
    · show (if pm_rf ci a = true then va_rf ((g.2.2 i a).map ad) else Value.int (pm_up σ i j x i a)) = (if pm_rf ci a = true then va_rf ((g.2.2 i a).map ad) else Value.int (σ i a))
      rw [pm_up_ne (fun z => ha z.2)]
    · show _ = (if pm_rf ci j = true then va_rf ((g.2.2 i j).map ad) else Value.int (pm_up σ i j x i j))
      rw [hr, pm_up_at]
      rfl
  refine K _ _ _ _ _ _ _ _ _ H1 locs1 _ _ _ hF hR ⟨?_, hI.2.1, hS, fun h => by cases h⟩ hL
  rw [hm, pm_ws_set (g' := g) (σ' := pm_up σ i j x) (τ' := τ) rfl (fun a ha => pm_ct_row (pm_up_row ha) rfl) (by rw [pm_ct_o hs])] at hP
  exact hP
theorem pm_putz {idx ci j i : Nat} {x : Int32} (hd : decode k.2.1 pc = .ok (.putfield idx, 3)) (hf : pm_FP k.1.cls idx ci j .boolean false) (hs : g.2.1 i = (0, ci)) (hi : i < g.1) (hr : pm_rf ci j = false) (hx : x = 0 ∨ x = 1) (K : pm_Y b d k (pc + 3) true lo st g (pm_up σ i j x) τ cu su mc ms E) : pm_Y b d k pc f lo (pm_I x :: pm_R i :: st) g σ τ cu su mc ms E := by
  intro p e R s m args below meth c H locs ls ad jk hF hR hI hL
  obtain ⟨C, T, ty0, h1, h2, h3, h4, h5, h6, h7, h8, h9⟩ := hf
  refine va_put (own := k.1.cls) (ref := C) (C := C) (T := T) (N := pm_nf ci) (v := .int x) (ty := .boolean) hF.1 hF.2.1 hF.ws h5 ty0 h6 h7 hF.own hF.K hI.1 hI.2.1.to hI.2.2.1 i (by rw [pm_ws_get hi, pm_ct_o hs]) h1 j h2 (hF.ws _ h4) (fun x h => by rw [h3] at h; exact h) h8 h9 (by rcases hx with rfl | rfl <;> rfl) (by rcases hx with rfl | rfl <;> rfl) (by rw [List.length_map, List.length_range]; exact h2) hd (fun H1 locs1 hP _ hS => ?_)
  have hm : ((List.range (pm_nf ci)).map (pm_fs ad g σ ci i)).set j (.int x) = (List.range (pm_nf ci)).map (pm_fs ad g (pm_up σ i j x) ci i) := by
    refine pm_map_set (pm_nf ci) j (pm_fs ad g σ ci i) (pm_fs ad g (pm_up σ i j x) ci i) (fun a ha => ?_) ?_
    · show (if pm_rf ci a = true then va_rf ((g.2.2 i a).map ad) else Value.int (pm_up σ i j x i a)) = (if pm_rf ci a = true then va_rf ((g.2.2 i a).map ad) else Value.int (σ i a))
      rw [pm_up_ne (fun z => ha z.2)]
    · show _ = (if pm_rf ci j = true then va_rf ((g.2.2 i j).map ad) else Value.int (pm_up σ i j x i j))
      rw [hr, pm_up_at]
      rfl
  refine K _ _ _ _ _ _ _ _ _ H1 locs1 _ _ _ hF hR ⟨?_, hI.2.1, hS, fun h => by cases h⟩ hL
  rw [hm, pm_ws_set (g' := g) (σ' := pm_up σ i j x) (τ' := τ) rfl (fun a ha => pm_ct_row (pm_up_row ha) rfl) (by rw [pm_ct_o hs])] at hP
  exact hP
theorem pm_iaload {i n : Nat} {x : Int32} (j : Nat) (hd : decode k.2.1 pc = .ok (.iaload, 1)) (hs : g.2.1 i = (1, n)) (hi : i < g.1) (hx : x = nI j) (hj : j < n) (hn : n < 2 ^ 31) (K : pm_Y b d k (pc + 1) f lo (pm_I (σ i j) :: st) g σ τ cu su mc ms E) : pm_Y b d k pc f lo (pm_I x :: pm_R i :: st) g σ τ cu su mc ms E := by
  intro p e R s m args below meth c H locs ls ad jk hF hR hI hL
  subst hx
  have hc : (nI j).toNatClampNeg = j := nI_clamp (Nat.lt_trans hj hn)
  refine va_iald hF.1 hF.2.1 hF.K hI.1 i 0 (by rw [pm_ws_get hi, pm_ct_i hs]) rfl (vp_in_nI hj hn) hd ?_
  rw [hc]
  exact K _ _ _ _ _ _ _ _ _ _ _ _ _ _ hF hR hI hL
theorem pm_iastore {i n : Nat} {x v : Int32} (j : Nat) (hd : decode k.2.1 pc = .ok (.iastore, 1)) (hs : g.2.1 i = (1, n)) (hi : i < g.1) (hx : x = nI j) (hj : j < n) (hn : n < 2 ^ 31) (K : pm_Y b d k (pc + 1) true lo st g (pm_up σ i j v) τ cu su mc ms E) : pm_Y b d k pc f lo (pm_I v :: pm_I x :: pm_R i :: st) g σ τ cu su mc ms E := by
  intro p e R s m args below meth c H locs ls ad jk hF hR hI hL
  subst hx
  have hc : (nI j).toNatClampNeg = j := nI_clamp (Nat.lt_trans hj hn)
  refine va_iast hF.1 hF.2.1 hF.K hI.1 hI.2.1.to hI.2.2.1 i 0 (by rw [pm_ws_get hi, pm_ct_i hs]) rfl (vp_in_nI hj hn) hd (fun H1 locs1 hP _ hS => ?_)
  refine K _ _ _ _ _ _ _ _ _ H1 locs1 _ _ _ hF hR ⟨?_, hI.2.1, hS, fun h => by cases h⟩ hL
  rw [hc, pm_ws_set (g' := g) (σ' := pm_up σ i j v) (τ' := τ) rfl (fun a ha => pm_ct_row (pm_up_row ha) rfl) (by rw [pm_ct_i hs, pm_up_upd])] at hP
  exact hP
theorem pm_aaload {i n r : Nat} {x : Int32} (j : Nat) (hd : decode k.2.1 pc = .ok (.aaload, 1)) (hs : g.2.1 i = (2, n)) (hi : i < g.1) (hx : x = nI j) (hj : j < n) (hn : n < 2 ^ 31) (hv : g.2.2 i j = some r) (K : pm_Y b d k (pc + 1) f lo (pm_R r :: st) g σ τ cu su mc ms E) : pm_Y b d k pc f lo (pm_I x :: pm_R i :: st) g σ τ cu su mc ms E := by
  intro p e R s m args below meth c H locs ls ad jk hF hR hI hL
  subst hx
  have hc : (nI j).toNatClampNeg = j := nI_clamp (Nat.lt_trans hj hn)
  have hcell := hI.1 i _ (pm_ws_get hi)
  rw [pm_ct_a hs] at hcell
  refine W.aald (v := .ref (ad r)) (ty := .array .int) hF.1 hF.2.1 hcell ((hF.K.2 1 _ rfl).1 n (fun q => va_rf ((g.2.2 i q).map ad))) rfl (fun q => by cases q) (by show ¬ (nI j < 0 ∨ (arrV _ _ _).slots.size ≤ _); rw [arrV_size]; exact vp_in_nI hj hn) (by show (arrV _ _ _).slots[_]? = _; rw [hc, arrV_read _ _ hj]; show some (va_rf ((g.2.2 i j).map ad)) = _; rw [hv]; rfl) rfl rfl hd ?_
  exact K _ _ _ _ _ _ _ _ _ _ _ _ _ _ hF hR hI hL
theorem pm_laload {i n : Nat} {x : Int32} (j : Nat) (hd : decode k.2.1 pc = .ok (.laload, 1)) (hs : g.2.1 i = (3, n)) (hi : i < g.1) (hx : x = nI j) (hj : j < n) (hn : n < 2 ^ 31) (K : pm_Y b d k (pc + 1) f lo (pm_L (τ i j) :: st) g σ τ cu su mc ms E) : pm_Y b d k pc f lo (pm_I x :: pm_R i :: st) g σ τ cu su mc ms E := by
  intro p e R s m args below meth c H locs ls ad jk hF hR hI hL
  subst hx
  have hc : (nI j).toNatClampNeg = j := nI_clamp (Nat.lt_trans hj hn)
  refine va_lald hF.1 hF.2.1 hF.K hI.1 i 2 (by rw [pm_ws_get hi, pm_ct_l hs]) rfl (vp_in_nI hj hn) hd ?_
  rw [hc]
  exact K _ _ _ _ _ _ _ _ _ _ _ _ _ _ hF hR hI hL
theorem pm_lastore {i n : Nat} {x : Int32} {v : Int64} (j : Nat) (hd : decode k.2.1 pc = .ok (.lastore, 1)) (hs : g.2.1 i = (3, n)) (hi : i < g.1) (hx : x = nI j) (hj : j < n) (hn : n < 2 ^ 31) (K : pm_Y b d k (pc + 1) true lo st g σ (pm_upL τ i j v) cu su mc ms E) : pm_Y b d k pc f lo (pm_L v :: pm_I x :: pm_R i :: st) g σ τ cu su mc ms E := by
  intro p e R s m args below meth c H locs ls ad jk hF hR hI hL
  subst hx
  have hc : (nI j).toNatClampNeg = j := nI_clamp (Nat.lt_trans hj hn)
  refine va_last hF.1 hF.2.1 hF.K hI.1 hI.2.1.to hI.2.2.1 i 2 (by rw [pm_ws_get hi, pm_ct_l hs]) rfl (vp_in_nI hj hn) hd (fun H1 locs1 hP _ hS => ?_)
  refine K _ _ _ _ _ _ _ _ _ H1 locs1 _ _ _ hF hR ⟨?_, hI.2.1, hS, fun h => by cases h⟩ hL
  rw [hc, pm_ws_set (g' := g) (σ' := σ) (τ' := pm_upL τ i j v) rfl (fun a ha => pm_ct_row rfl (pm_upL_row ha)) (by rw [pm_ct_l hs, pm_upL_upd])] at hP
  exact hP
/-- returns -/
theorem pm_ireturn {wr : Bool} {Q : Option Int32 → pI → pJ → Prop} {x : Int32} (hd : decode k.2.1 pc = .ok (.ireturn, 1)) (hr : k.2.2.2.1 = some .int) (hw : f = true → wr = true) (hc : cu ≤ mc) (hs : su ≤ ms) (hq : Q (some x) σ τ) : pm_Y b d k pc f lo [pm_I x] g σ τ cu su mc ms (.inl (wr, Q)) := by
  intro p e R s m args below meth c H locs ls ad jk hF hR hI hL
  have hlocks := hF.locks
  refine W.widen hc hs ?_
  exact W.iret (v := x) (Qc := pm_Qr b k ad g Q) (free := fun q => wr = true ∧ pm_A b q) hF.1 hF.2.1 (hF.ret.trans hr) (fun t ht hW => ⟨some x, σ, τ, rfl, by rw [hr]; rfl, hq, by rw [ht]; exact hI.1, by rw [ht]; exact ⟨hI.2.2.1.1, hI.2.2.1.2.1, fun q h => by cases h⟩⟩) (pm_free hI hw) hd
theorem pm_zreturn {wr : Bool} {Q : Option Int32 → pI → pJ → Prop} {x : Int32} (hd : decode k.2.1 pc = .ok (.ireturn, 1)) (hr : k.2.2.2.1 = some .boolean) (hx : x = 0 ∨ x = 1) (hw : f = true → wr = true) (hc : cu ≤ mc) (hs : su ≤ ms) (hq : Q (some x) σ τ) : pm_Y b d k pc f lo [pm_I x] g σ τ cu su mc ms (.inl (wr, Q)) := by
  intro p e R s m args below meth c H locs ls ad jk hF hR hI hL
  have hlocks := hF.locks
  refine W.widen hc hs ?_
  exact W.zret (v := x) (Qc := pm_Qr b k ad g Q) (free := fun q => wr = true ∧ pm_A b q) hF.1 hF.2.1 (hF.ret.trans hr) (by rcases hx with rfl | rfl <;> rfl) (fun t ht hW => ⟨some x, σ, τ, rfl, by rw [hr]; rfl, hq, by rw [ht]; exact hI.1, by rw [ht]; exact ⟨hI.2.2.1.1, hI.2.2.1.2.1, fun q h => by cases h⟩⟩) (pm_free hI hw) hd
theorem pm_return {wr : Bool} {Q : Option Int32 → pI → pJ → Prop} (hd : decode k.2.1 pc = .ok (.return_, 1)) (hr : k.2.2.2.1 = none) (hw : f = true → wr = true) (hc : cu ≤ mc) (hs : su ≤ ms) (hq : Q none σ τ) : pm_Y b d k pc f lo [] g σ τ cu su mc ms (.inl (wr, Q)) := by
  intro p e R s m args below meth c H locs ls ad jk hF hR hI hL
  have hlocks := hF.locks
  refine W.widen hc hs ?_
  exact W.vret (Qc := pm_Qr b k ad g Q) (free := fun q => wr = true ∧ pm_A b q) hF.1 hF.2.1 (hF.ret.trans hr) (fun t ht hW => ⟨none, σ, τ, rfl, by rw [hr]; rfl, hq, by rw [ht]; exact hI.1, by rw [ht]; exact ⟨hI.2.2.1.1, hI.2.2.1.2.1, fun q h => by cases h⟩⟩) (pm_free hI hw) hd
end PMH
