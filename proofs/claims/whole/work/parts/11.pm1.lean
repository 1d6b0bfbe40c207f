/-! A small machine of its own over numbered cells: what a method's frame is at an instruction (pm_Y), said once over the kit's W; behind it a row an instruction, with no heap, no address and no table in it. -/
abbrev pV : Type := Int32 ⊕ (Int64 ⊕ (Nat ⊕ Bool))
abbrev pm_I (x : Int32) : pV := Sum.inl x
abbrev pm_L (x : Int64) : pV := Sum.inr (Sum.inl x)
abbrev pm_R (i : Nat) : pV := Sum.inr (Sum.inr (Sum.inl i))
abbrev pm_S : pV := Sum.inr (Sum.inr (Sum.inr true))
abbrev pm_J : pV := Sum.inr (Sum.inr (Sum.inr false))
/-- how many cells; of what kind each is (0: an object of a kind; 1: ints; 2: arrays of ints; 3: longs) and its kind or length; its references -/
abbrev pG : Type := Nat × (Nat → Nat × Nat) × (Nat → Nat → Option Nat)
abbrev pI : Type := Nat → Nat → Int32
abbrev pJ : Type := Nat → Nat → Int64
/-- the launch, the first state and its arguments, the tables' numbers, the array classes, the script's address, length and ints -/
abbrev pB : Type := Launch × State × Array Value × va_G × (ClassId × ClassId × ClassId) × Nat × Nat × (Nat → Int32)
/-- how a method ends: it returns (does it write? what then holds), it throws an object of a kind, it makes cells -/
abbrev pE : Type := (Bool × (Option Int32 → pI → pJ → Prop)) ⊕ (String ⊕ (pG → pI → pJ → Prop))
def pm_v (ad : Nat → Nat) (sc jk : Nat) : pV → Value
  | .inl x => .int x
  | .inr (.inl x) => .long x
  | .inr (.inr (.inl i)) => .ref (ad i)
  | .inr (.inr (.inr true)) => .ref sc
  | .inr (.inr (.inr false)) => .ref jk
def pm_one : pV → Bool
  | .inr (.inl _) => false
  | _ => true
def pm_wt : pV → Nat
  | .inr (.inl _) => 2
  | _ => 1
theorem pm_v_cat {ad : Nat → Nat} {sc jk : Nat} (v : pV) : (pm_v ad sc jk v).category = pm_wt v := by
  rcases v with x | x | x | x
  · rfl
  · rfl
  · rfl
  · cases x <;> rfl
theorem pm_v_one {ad : Nat → Nat} {sc jk : Nat} {v : pV} (h : pm_one v = true) : (pm_v ad sc jk v).category = 1 := by
  rcases v with x | x | x | x
  · rfl
  · cases h
  · rfl
  · cases x <;> rfl
theorem pm_v_sum {ad : Nat → Nat} {sc jk : Nat} (st : List pV) : ((st.map (pm_v ad sc jk)).map fun v => v.category).sum = (st.map pm_wt).sum := by
  induction st with
  | nil => rfl
  | cons v t ih => simp only [List.map_cons, List.sum_cons, ih, pm_v_cat]
/-- the cell i as the kit's worlds have it -/
def pm_ct (b : pB) (ad : Nat → Nat) (g : pG) (σ : pI) (τ : pJ) (i : Nat) : va_E := match g.2.1 i with
  | (0, c) => .inr (c, (List.range (pm_nf c)).map fun j => if pm_rf c j = true then va_rf ((g.2.2 i j).map ad) else .int (σ i j))
  | (1, n) => .inl (b.2.2.2.2.1.1, n, .inl (σ i))
  | (2, n) => .inl (b.2.2.2.2.1.2.1, n, .inr (.inr (.inr (.inr fun j => (g.2.2 i j).map ad))))
  | (_, n) => .inl (b.2.2.2.2.1.2.2, n, .inr (.inl (τ i)))
def pm_ws (b : pB) (ad : Nat → Nat) (g : pG) (σ : pI) (τ : pJ) : va_W := (List.range g.1).map fun i => (ad i, pm_ct b ad g σ τ i)
abbrev pm_A (b : pB) : Nat → Prop := fun q => b.2.1.heap.size ≤ q
def pm_D (b : pB) (ad : Nat → Nat) (n : Nat) : Prop := (∀ i j, i < n → j < n → ad i = ad j → i = j) ∧ ∀ i, i < n → pm_A b (ad i)
abbrev pm_tys (b : pB) : List (ClassId × FieldType) := [(b.2.2.2.2.1.1, .int), (b.2.2.2.2.1.2.1, .array .int), (b.2.2.2.2.1.2.2, .long)]
abbrev pm_P (b : pB) (ad : Nat → Nat) (g : pG) (σ : pI) (τ : pJ) (H : Heap) : Prop := va_P b.2.2.2.1 pm_cl (pm_ws b ad g σ τ) H
theorem pm_ws_get {b : pB} {ad : Nat → Nat} {g : pG} {σ : pI} {τ : pJ} {i : Nat} (hi : i < g.1) : (pm_ws b ad g σ τ)[i]? = some (ad i, pm_ct b ad g σ τ i) := by
  unfold pm_ws
  rw [List.getElem?_map, List.getElem?_range hi]
  rfl
theorem pm_ws_none {b : pB} {ad : Nat → Nat} {g : pG} {σ : pI} {τ : pJ} {i : Nat} (hi : ¬ i < g.1) : (pm_ws b ad g σ τ)[i]? = none := by
  unfold pm_ws
  rw [List.getElem?_eq_none]
  rw [List.length_map, List.length_range]
  omega
theorem pm_ws_some {b : pB} {ad : Nat → Nat} {g : pG} {σ : pI} {τ : pJ} {i : Nat} {q : Nat × va_E} (h : (pm_ws b ad g σ τ)[i]? = some q) : i < g.1 ∧ q = (ad i, pm_ct b ad g σ τ i) := by
  by_cases hi : i < g.1
  · rw [pm_ws_get hi] at h
    exact ⟨hi, (Option.some.inj h).symm⟩
  · rw [pm_ws_none hi] at h
    cases h
theorem pm_D.to {b : pB} {ad : Nat → Nat} {g : pG} {σ : pI} {τ : pJ} (h : pm_D b ad g.1) : va_D (pm_A b) (pm_ws b ad g σ τ) := by
  refine ⟨fun i j p q hp hq e => ?_, fun k q hq => ?_⟩
  · obtain ⟨h1, rfl⟩ := pm_ws_some hp
    obtain ⟨h2, rfl⟩ := pm_ws_some hq
    exact h.1 i j h1 h2 e
  · obtain ⟨h1, rfl⟩ := pm_ws_some hq
    exact h.2 k h1
theorem pm_ws_set {b : pB} {ad : Nat → Nat} {g g' : pG} {σ σ' : pI} {τ τ' : pJ} {i : Nat} (hg : g'.1 = g.1) (h : ∀ j, j ≠ i → pm_ct b ad g' σ' τ' j = pm_ct b ad g σ τ j) {x : Nat × va_E} (hx : x = (ad i, pm_ct b ad g' σ' τ' i)) :
    (pm_ws b ad g σ τ).set i x = pm_ws b ad g' σ' τ' := by
  subst hx
  apply List.ext_getElem?
  intro j
  rw [List.getElem?_set]
  by_cases e : i = j
  · subst e
    rw [if_pos rfl]
    by_cases hi : i < g.1
    · rw [pm_ws_get (g := g') (by rw [hg]; exact hi), if_pos (by unfold pm_ws; rw [List.length_map, List.length_range]; exact hi)]
    · rw [pm_ws_none (g := g') (by rw [hg]; exact hi), if_neg (by unfold pm_ws; rw [List.length_map, List.length_range]; exact hi)]
  · rw [if_neg e]
    by_cases hi : j < g.1
    · rw [pm_ws_get hi, pm_ws_get (g := g') (by rw [hg]; exact hi), h j (fun z => e z.symm)]
    · rw [pm_ws_none hi, pm_ws_none (g := g') (by rw [hg]; exact hi)]
/-- ints: cell i, place j -/
def pm_up (σ : pI) (i j : Nat) (x : Int32) : pI := fun a c => if a = i ∧ c = j then x else σ a c
def pm_upL (τ : pJ) (i j : Nat) (x : Int64) : pJ := fun a c => if a = i ∧ c = j then x else τ a c
theorem pm_up_at {σ : pI} {i j : Nat} {x : Int32} : pm_up σ i j x i j = x := if_pos ⟨rfl, rfl⟩
theorem pm_up_ne {σ : pI} {i j a c : Nat} {x : Int32} (h : ¬ (a = i ∧ c = j)) : pm_up σ i j x a c = σ a c := if_neg h
theorem pm_up_row {σ : pI} {i j a : Nat} {x : Int32} (h : a ≠ i) : pm_up σ i j x a = σ a := by
  funext c
  exact if_neg fun z => h z.1
theorem pm_up_upd {σ : pI} {i j : Nat} {x : Int32} : pm_up σ i j x i = upd (σ i) j x := by
  funext c
  unfold pm_up upd
  by_cases h : c = j
  · rw [if_pos ⟨rfl, h⟩, if_pos h]
  · rw [if_neg (fun z => h z.2), if_neg h]
theorem pm_upL_row {τ : pJ} {i j a : Nat} {x : Int64} (h : a ≠ i) : pm_upL τ i j x a = τ a := by
  funext c
  exact if_neg fun z => h z.1
theorem pm_upL_upd {τ : pJ} {i j : Nat} {x : Int64} : pm_upL τ i j x i = vp_updL (τ i) j x := by
  funext c
  unfold pm_upL vp_updL
  by_cases h : c = j
  · rw [if_pos ⟨rfl, h⟩, if_pos h]
  · rw [if_neg (fun z => h z.2), if_neg h]
theorem pm_ct_row {b : pB} {ad : Nat → Nat} {g : pG} {σ σ' : pI} {τ τ' : pJ} {i : Nat} (h1 : σ' i = σ i) (h2 : τ' i = τ i) : pm_ct b ad g σ' τ' i = pm_ct b ad g σ τ i := by
  unfold pm_ct
  rw [h1, h2]
/-- the locals -/
def pm_lo (b : pB) (ad : Nat → Nat) (jk n : Nat) (lo : List (Option pV)) (ls : Array Slot) : Prop :=
  ls.size = n ∧ lv_wf ls ∧ ∀ (i : Nat) (v : pV), lo[i]? = some (some v) → ls[i]? = some (.val (pm_v ad b.2.2.2.2.2.1 jk v)) ∧ pm_one v = true
def pm_ll (F : pV → Value) : Nat → List (Option pV) → List (Nat × Value)
  | _, [] => []
  | i, none :: t => pm_ll F (i + 1) t
  | i, some v :: t => (i, F v) :: pm_ll F (i + 1) t
theorem pm_ll_mem {F : pV → Value} : ∀ (lo : List (Option pV)) (i : Nat) (q : Nat × Value), q ∈ pm_ll F i lo ↔ ∃ (j : Nat) (v : pV), lo[j]? = some (some v) ∧ q = (i + j, F v)
  | [], i, q => by
    constructor
    · intro h; cases h
    · rintro ⟨j, v, h, -⟩
      simp at h
  | none :: t, i, q => by
    show q ∈ pm_ll F (i + 1) t ↔ _
    rw [pm_ll_mem t (i + 1) q]
    constructor
    · rintro ⟨j, v, h, rfl⟩
      exact ⟨j + 1, v, by simpa using h, by rw [show i + 1 + j = i + (j + 1) by omega]⟩
    · rintro ⟨j, v, h, rfl⟩
      cases j with
      | zero => simp at h
      | succ j => exact ⟨j, v, by simpa using h, by rw [show i + 1 + j = i + (j + 1) by omega]⟩
  | some w :: t, i, q => by
    show q ∈ (i, F w) :: pm_ll F (i + 1) t ↔ _
    rw [List.mem_cons, pm_ll_mem t (i + 1) q]
    constructor
    · rintro (rfl | ⟨j, v, h, rfl⟩)
      · exact ⟨0, w, rfl, rfl⟩
      · exact ⟨j + 1, v, by simpa using h, by rw [show i + 1 + j = i + (j + 1) by omega]⟩
    · rintro ⟨j, v, h, rfl⟩
      cases j with
      | zero =>
        have : w = v := by simpa using h
        subst this
        exact Or.inl rfl
      | succ j => exact Or.inr ⟨j, v, by simpa using h, by rw [show i + 1 + j = i + (j + 1) by omega]⟩
section PMLO
variable {b : pB} {ad : Nat → Nat} {jk n : Nat} {lo : List (Option pV)} {ls : Array Slot}
theorem pm_lo.at (h : pm_lo b ad jk n lo ls) {i : Nat} {v : pV} (hi : lo[i]? = some (some v)) : ls[i]? = some (.val (pm_v ad b.2.2.2.2.2.1 jk v)) := (h.2.2 i v hi).1
theorem pm_lo.has (h : pm_lo b ad jk n lo ls) : lv_has ls n (pm_ll (pm_v ad b.2.2.2.2.2.1 jk) 0 lo) := by
  refine ⟨h.1, h.2.1, fun q hq => ?_⟩
  obtain ⟨j, v, h1, rfl⟩ := (pm_ll_mem lo 0 q).mp hq
  rw [Nat.zero_add]
  exact (h.2.2 j v h1).1
theorem pm_lo.set (h : pm_lo b ad jk n lo ls) {i : Nat} {v : pV} (hv : pm_one v = true) {ls' : Array Slot}
    (h' : lv_has ls' n ((i, pm_v ad b.2.2.2.2.2.1 jk v) :: (pm_ll (pm_v ad b.2.2.2.2.2.1 jk) 0 lo).filter (fun q => !(q.1 == i) && !(q.1 + 1 == i && q.2.category == 2)))) : pm_lo b ad jk n (lo.set i (some v)) ls' := by
  refine ⟨h'.1, h'.2.1, fun j w hj => ?_⟩
  rw [List.getElem?_set] at hj
  by_cases e : i = j
  · subst e
    rw [if_pos rfl] at hj
    by_cases hl : i < lo.length
    · rw [if_pos hl] at hj
      have : v = w := Option.some.inj (Option.some.inj hj)
      subst this
      exact ⟨h'.2.2 _ List.mem_cons_self, hv⟩
    · rw [if_neg hl] at hj
      cases hj
  · rw [if_neg e] at hj
    obtain ⟨h1, h2⟩ := h.2.2 j w hj
    refine ⟨h'.2.2 (j, pm_v ad b.2.2.2.2.2.1 jk w) (List.mem_cons_of_mem _ (List.mem_filter.mpr ⟨(pm_ll_mem lo 0 _).mpr ⟨j, w, hj, by rw [Nat.zero_add]⟩, ?_⟩)), h2⟩
    have e1 : (j == i) = false := by simpa using fun z : j = i => e z.symm
    have e2 : ((pm_v ad b.2.2.2.2.2.1 jk w).category == 2) = false := by rw [pm_v_one h2]; rfl
    show (!(j == i) && !(j + 1 == i && (pm_v ad b.2.2.2.2.2.1 jk w).category == 2)) = true
    rw [e1, e2, Bool.and_false]
    rfl
theorem pm_lo.len (h : pm_lo b ad jk n lo ls) : ls.size = n := h.1
end PMLO
