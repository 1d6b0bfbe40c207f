/-! which cell is what: 0 the house; 1 wishes, 2 lengths, 3 others (4 to 11), 12 places (13 to 20), 21 standings (22 to 29); 30 draft, 31 mates; 32 stable, 33 tried, 34 first, 35 often (36 to 43); 44 partition, 45 followers, 46 leaders, 47 odd sizes; 48 the other side: 49 sizes, 50 list, 51 partners, 52 times, 53 first, 54 nexts, 55 party sizes, 56 with, 57 lasts, 58 choices, 59 ranks; 60 out -/
def pm_shl : List (Nat × Nat) := [(0, 0), (0, 1), (1, 8), (2, 8), (1, 8), (1, 8), (1, 8), (1, 8), (1, 8), (1, 8), (1, 8), (1, 8), (2, 8), (1, 8), (1, 8), (1, 8), (1, 8), (1, 8), (1, 8), (1, 8), (1, 8), (2, 8), (1, 8), (1, 8), (1, 8), (1, 8), (1, 8), (1, 8), (1, 8), (1, 8),
  (0, 2), (1, 8), (0, 3), (1, 8), (1, 8), (2, 8), (1, 8), (1, 8), (1, 8), (1, 8), (1, 8), (1, 8), (1, 8), (1, 8), (0, 4), (1, 8), (1, 8), (1, 8),
  (0, 5), (1, 8), (1, 64), (1, 8), (1, 64), (1, 8), (1, 8), (1, 8), (1, 8), (1, 8), (1, 8), (1, 64), (3, 1)]
def pm_sh (i : Nat) : Nat × Nat := pm_shl.getD i (3, 0)
def pm_sr (i j : Nat) : Option Nat := match i with
  | 0 => ([some 1, some 30, some 32, some 44] : List (Option Nat)).getD j none
  | 1 => ([some 2, some 3, some 12, some 21] : List (Option Nat)).getD j none
  | 3 => if j < 8 then some (4 + j) else none
  | 12 => if j < 8 then some (13 + j) else none
  | 21 => if j < 8 then some (22 + j) else none
  | 30 => ([some 1, some 31] : List (Option Nat)).getD j none
  | 32 => ([some 1, some 33, some 34, some 35] : List (Option Nat)).getD j none
  | 35 => if j < 8 then some (36 + j) else none
  | 44 => ([some 1, some 45, some 46, some 47] : List (Option Nat)).getD j none
  | 48 => ([none, none, some 49, some 50, some 51, none, none, some 52, some 53, some 54, some 55, none, none, some 56, some 57, some 58, some 59] : List (Option Nat)).getD j none
  | _ => none
def pm_gok (n : Nat) (g : pG) : Prop := n ≤ g.1 ∧ g.2.1 = pm_sh ∧ ∀ i j, i < n → g.2.2 i j = pm_sr i j
theorem pm_gok.s {n : Nat} {g : pG} (h : pm_gok n g) {i : Nat} {x : Nat × Nat} (hx : pm_sh i = x) : g.2.1 i = x := by rw [h.2.1]; exact hx
theorem pm_gok.i {n : Nat} {g : pG} (h : pm_gok n g) {i : Nat} (hi : i < n) : i < g.1 := Nat.lt_of_lt_of_le hi h.1
theorem pm_gok.r {n : Nat} {g : pG} (h : pm_gok n g) {i j r : Nat} (hi : i < n) (hr : pm_sr i j = some r) : g.2.2 i j = some r := by rw [h.2.2 i j hi]; exact hr
theorem pm_gok.le {n n' : Nat} {g : pG} (h : pm_gok n g) (hn : n' ≤ n) : pm_gok n' g := ⟨Nat.le_trans hn h.1, h.2.1, fun i j hi => h.2.2 i j (Nat.lt_of_lt_of_le hi hn)⟩
theorem sh_4 : ∀ p, p < 8 → pm_sh (4 + p) = (1, 8) := by decide +kernel
theorem sh_13 : ∀ p, p < 8 → pm_sh (13 + p) = (1, 8) := by decide +kernel
theorem sh_22 : ∀ p, p < 8 → pm_sh (22 + p) = (1, 8) := by decide +kernel
theorem sh_36 : ∀ p, p < 8 → pm_sh (36 + p) = (1, 8) := by decide +kernel
theorem sr_3 {p : Nat} (h : p < 8) : pm_sr 3 p = some (4 + p) := if_pos h
theorem sr_12 {p : Nat} (h : p < 8) : pm_sr 12 p = some (13 + p) := if_pos h
theorem sr_21 {p : Nat} (h : p < 8) : pm_sr 21 p = some (22 + p) := if_pos h
theorem sr_35 {p : Nat} (h : p < 8) : pm_sr 35 p = some (36 + p) := if_pos h
/-- more room does no harm -/
theorem pm_Y_up {b : pB} {d d' : Nat} {k : pK} {pc : Nat} {f : Bool} {lo : List (Option pV)} {st : List pV} {g : pG} {σ : pI} {τ : pJ} {cu su mc ms : Nat} {E : pE} (hd : d ≤ d') (h : pm_Y b d k pc f lo st g σ τ cu su mc ms E) : pm_Y b d' k pc f lo st g σ τ cu su mc ms E := by
  intro p e R s m args below meth c H locs ls ad jk hF hR hI hL
  have h1 := hR.1
  have h2 := hR.2.1
  exact h p e R s m args below meth c H locs ls ad jk hF ⟨by omega, by omega, hR.2.2⟩ hI hL
theorem pm_C_up {b : pB} {d d' : Nat} {k : pK} {vs : List pV} {g : pG} {σ : pI} {τ : pJ} {mc ms : Nat} {E : pE} (hd : d ≤ d') (h : pm_C b d k vs g σ τ mc ms E) : pm_C b d' k vs g σ τ mc ms E := pm_Y_up hd h
/-- a method that reads and answers x -/
abbrev pm_Rd (x : Int32) (σ : pI) (τ : pJ) : pE := .inl (false, fun v σ' τ' => v = some x ∧ σ' = σ ∧ τ' = τ)
/-- a method that answers x and leaves σ₁, τ₁ -/
abbrev pm_Wi (x : Int32) (σ : pI) (τ : pJ) : pE := .inl (true, fun v σ' τ' => v = some x ∧ σ' = σ ∧ τ' = τ)
abbrev pm_Wv (σ : pI) (τ : pJ) : pE := .inl (true, fun v σ' τ' => v = none ∧ σ' = σ ∧ τ' = τ)
/-- a method whose end is known by a property of what it leaves -/
abbrev pm_Wp (P : Option Int32 → pI → Prop) (τ : pJ) : pE := .inl (true, fun v σ' τ' => P v σ' ∧ τ' = τ)
section PMCV
variable {b : pB} {d : Nat} {k k' : pK} {pc : Nat} {f : Bool} {lo : List (Option pV)} {rest : List pV} {g : pG} {σ : pI} {τ : pJ} {cu su mc ms : Nat} {E : pE}
theorem pm_callR {idx i ci : Nat} {stk : List pV} {T : u_T} {N : Nat} {x : Int32} (vs : List pV) (hB : pm_base b) (hd : decode k.2.1 pc = .ok (.invokevirtual idx, 3)) (hc : pm_CV k.1.cls idx k' vs.length)
    (hC : pm_C b d k' (pm_R i :: vs) g σ τ 0 0 (pm_Rd x σ τ)) (hs : g.2.1 i = (0, ci)) (hi : i < g.1) (hcl : pm_cl[ci]? = some (k'.1.cls, T, N))
    (hstk : stk = vs.reverse ++ pm_R i :: rest) (h1 : vs.all pm_one = true) (hj : vs.all pm_nj = true) (hn : vs.length + 1 ≤ k'.2.2.1) (hw : (rest.map pm_wt).sum ≤ 8) (hcu : cu ≤ mc) (hsu : su ≤ ms)
    (K : pm_Y b (d + 1) k (pc + 3) f lo (pm_I x :: rest) g σ τ cu su mc ms E) : pm_Y b (d + 1) k pc f lo stk g σ τ cu su mc ms E :=
  pm_callV hB hd hc hC hs hi hcl hstk h1 hj hn hw hcu hsu (fun v σ' τ' _ hq => by
    obtain ⟨rfl, rfl, rfl⟩ := hq
    rw [Bool.or_false]
    exact K)
theorem pm_callW {idx i ci : Nat} {stk : List pV} {T : u_T} {N : Nat} {x : Int32} {σ₁ : pI} {τ₁ : pJ} (vs : List pV) (hB : pm_base b) (hd : decode k.2.1 pc = .ok (.invokevirtual idx, 3)) (hc : pm_CV k.1.cls idx k' vs.length)
    (hC : pm_C b d k' (pm_R i :: vs) g σ τ 0 0 (pm_Wi x σ₁ τ₁)) (hs : g.2.1 i = (0, ci)) (hi : i < g.1) (hcl : pm_cl[ci]? = some (k'.1.cls, T, N))
    (hstk : stk = vs.reverse ++ pm_R i :: rest) (h1 : vs.all pm_one = true) (hj : vs.all pm_nj = true) (hn : vs.length + 1 ≤ k'.2.2.1) (hw : (rest.map pm_wt).sum ≤ 8) (hcu : cu ≤ mc) (hsu : su ≤ ms)
    (K : pm_Y b (d + 1) k (pc + 3) true lo (pm_I x :: rest) g σ₁ τ₁ cu su mc ms E) : pm_Y b (d + 1) k pc f lo stk g σ τ cu su mc ms E :=
  pm_callV hB hd hc hC hs hi hcl hstk h1 hj hn hw hcu hsu (fun v σ' τ' _ hq => by
    obtain ⟨rfl, rfl, rfl⟩ := hq
    rw [Bool.or_true]
    exact K)
theorem pm_callWv {idx i ci : Nat} {stk : List pV} {T : u_T} {N : Nat} {σ₁ : pI} {τ₁ : pJ} (vs : List pV) (hB : pm_base b) (hd : decode k.2.1 pc = .ok (.invokevirtual idx, 3)) (hc : pm_CV k.1.cls idx k' vs.length)
    (hC : pm_C b d k' (pm_R i :: vs) g σ τ 0 0 (pm_Wv σ₁ τ₁)) (hs : g.2.1 i = (0, ci)) (hi : i < g.1) (hcl : pm_cl[ci]? = some (k'.1.cls, T, N))
    (hstk : stk = vs.reverse ++ pm_R i :: rest) (h1 : vs.all pm_one = true) (hj : vs.all pm_nj = true) (hn : vs.length + 1 ≤ k'.2.2.1) (hw : (rest.map pm_wt).sum ≤ 8) (hcu : cu ≤ mc) (hsu : su ≤ ms)
    (K : pm_Y b (d + 1) k (pc + 3) true lo rest g σ₁ τ₁ cu su mc ms E) : pm_Y b (d + 1) k pc f lo stk g σ τ cu su mc ms E :=
  pm_callV hB hd hc hC hs hi hcl hstk h1 hj hn hw hcu hsu (fun v σ' τ' _ hq => by
    obtain ⟨rfl, rfl, rfl⟩ := hq
    rw [Bool.or_true]
    exact K)
theorem pm_callWp {idx i ci : Nat} {stk : List pV} {T : u_T} {N : Nat} {Pp : Option Int32 → pI → Prop} {τ₁ : pJ} (vs : List pV) (hB : pm_base b) (hd : decode k.2.1 pc = .ok (.invokevirtual idx, 3)) (hc : pm_CV k.1.cls idx k' vs.length)
    (hC : pm_C b d k' (pm_R i :: vs) g σ τ 0 0 (pm_Wp Pp τ₁)) (hs : g.2.1 i = (0, ci)) (hi : i < g.1) (hcl : pm_cl[ci]? = some (k'.1.cls, T, N))
    (hstk : stk = vs.reverse ++ pm_R i :: rest) (h1 : vs.all pm_one = true) (hj : vs.all pm_nj = true) (hn : vs.length + 1 ≤ k'.2.2.1) (hw : (rest.map pm_wt).sum ≤ 8) (hcu : cu ≤ mc) (hsu : su ≤ ms)
    (K : ∀ (v : Option Int32) (σ₁ : pI), v.isSome = k'.2.2.2.1.isSome → Pp v σ₁ → pm_Y b (d + 1) k (pc + 3) true lo (v.toList.map pm_I ++ rest) g σ₁ τ₁ cu su mc ms E) : pm_Y b (d + 1) k pc f lo stk g σ τ cu su mc ms E :=
  pm_callV hB hd hc hC hs hi hcl hstk h1 hj hn hw hcu hsu (fun v σ' τ' hv hq => by
    obtain ⟨h9, rfl⟩ := hq
    rw [Bool.or_true]
    exact K v σ' hv h9)
end PMCV
