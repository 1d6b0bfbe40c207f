/-! Rounds of a permutation; counting; the lists' changes. -/
def cy_it (F : Nat → Nat) : Nat → Nat → Nat
  | 0, p => p
  | k + 1, p => F (cy_it F k p)
theorem cy_it_lt {n : Nat} {F : Nat → Nat} (hF : ∀ i, i < n → F i < n) {p : Nat} (hp : p < n) : ∀ k, cy_it F k p < n
  | 0 => hp
  | k + 1 => hF _ (cy_it_lt hF hp k)
theorem cy_it_add {F : Nat → Nat} {p : Nat} (a : Nat) : ∀ c, cy_it F (a + c) p = cy_it F c (cy_it F a p)
  | 0 => rfl
  | c + 1 => by
    show F (cy_it F (a + c) p) = F (cy_it F c (cy_it F a p))
    rw [cy_it_add a c]
theorem cy_cancel {n : Nat} {F : Nat → Nat} (hF : ∀ i, i < n → F i < n) (hI : ∀ i j, i < n → j < n → F i = F j → i = j) : ∀ (a x y : Nat), x < n → y < n → cy_it F a x = cy_it F a y → x = y
  | 0, _, _, _, _, h => h
  | a + 1, x, y, hx, hy, h => cy_cancel hF hI a x y hx hy (hI _ _ (cy_it_lt hF hx a) (cy_it_lt hF hy a) h)
/-- k is how many a party of p has -/
def cy_is (F : Nat → Nat) (p k : Nat) : Prop := 1 ≤ k ∧ cy_it F k p = p ∧ ∀ j, 1 ≤ j → j < k → cy_it F j p ≠ p
theorem cy_one {F : Nat → Nat} {p k k' : Nat} (h : cy_is F p k) (h' : cy_is F p k') : k = k' := by
  rcases Nat.lt_trichotomy k k' with e | e | e
  · exact absurd h.2.1 (h'.2.2 k h.1 e)
  · exact e
  · exact absurd h'.2.1 (h.2.2 k' h'.1 e)
theorem cy_ex {n : Nat} {F : Nat → Nat} (hF : ∀ i, i < n → F i < n) (hI : ∀ i j, i < n → j < n → F i = F j → i = j) {p : Nat} (hp : p < n) : ∃ k, k ≤ n ∧ cy_is F p k := by
  obtain ⟨i, j, hij, hj, e⟩ := ex_pigeon n (fun i => cy_it F i p) (fun i _ => cy_it_lt hF hp i)
  have e : cy_it F i p = cy_it F j p := e
  have hk : cy_it F (j - i) p = p := by
    have h1 : cy_it F j p = cy_it F i (cy_it F (j - i) p) := by
      rw [← cy_it_add]
      congr 1
      omega
    rw [h1] at e
    exact (cy_cancel hF hI i _ _ hp (cy_it_lt hF hp _) e).symm
  obtain ⟨k, ⟨h1, h2⟩, h3⟩ := ex_min (fun k => 1 ≤ k ∧ cy_it F k p = p) (fun k => k) (j - i) (j - i) ⟨by omega, hk⟩ (Nat.le_refl _)
  have h4 := h3 (j - i) ⟨by omega, hk⟩
  have h4 : k ≤ j - i := h4
  refine ⟨k, by omega, h1, h2, fun a ha hak hz => ?_⟩
  have h5 := h3 a ⟨ha, hz⟩
  have h5 : k ≤ a := h5
  omega
/-- the least one of its party -/
def cy_least (F : Nat → Nat) (p k : Nat) : Prop := ∀ j, 1 ≤ j → j < k → p < cy_it F j p
theorem cy_least_ne {F : Nat → Nat} {p k : Nat} (h : cy_is F p k) {j : Nat} (h1 : 1 ≤ j) (h2 : j < k) : cy_it F j p < p ∨ p < cy_it F j p := by
  have := h.2.2 j h1 h2
  omega
/-- what is counted of the stable matchings -/
theorem rh_fold_one {n : Nat} : ∀ (l : List (List Nat)) (A : rh_A), (rh_fold n A l).1 = A.1 + l.length
  | [], A => rfl
  | m :: l, A => by
    show (rh_fold n (rh_acc n A fun p => m.getD p 0) l).1 = _
    rw [rh_fold_one l]
    show A.1 + 1 + l.length = _
    rw [List.length_cons]
    omega
theorem rh_fold_two {n p : Nat} (hp : p < n) : ∀ (l : List (List Nat)) (A : rh_A) (q : Nat), 0 < (rh_fold n A l).2.1 p q ↔ 0 < A.2.1 p q ∨ ∃ m, m ∈ l ∧ m.getD p 0 = q
  | [], A, q => by
    show 0 < A.2.1 p q ↔ _
    constructor
    · exact Or.inl
    · rintro (h | ⟨m, h, -⟩)
      · exact h
      · cases h
  | m :: l, A, q => by
    show 0 < (rh_fold n (rh_acc n A fun p => m.getD p 0) l).2.1 p q ↔ _
    rw [rh_fold_two hp l]
    have e : (rh_acc n A fun p => m.getD p 0).2.1 p q = if p < n ∧ m.getD p 0 = q then A.2.1 p q + 1 else A.2.1 p q := rfl
    rw [e]
    constructor
    · rintro (h | ⟨m', h1, h2⟩)
      · by_cases hc : p < n ∧ m.getD p 0 = q
        · exact Or.inr ⟨m, List.mem_cons_self, hc.2⟩
        · rw [if_neg hc] at h
          exact Or.inl h
      · exact Or.inr ⟨m', List.mem_cons_of_mem _ h1, h2⟩
    · rintro (h | ⟨m', h1, h2⟩)
      · left
        by_cases hc : p < n ∧ m.getD p 0 = q
        · rw [if_pos hc]; omega
        · rw [if_neg hc]; exact h
      · rcases List.mem_cons.mp h1 with e1 | e1
        · left
          subst e1
          rw [if_pos ⟨hp, h2⟩]
          omega
        · exact Or.inr ⟨m', e1, h2⟩
/-- an entry is moved within a list; one is taken out -/
def mv_at (i j k : Nat) : Nat := if k = j then i else if i ≤ k ∧ k < j then k + 1 else if j < k ∧ k ≤ i then k - 1 else k
theorem mv_at_lt {i j k n : Nat} (hi : i < n) (hj : j < n) (hk : k < n) : mv_at i j k < n := by
  unfold mv_at
  split
  · exact hi
  · split
    · omega
    · split <;> omega
theorem mv_at_inj {i j k k' : Nat} (h : mv_at i j k = mv_at i j k') : k = k' := by
  unfold mv_at at h
  (repeat' split at h) <;> omega
def mv_list (l : List Nat) (i j : Nat) : List Nat := (List.range l.length).map fun k => l.getD (mv_at i j k) 0
def rm_list (l : List Nat) (i : Nat) : List Nat := (List.range (l.length - 1)).map fun k => l.getD (mv_at i (l.length - 1) k) 0
theorem mv_len (l : List Nat) (i j : Nat) : (mv_list l i j).length = l.length := by simp [mv_list]
theorem rm_len (l : List Nat) (i : Nat) : (rm_list l i).length = l.length - 1 := by simp [rm_list]
theorem rl_get {n : Nat} {f : Nat → Nat} {k : Nat} (h : k < n) : ((List.range n).map f).getD k 0 = f k := by
  rw [List.getD_eq_getElem?_getD, List.getElem?_map, List.getElem?_range h]
  rfl
theorem mv_get {l : List Nat} {i j k : Nat} (h : k < l.length) : (mv_list l i j).getD k 0 = l.getD (mv_at i j k) 0 := rl_get h
theorem rm_get {l : List Nat} {i k : Nat} (h : k < l.length - 1) : (rm_list l i).getD k 0 = l.getD (mv_at i (l.length - 1) k) 0 := rl_get h
/-- no two alike: by places -/
theorem nd_iff (l : List Nat) : l.Nodup ↔ ∀ i j, i < l.length → j < l.length → l.getD i 0 = l.getD j 0 → i = j := by
  constructor
  · intro h i j hi hj e
    rw [List.getD_eq_getElem?_getD, List.getD_eq_getElem?_getD, List.getElem?_eq_getElem hi, List.getElem?_eq_getElem hj, Option.getD_some, Option.getD_some] at e
    rcases Nat.lt_trichotomy i j with z | z | z
    · exact absurd e (List.pairwise_iff_getElem.mp h i j hi hj z)
    · exact z
    · exact absurd e.symm (List.pairwise_iff_getElem.mp h j i hj hi z)
  · intro h
    apply List.pairwise_iff_getElem.mpr
    intro i j hi hj hij e
    have := h i j hi hj (by
      rw [List.getD_eq_getElem?_getD, List.getD_eq_getElem?_getD, List.getElem?_eq_getElem hi, List.getElem?_eq_getElem hj, Option.getD_some, Option.getD_some]
      exact e)
    omega
theorem mem_get (l : List Nat) (q : Nat) : q ∈ l ↔ ∃ i, i < l.length ∧ l.getD i 0 = q := by
  rw [List.mem_iff_getElem]
  constructor
  · rintro ⟨i, hi, e⟩
    exact ⟨i, hi, by rw [List.getD_eq_getElem?_getD, List.getElem?_eq_getElem hi]; exact e⟩
  · rintro ⟨i, hi, e⟩
    refine ⟨i, hi, ?_⟩
    rw [List.getD_eq_getElem?_getD, List.getElem?_eq_getElem hi] at e
    exact e
theorem mv_nd {l : List Nat} {i j : Nat} (h : l.Nodup) (hi : i < l.length) (hj : j < l.length) : (mv_list l i j).Nodup := by
  rw [nd_iff] at h ⊢
  rw [mv_len]
  intro a c ha hc e
  rw [mv_get ha, mv_get hc] at e
  exact mv_at_inj (h _ _ (mv_at_lt hi hj ha) (mv_at_lt hi hj hc) e)
theorem mv_mem {l : List Nat} {i j : Nat} (hi : i < l.length) (hj : j < l.length) (q : Nat) : q ∈ mv_list l i j ↔ q ∈ l := by
  rw [mem_get, mem_get, mv_len]
  constructor
  · rintro ⟨a, ha, e⟩
    rw [mv_get ha] at e
    exact ⟨_, mv_at_lt hi hj ha, e⟩
  · rintro ⟨a, ha, e⟩
    obtain ⟨c, hc, e2⟩ := ex_surj l.length (mv_at i j) (fun _ h => mv_at_lt hi hj h) (fun _ _ _ _ h => mv_at_inj h) a ha
    exact ⟨c, hc, by rw [mv_get hc, e2]; exact e⟩
theorem rm_nd {l : List Nat} {i : Nat} (h : l.Nodup) (hi : i < l.length) : (rm_list l i).Nodup := by
  rw [nd_iff] at h ⊢
  rw [rm_len]
  intro a c ha hc e
  rw [rm_get ha, rm_get hc] at e
  exact mv_at_inj (h _ _ (mv_at_lt hi (by omega) (by omega)) (mv_at_lt hi (by omega) (by omega)) e)
theorem rm_mem {l : List Nat} {i : Nat} (h : l.Nodup) (hi : i < l.length) (q : Nat) : q ∈ rm_list l i ↔ q ∈ l ∧ q ≠ l.getD i 0 := by
  rw [nd_iff] at h
  rw [mem_get, mem_get, rm_len]
  have last : mv_at i (l.length - 1) (l.length - 1) = i := if_pos rfl
  constructor
  · rintro ⟨a, ha, e⟩
    rw [rm_get ha] at e
    refine ⟨⟨_, mv_at_lt hi (by omega) (by omega), e⟩, fun z => ?_⟩
    rw [← e] at z
    have := h _ _ (mv_at_lt hi (show l.length - 1 < l.length by omega) (show a < l.length by omega)) hi z
    have h2 := mv_at_inj (this.trans last.symm)
    omega
  · rintro ⟨⟨a, ha, e⟩, hne⟩
    obtain ⟨c, hc, e2⟩ := ex_surj l.length (mv_at i (l.length - 1)) (fun _ h => mv_at_lt hi (by omega) h) (fun _ _ _ _ h => mv_at_inj h) a ha
    have hcl : c ≠ l.length - 1 := fun z => by
      rw [z, last] at e2
      rw [← e2] at e
      exact hne e.symm
    exact ⟨c, by omega, by rw [rm_get (by omega), e2]; exact e⟩
