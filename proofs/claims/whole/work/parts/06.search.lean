/-! Lists, ranks, all assignments in their order; the program's search over them. -/
def rh_wf (n : Nat) (L : Nat → List Nat) : Prop := n ≤ 8 ∧ (∀ p, p < n → (L p).Nodup ∧ ∀ q, q ∈ L p → q < n ∧ q ≠ p) ∧ ∀ p, n ≤ p → L p = []
def rh_rk (L : Nat → List Nat) (p q : Nat) : Nat := if p = q then 8 else if q ∈ L p ∧ p ∈ L q then (L p).idxOf q else 9
theorem rh_nd (n : Nat) (l : List Nat) (h : l.Nodup) (hb : ∀ q, q ∈ l → q < n) : l.length ≤ n := by
  apply Nat.le_of_not_lt
  intro hlt
  obtain ⟨i, j, hij, hj, e⟩ := ex_pigeon n (fun i => l.getD i 0) (fun i hi => by
    show l.getD i 0 < n
    rw [List.getD_eq_getElem?_getD, List.getElem?_eq_getElem (show i < l.length by omega), Option.getD_some]
    exact hb _ (List.getElem_mem _))
  have e : l.getD i 0 = l.getD j 0 := e
  rw [List.getD_eq_getElem?_getD, List.getD_eq_getElem?_getD, List.getElem?_eq_getElem (show i < l.length by omega), List.getElem?_eq_getElem (show j < l.length by omega), Option.getD_some, Option.getD_some] at e
  exact List.pairwise_iff_getElem.mp h i j (by omega) (by omega) hij e
section RHR
variable {n : Nat} {L : Nat → List Nat}
theorem rh_len (h : rh_wf n L) {p : Nat} (hp : p < n) : (L p).length + 1 ≤ n := by
  have h1 := (h.2.1 p hp).1
  have h2 := (h.2.1 p hp).2
  exact rh_nd n (p :: L p) (List.nodup_cons.mpr ⟨fun hm => (h2 p hm).2 rfl, h1⟩) (fun q hq => by
    rcases List.mem_cons.mp hq with e | hm
    · rw [e]; exact hp
    · exact (h2 q hm).1)
theorem rh_rk_self (p : Nat) : rh_rk L p p = 8 := if_pos rfl
theorem rh_rk_le (h : rh_wf n L) {p q : Nat} (hp : p < n) : rh_rk L p q ≤ 8 ↔ p = q ∨ (q ∈ L p ∧ p ∈ L q) := by
  unfold rh_rk
  by_cases e : p = q
  · rw [if_pos e]
    exact ⟨fun _ => Or.inl e, fun _ => Nat.le_refl 8⟩
  · rw [if_neg e]
    by_cases hm : q ∈ L p ∧ p ∈ L q
    · rw [if_pos hm]
      have := List.idxOf_lt_length_of_mem hm.1
      have := rh_len h hp
      have := h.1
      exact ⟨fun _ => Or.inr hm, fun _ => by omega⟩
    · rw [if_neg hm]
      exact ⟨fun h => absurd h (by decide), fun h => by rcases h with h | h; exact absurd h e; exact absurd h hm⟩
theorem rh_rk_lt (h : rh_wf n L) {p q : Nat} (hp : p < n) : rh_rk L p q < 8 ↔ q ∈ L p ∧ p ∈ L q := by
  unfold rh_rk
  by_cases e : p = q
  · rw [if_pos e]
    subst e
    exact ⟨fun h => absurd h (by decide), fun hm => absurd rfl ((h.2.1 p hp).2 p hm.1).2⟩
  · rw [if_neg e]
    by_cases hm : q ∈ L p ∧ p ∈ L q
    · rw [if_pos hm]
      have := List.idxOf_lt_length_of_mem hm.1
      have := rh_len h hp
      have := h.1
      exact ⟨fun _ => hm, fun _ => by omega⟩
    · rw [if_neg hm]
      exact ⟨fun h => absurd h (by decide), fun h => absurd h hm⟩
theorem rh_R (h : rh_wf n L) : ex_R n 8 (rh_rk L) := by
  refine ⟨fun p _ => rh_rk_self p, fun p q hp hq hk => ?_, fun p q q' hp hq hq' hk e => ?_⟩
  · rw [rh_rk_le h hp] at hk
    rw [rh_rk_le h hq]
    rcases hk with hk | hk
    · exact Or.inl hk.symm
    · exact Or.inr ⟨hk.2, hk.1⟩
  · have hk' : rh_rk L p q' ≤ 8 := e ▸ hk
    by_cases h8 : rh_rk L p q < 8
    · have m1 := (rh_rk_lt h hp).mp h8
      have m2 := (rh_rk_lt h hp).mp (e ▸ h8)
      have n1 : p ≠ q := fun z => ((h.2.1 p hp).2 q m1.1).2 z.symm
      have n2 : p ≠ q' := fun z => ((h.2.1 p hp).2 q' m2.1).2 z.symm
      unfold rh_rk at e
      rw [if_neg n1, if_pos m1, if_neg n2, if_pos m2] at e
      have l1 := List.idxOf_lt_length_of_mem m1.1
      have l2 := List.idxOf_lt_length_of_mem m2.1
      have g1 : (L p)[(L p).idxOf q]'l1 = q := List.getElem_idxOf l1
      have g2 : (L p)[(L p).idxOf q']'l2 = q' := List.getElem_idxOf l2
      rw [← g1, ← g2]
      congr 1
    · have e1 := (rh_rk_le h hp).mp hk
      have e2 := (rh_rk_le h hp).mp hk'
      rcases e1 with e1 | m1
      · rcases e2 with e2 | m2
        · exact e1.symm.trans e2
        · exact absurd ((rh_rk_lt h hp).mpr m2) (e ▸ h8)
      · exact absurd ((rh_rk_lt h hp).mpr m1) h8
end RHR
/-- all assignments that begin with pre, k more persons: the list from its best on, itself last -/
def rh_ext (L : Nat → List Nat) : Nat → List Nat → List (List Nat)
  | 0, pre => [pre]
  | k + 1, pre => (L pre.length ++ [pre.length]).flatMap (fun q => rh_ext L k (pre ++ [q]))
theorem rh_getD_app (pre : List Nat) (q i : Nat) : (pre ++ [q]).getD i 0 = if i = pre.length then q else pre.getD i 0 := by
  rw [List.getD_eq_getElem?_getD, List.getD_eq_getElem?_getD]
  by_cases h : i < pre.length
  · rw [List.getElem?_append_left h, if_neg (by omega)]
  · rw [List.getElem?_append_right (by omega)]
    by_cases e : i = pre.length
    · rw [if_pos e, e, Nat.sub_self]
      rfl
    · rw [if_neg e, List.getElem?_eq_none (by simp; omega), List.getElem?_eq_none (by omega)]
theorem rh_ext_mem {L : Nat → List Nat} : ∀ (k : Nat) (pre m : List Nat), m ∈ rh_ext L k pre → m.length = pre.length + k ∧ ∀ i, i < pre.length → m.getD i 0 = pre.getD i 0
  | 0, pre, m, h => by
    rw [rh_ext, List.mem_singleton] at h
    subst h
    exact ⟨rfl, fun _ _ => rfl⟩
  | k + 1, pre, m, h => by
    rw [rh_ext, List.mem_flatMap] at h
    obtain ⟨q, -, h⟩ := h
    obtain ⟨h1, h2⟩ := rh_ext_mem k (pre ++ [q]) m h
    rw [List.length_append, List.length_singleton] at h1 h2
    refine ⟨by omega, fun i hi => ?_⟩
    rw [h2 i (by omega), rh_getD_app, if_neg (by omega)]
theorem rh_ext_at {L : Nat → List Nat} {k : Nat} {pre m : List Nat} {q : Nat} (h : m ∈ rh_ext L k (pre ++ [q])) : m.getD pre.length 0 = q ∧ ∀ i, i < pre.length → m.getD i 0 = pre.getD i 0 := by
  obtain ⟨-, h2⟩ := rh_ext_mem k (pre ++ [q]) m h
  rw [List.length_append, List.length_singleton] at h2
  refine ⟨?_, fun i hi => ?_⟩
  · rw [h2 _ (by omega), rh_getD_app, if_pos rfl]
  · rw [h2 i (by omega), rh_getD_app, if_neg (by omega)]
/-- a stable matching -/
def rh_SM (n : Nat) (L : Nat → List Nat) (m : List Nat) : Prop :=
  (∀ p, p < n → rh_rk L p (m.getD p 0) ≤ 8 ∧ m.getD p 0 < n ∧ m.getD (m.getD p 0) 0 = p) ∧ ∀ p q, p < n → q < n → rh_rk L p q < rh_rk L p (m.getD p 0) → rh_rk L q p < rh_rk L q (m.getD q 0) → False
noncomputable def rh_sm (n : Nat) (L : Nat → List Nat) (m : List Nat) : Bool := @decide (rh_SM n L m) (Classical.propDecidable _)
theorem rh_sm_iff {n : Nat} {L : Nat → List Nat} {m : List Nat} : rh_sm n L m = true ↔ rh_SM n L m := @decide_eq_true_iff _ (Classical.propDecidable _)
/-- what is counted of them: how many, how often p has q, the first one -/
abbrev rh_A : Type := Nat × (Nat → Nat → Nat) × (Nat → Nat)
def rh_acc (n : Nat) (A : rh_A) (m : Nat → Nat) : rh_A :=
  (A.1 + 1, (fun p q => if p < n ∧ m p = q then A.2.1 p q + 1 else A.2.1 p q), fun p => if A.1 = 0 ∧ p < n then m p else A.2.2 p)
theorem rh_acc_congr {n : Nat} (A : rh_A) {m m' : Nat → Nat} (h : ∀ p, p < n → m p = m' p) : rh_acc n A m = rh_acc n A m' := by
  unfold rh_acc
  congr 2
  · funext p q
    by_cases hp : p < n
    · rw [h p hp]
    · rw [if_neg (fun z => hp z.1), if_neg (fun z => hp z.1)]
  · funext p
    by_cases hp : p < n
    · rw [h p hp]
    · rw [if_neg (fun z => hp z.2), if_neg (fun z => hp z.2)]
def rh_fold (n : Nat) (A : rh_A) (l : List (List Nat)) : rh_A := l.foldl (fun A m => rh_acc n A (fun p => m.getD p 0)) A
theorem rh_fold_app {n : Nat} {A : rh_A} {l l' : List (List Nat)} : rh_fold n A (l ++ l') = rh_fold n (rh_fold n A l) l' := List.foldl_append
/-- the program's search for stable matchings: t, whom it tries with whom -/
def cs_up (t : Nat → Option Nat) (a : Nat) (v : Option Nat) : Nat → Option Nat := fun x => if x = a then v else t x
def cs_blk (n : Nat) (rk : Nat → Nat → Nat) (x : Nat) (t : Nat → Option Nat) : Bool := (List.range n).any fun o => match t o, t x with
  | some b, some a => decide (rk x o < rk x a) && decide (rk o x < rk o b)
  | _, _ => false
theorem cs_blk_iff {n : Nat} {rk : Nat → Nat → Nat} {x : Nat} {t : Nat → Option Nat} : cs_blk n rk x t = true ↔ ∃ o a b, o < n ∧ t o = some b ∧ t x = some a ∧ rk x o < rk x a ∧ rk o x < rk o b := by
  unfold cs_blk
  rw [List.any_eq_true]
  constructor
  · rintro ⟨o, ho, h⟩
    rw [List.mem_range] at ho
    cases h1 : t o with
    | none => rw [h1] at h; cases h
    | some b =>
      cases h2 : t x with
      | none => rw [h1, h2] at h; cases h
      | some a =>
        rw [h1, h2] at h
        simp only [Bool.and_eq_true, decide_eq_true_eq] at h
        exact ⟨o, a, b, ho, h1, rfl, h.1, h.2⟩
  · rintro ⟨o, a, b, ho, h1, h2, h3, h4⟩
    refine ⟨o, List.mem_range.mpr ho, ?_⟩
    rw [h1, h2]
    simp only [Bool.and_eq_true, decide_eq_true_eq]
    exact ⟨h3, h4⟩
def cs_with (n : Nat) (rk : Nat → Nat → Nat) (person : Nat) (t : Nat → Option Nat) (go : (Nat → Option Nat) → rh_A → rh_A) (A : rh_A) (q : Nat) : rh_A :=
  if cs_blk n rk person (cs_up (cs_up t person (some q)) q (some person)) || cs_blk n rk q (cs_up (cs_up t person (some q)) q (some person)) then A else go (cs_up (cs_up t person (some q)) q (some person)) A
def cs_search (n : Nat) (L : Nat → List Nat) (rk : Nat → Nat → Nat) : Nat → Nat → (Nat → Option Nat) → rh_A → rh_A
  | 0, _, t, A => rh_acc n A (fun p => (t p).getD 0)
  | k + 1, person, t, A => match t person with
    | some _ => cs_search n L rk k (person + 1) t A
    | none => cs_with n rk person t (cs_search n L rk k (person + 1)) ((L person).foldl (fun A q => if t q = none ∧ rk person q < 8 then cs_with n rk person t (cs_search n L rk k (person + 1)) A q else A) A) person
/-- t is a part of a stable matching: persons below `person` have whom pre says -/
def cs_Tr (n : Nat) (L : Nat → List Nat) (person : Nat) (pre : List Nat) (t : Nat → Option Nat) : Prop :=
  pre.length = person ∧ (∀ a, a < person → t a = some (pre.getD a 0)) ∧ (∀ a b, t a = some b → a < n ∧ b < n ∧ t b = some a ∧ rh_rk L a b ≤ 8 ∧ (a < person ∨ b < person)) ∧
  ∀ a b a' b', t a = some a' → t b = some b' → rh_rk L a b < rh_rk L a a' → rh_rk L b a < rh_rk L b b' → False
theorem rh_flat_one {α : Type} (G : Nat → List α) (b : Nat) : ∀ (l : List Nat), l.Nodup → b ∈ l → (∀ q, q ∈ l → q ≠ b → G q = []) → l.flatMap G = G b
  | [], _, h, _ => absurd h List.not_mem_nil
  | a :: l, hn, h, hz => by
    rw [List.flatMap_cons]
    rw [List.nodup_cons] at hn
    by_cases e : a = b
    · subst e
      have : l.flatMap G = [] := List.flatMap_eq_nil_iff.mpr fun q hq => hz q (List.mem_cons_of_mem _ hq) (fun z => hn.1 (z ▸ hq))
      rw [this, List.append_nil]
    · rw [hz a List.mem_cons_self e, List.nil_append]
      exact rh_flat_one G b l hn.2 (by rcases List.mem_cons.mp h with z | z; exact absurd z.symm e; exact z) (fun q hq => hz q (List.mem_cons_of_mem _ hq))
section CSA
variable {n : Nat} {L : Nat → List Nat}
/-- an assignment that begins with pre, and is stable, agrees with t -/
theorem cs_agree {person k : Nat} {pre m : List Nat} {t : Nat → Option Nat} (T : cs_Tr n L person pre t) (hm : ∀ i, i < person → m.getD i 0 = pre.getD i 0) (hs : rh_SM n L m) {a b : Nat} (h : t a = some b) : m.getD a 0 = b := by
  obtain ⟨-, h1, h2, -⟩ := T
  obtain ⟨ha, hb, hba, -, hor⟩ := h2 a b h
  by_cases hlt : a < person
  · rw [hm a hlt]
    have := h1 a hlt
    rw [h] at this
    exact (Option.some.inj this).symm
  · have hlt2 : b < person := by omega
    have e := h1 b hlt2
    rw [hba] at e
    have e2 : m.getD b 0 = a := by rw [hm b hlt2]; exact (Option.some.inj e).symm
    have := (hs.1 b hb).2.2
    rw [e2] at this
    exact this
theorem cs_spec (hw : rh_wf n L) : ∀ (k person : Nat) (pre : List Nat) (t : Nat → Option Nat) (A : rh_A), person + k = n → cs_Tr n L person pre t →
    cs_search n L (rh_rk L) k person t A = rh_fold n A ((rh_ext L k pre).filter (rh_sm n L))
  | 0, person, pre, t, A, hk, T => by
    obtain ⟨h0, h1, h2, h3⟩ := T
    have hs : rh_SM n L pre := by
      refine ⟨fun p hp => ?_, fun p q hp hq => h3 p q _ _ (h1 p (by omega)) (h1 q (by omega))⟩
      obtain ⟨-, b2, b3, b4, -⟩ := h2 p _ (h1 p (by omega))
      refine ⟨b4, b2, ?_⟩
      have := h1 (pre.getD p 0) (by omega)
      rw [b3] at this
      exact (Option.some.inj this).symm
    rw [rh_ext, List.filter_cons_of_pos (rh_sm_iff.mpr hs), List.filter_nil]
    show rh_acc n A (fun p => (t p).getD 0) = rh_acc n A (fun p => pre.getD p 0)
    exact rh_acc_congr A fun p hp => by rw [h1 p (by omega)]; rfl
  | k + 1, person, pre, t, A, hk, T => by
    have hp : person < n := by omega
    have hLn := (hw.2.1 person hp).1
    have hLm := (hw.2.1 person hp).2
    have T0 := T
    obtain ⟨h0, h1, h2, h3⟩ := T
    rw [rh_ext, h0, List.filter_flatMap]
    unfold cs_search
    cases ht : t person with
    | some b =>
      obtain ⟨-, hb, hbp, hbk, hor⟩ := h2 person b ht
      have hlt : b < person := by omega
      have hm : b ∈ L person := by
        rcases (rh_rk_le hw hp).mp hbk with e | e
        · omega
        · exact e.1
      have eb : pre.getD b 0 = person := by have := h1 b hlt; rw [hbp] at this; exact (Option.some.inj this).symm
      rw [rh_flat_one (fun q => (rh_ext L k (pre ++ [q])).filter (rh_sm n L)) b]
      · show cs_search n L (rh_rk L) k (person + 1) t A = _
        refine cs_spec hw k (person + 1) (pre ++ [b]) t A (by omega) ⟨by rw [List.length_append, List.length_singleton, h0], fun a ha => ?_, fun a c h => ?_, h3⟩
        · rw [rh_getD_app, h0]
          by_cases e : a = person
          · rw [if_pos e, e]; exact ht
          · rw [if_neg e]; exact h1 a (by omega)
        · obtain ⟨c1, c2, c3, c4, c5⟩ := h2 a c h
          exact ⟨c1, c2, c3, c4, by omega⟩
      · rw [List.nodup_append]
        exact ⟨hLn, by simp, fun a ha c hc => by rw [List.mem_singleton] at hc; subst hc; exact (hLm a ha).2⟩
      · exact List.mem_append_left _ hm
      · intro q _ hq
        rw [List.filter_eq_nil_iff]
        intro m hmem hs
        rw [rh_sm_iff] at hs
        obtain ⟨e1, e2⟩ := rh_ext_at hmem
        rw [h0] at e1 e2
        have e3 : m.getD b 0 = person := by rw [e2 b hlt]; exact eb
        have e4 := (hs.1 b hb).2.2
        rw [e3, e1] at e4
        exact hq e4
    | none =>
      -- one try
      have one : ∀ (A : rh_A) (q : Nat), (q = person ∨ (t q = none ∧ rh_rk L person q < 8)) → q < n → cs_with n (rh_rk L) person t (cs_search n L (rh_rk L) k (person + 1)) A q = rh_fold n A ((rh_ext L k (pre ++ [q])).filter (rh_sm n L)) := by
        intro A q hq hqn
        have hqt : t q = none := by rcases hq with e | e; rw [e]; exact ht; exact e.1
        have hqk : rh_rk L person q ≤ 8 := by
          rcases hq with e | e
          · rw [e, rh_rk_self]; exact Nat.le_refl _
          · omega
        unfold cs_with
        have up : ∀ a, cs_up (cs_up t person (some q)) q (some person) a = if a = q then some person else if a = person then some q else t a := fun a => rfl
        generalize cs_up (cs_up t person (some q)) q (some person) = t' at up
        have tq : t' q = some person := by rw [up, if_pos rfl]
        have tp : t' person = some q := by
          rw [up]
          by_cases e : person = q
          · rw [if_pos e, e]
          · rw [if_neg e, if_pos rfl]
        have to : ∀ a, a ≠ q → a ≠ person → t' a = t a := fun a e1 e2 => by rw [up, if_neg e1, if_neg e2]
        have old : ∀ a b, t' a = some b → (a = q ∧ b = person) ∨ (a = person ∧ b = q) ∨ (a ≠ q ∧ a ≠ person ∧ t a = some b) := by
          intro a b h
          by_cases e1 : a = q
          · subst e1; rw [tq] at h; exact Or.inl ⟨rfl, (Option.some.inj h).symm⟩
          · by_cases e2 : a = person
            · subst e2; rw [tp] at h; exact Or.inr (Or.inl ⟨rfl, (Option.some.inj h).symm⟩)
            · rw [to a e1 e2] at h; exact Or.inr (Or.inr ⟨e1, e2, h⟩)
        -- what begins so and is stable agrees with t'
        have agree : ∀ m, m ∈ rh_ext L k (pre ++ [q]) → rh_SM n L m → ∀ a b, t' a = some b → m.getD a 0 = b := by
          intro m hmem hs a b h
          obtain ⟨e1, e2⟩ := rh_ext_at hmem
          rw [h0] at e1 e2
          rcases old a b h with ⟨x1, x2⟩ | ⟨x1, x2⟩ | ⟨-, -, x3⟩
          · have := (hs.1 person hp).2.2
            rw [e1] at this
            rw [x1, x2]; exact this
          · rw [x1, x2]; exact e1
          · exact cs_agree (k := k) T0 e2 hs x3
        have inside : ∀ x, x < n → cs_blk n (rh_rk L) x t' = true → (rh_ext L k (pre ++ [q])).filter (rh_sm n L) = [] := by
          intro x hx hb
          obtain ⟨o, a, b, ho, b1, b2, b3, b4⟩ := cs_blk_iff.mp hb
          rw [List.filter_eq_nil_iff]
          intro m hmem hs
          rw [rh_sm_iff] at hs
          have g1 := agree m hmem hs o b b1
          have g2 := agree m hmem hs x a b2
          exact hs.2 x o hx ho (by rw [g2]; exact b3) (by rw [g1]; exact b4)
        by_cases hb : (cs_blk n (rh_rk L) person t' || cs_blk n (rh_rk L) q t') = true
        · rw [if_pos hb]
          have hz : (rh_ext L k (pre ++ [q])).filter (rh_sm n L) = [] := by
            rcases Bool.or_eq_true_iff.mp hb with h | h
            · exact inside person hp h
            · exact inside q hqn h
          rw [hz]
          rfl
        · rw [if_neg hb]
          have hb1 : ¬ cs_blk n (rh_rk L) person t' = true := fun h => hb (by rw [h]; rfl)
          have hb2 : ¬ cs_blk n (rh_rk L) q t' = true := fun h => hb (by rw [h, Bool.or_true])
          refine cs_spec hw k (person + 1) (pre ++ [q]) t' A (by omega) ⟨by rw [List.length_append, List.length_singleton, h0], fun a ha => ?_, fun a b h => ?_, fun a b a' b' g1 g2 g3 g4 => ?_⟩
          · rw [rh_getD_app, h0]
            by_cases e : a = person
            · rw [if_pos e, e]; exact tp
            · rw [if_neg e]
              have hne : a ≠ q := fun z => by
                have := h1 a (by omega)
                rw [z, hqt] at this
                cases this
              rw [to a hne e]
              exact h1 a (by omega)
          · rcases old a b h with ⟨x1, x2⟩ | ⟨x1, x2⟩ | ⟨x1, x2, x3⟩
            · subst x1; subst x2
              exact ⟨hqn, hp, tp, (rh_R hw).2.1 _ _ hp hqn hqk, Or.inr (Nat.lt_succ_self _)⟩
            · subst x1; subst x2
              exact ⟨hp, hqn, tq, hqk, Or.inl (Nat.lt_succ_self _)⟩
            · obtain ⟨c1, c2, c3, c4, c5⟩ := h2 a b x3
              refine ⟨c1, c2, ?_, c4, by omega⟩
              rw [to b (fun z => by rw [z, hqt] at c3; cases c3) (fun z => by rw [z, ht] at c3; cases c3)]
              exact c3
          · have hbn : b < n := by
              rcases old b b' g2 with ⟨x1, -⟩ | ⟨x1, -⟩ | ⟨-, -, x3⟩
              · rw [x1]; exact hqn
              · rw [x1]; exact hp
              · exact (h2 b b' x3).1
            have han : a < n := by
              rcases old a a' g1 with ⟨x1, -⟩ | ⟨x1, -⟩ | ⟨-, -, x3⟩
              · rw [x1]; exact hqn
              · rw [x1]; exact hp
              · exact (h2 a a' x3).1
            rcases old a a' g1 with ⟨x1, -⟩ | ⟨x1, -⟩ | ⟨-, -, x3⟩
            · exact hb2 (cs_blk_iff.mpr ⟨b, a', b', hbn, g2, x1 ▸ g1, x1 ▸ g3, x1 ▸ g4⟩)
            · exact hb1 (cs_blk_iff.mpr ⟨b, a', b', hbn, g2, x1 ▸ g1, x1 ▸ g3, x1 ▸ g4⟩)
            · rcases old b b' g2 with ⟨y1, -⟩ | ⟨y1, -⟩ | ⟨-, -, y3⟩
              · exact hb2 (cs_blk_iff.mpr ⟨a, b', a', han, g1, y1 ▸ g2, y1 ▸ g4, y1 ▸ g3⟩)
              · exact hb1 (cs_blk_iff.mpr ⟨a, b', a', han, g1, y1 ▸ g2, y1 ▸ g4, y1 ▸ g3⟩)
              · exact h3 a b a' b' x3 y3 g3 g4
      -- who is taken, or isn't possible, begins nothing stable
      have none' : ∀ q, q < n → q ≠ person → ¬ (t q = none ∧ rh_rk L person q < 8) → (rh_ext L k (pre ++ [q])).filter (rh_sm n L) = [] := by
        intro q hqn hqp hno
        rw [List.filter_eq_nil_iff]
        intro m hmem hs
        rw [rh_sm_iff] at hs
        obtain ⟨e1, e2⟩ := rh_ext_at hmem
        rw [h0] at e1 e2
        have hk8 := (hs.1 person hp).1
        have hinv := (hs.1 person hp).2.2
        rw [e1] at hk8 hinv
        have hlt : rh_rk L person q < 8 := by
          rcases (rh_rk_le hw hp).mp hk8 with e | e
          · exact absurd e.symm hqp
          · exact (rh_rk_lt hw hp).mpr e
        cases hq : t q with
        | none => exact hno ⟨hq, hlt⟩
        | some b =>
          have g1 := cs_agree (k := k) T0 e2 hs hq
          rw [hinv] at g1
          have g2 := (h2 q b hq).2.2.1
          rw [← g1, ht] at g2
          cases g2
      have fold : ∀ (l : List Nat) (A : rh_A), (∀ q, q ∈ l → q < n ∧ q ≠ person) → l.foldl (fun A q => if t q = none ∧ rh_rk L person q < 8 then cs_with n (rh_rk L) person t (cs_search n L (rh_rk L) k (person + 1)) A q else A) A
          = rh_fold n A (l.flatMap fun q => (rh_ext L k (pre ++ [q])).filter (rh_sm n L)) := by
        intro l
        induction l with
        | nil => intro A _; rfl
        | cons q l ih =>
          intro A hl
          rw [List.foldl_cons, List.flatMap_cons, rh_fold_app, ih _ fun x hx => hl x (List.mem_cons_of_mem _ hx)]
          congr 1
          obtain ⟨hqn, hqp⟩ := hl q List.mem_cons_self
          by_cases hc : t q = none ∧ rh_rk L person q < 8
          · rw [if_pos hc]; exact one A q (Or.inr hc) hqn
          · rw [if_neg hc, none' q hqn hqp hc]; rfl
      show cs_with n (rh_rk L) person t (cs_search n L (rh_rk L) k (person + 1)) ((L person).foldl _ A) person = _
      rw [fold (L person) A hLm, List.flatMap_append, rh_fold_app, one _ person (Or.inl rfl) hp, List.flatMap_cons, List.flatMap_nil, List.append_nil]
/-- from the start: no one has anybody -/
theorem cs_all (hw : rh_wf n L) (A : rh_A) : cs_search n L (rh_rk L) n 0 (fun _ => none) A = rh_fold n A ((rh_ext L n []).filter (rh_sm n L)) :=
  cs_spec hw n 0 [] (fun _ => none) A (Nat.zero_add n) ⟨rfl, fun a h => absurd h (Nat.not_lt_zero a), fun a b h => by (cases h), fun a b a' b' h => by (cases h)⟩
end CSA
