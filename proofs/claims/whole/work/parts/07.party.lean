/-! Partitions; the program's search for the first one. -/
def rh_PT (n : Nat) (L : Nat → List Nat) (m : List Nat) : Prop :=
  (∀ p, p < n → rh_rk L p (m.getD p 0) ≤ 8 ∧ m.getD p 0 < n) ∧ (∀ p q, p < n → q < n → m.getD p 0 = m.getD q 0 → p = q) ∧
  (∀ p q, p < n → q < n → m.getD q 0 = p → rh_rk L p q < rh_rk L p (m.getD p 0) → False) ∧
  ∀ i j, i < n → j < n → rh_rk L (m.getD i 0) (m.getD j 0) < rh_rk L (m.getD i 0) i → rh_rk L (m.getD j 0) (m.getD i 0) < rh_rk L (m.getD j 0) j → False
noncomputable def rh_pt (n : Nat) (L : Nat → List Nat) (m : List Nat) : Bool := @decide (rh_PT n L m) (Classical.propDecidable _)
theorem rh_pt_iff {n : Nat} {L : Nat → List Nat} {m : List Nat} : rh_pt n L m = true ↔ rh_PT n L m := @decide_eq_true_iff _ (Classical.propDecidable _)
/-- next ones fo, last ones le -/
def ps_keeps (rk : Nat → Nat → Nat) (x : Nat) (fo le : Nat → Option Nat) : Bool := match fo x, le x with
  | some f, some l => !decide (rk x l < rk x f)
  | _, _ => true
abbrev ps_S : Type := (Nat → Option Nat) × (Nat → Option Nat)
def ps_with (n : Nat) (rk : Nat → Nat → Nat) (person : Nat) (fo le : Nat → Option Nat) (go : (Nat → Option Nat) → (Nat → Option Nat) → Option ps_S) (q : Nat) : Option ps_S :=
  if le q ≠ none then none
  else if ps_keeps rk person (cs_up fo person (some q)) (cs_up le q (some person)) && ps_keeps rk q (cs_up fo person (some q)) (cs_up le q (some person)) && !cs_blk n rk q (cs_up le q (some person)) then
    go (cs_up fo person (some q)) (cs_up le q (some person))
  else none
def ps_first (n : Nat) (rk : Nat → Nat → Nat) (person : Nat) (fo le : Nat → Option Nat) (go : (Nat → Option Nat) → (Nat → Option Nat) → Option ps_S) : List Nat → Option ps_S
  | [] => ps_with n rk person fo le go person
  | q :: l => match (if rk person q < 8 then ps_with n rk person fo le go q else none) with
    | some r => some r
    | none => ps_first n rk person fo le go l
def ps_search (n : Nat) (L : Nat → List Nat) (rk : Nat → Nat → Nat) : Nat → Nat → (Nat → Option Nat) → (Nat → Option Nat) → Option ps_S
  | 0, _, fo, le => some (fo, le)
  | k + 1, person, fo, le => ps_first n rk person fo le (ps_search n L rk k (person + 1)) (L person)
def ps_T (n : Nat) (L : Nat → List Nat) (person : Nat) (pre : List Nat) (fo le : Nat → Option Nat) : Prop :=
  pre.length = person ∧ (∀ a, a < person → fo a = some (pre.getD a 0)) ∧ (∀ a, person ≤ a → fo a = none) ∧ (∀ b i, le b = some i ↔ i < person ∧ pre.getD i 0 = b) ∧
  (∀ a, a < person → pre.getD a 0 < n ∧ rh_rk L a (pre.getD a 0) ≤ 8) ∧ (∀ a i f, le a = some i → fo a = some f → ¬ rh_rk L a i < rh_rk L a f) ∧
  ∀ a b i j, le a = some i → le b = some j → rh_rk L a b < rh_rk L a i → rh_rk L b a < rh_rk L b j → False
/-- the answer of a search: the first one of l, if there is one -/
def ps_is (n : Nat) (l : List (List Nat)) (o : Option ps_S) : Prop := match l with
  | [] => o = none
  | m :: _ => ∃ fo le, o = some (fo, le) ∧ ∀ p, p < n → fo p = some (m.getD p 0)
theorem ps_is_app {n : Nat} {l l' : List (List Nat)} {o : Option ps_S} (h : (∃ m t, l = m :: t) ∧ ps_is n l o ∨ l = [] ∧ ps_is n l' o) : ps_is n (l ++ l') o := by
  rcases h with ⟨⟨m, t, rfl⟩, h⟩ | ⟨rfl, h⟩
  · exact h
  · exact h
section PSA
variable {n : Nat} {L : Nat → List Nat}
theorem ps_spec (hw : rh_wf n L) : ∀ (k person : Nat) (pre : List Nat) (fo le : Nat → Option Nat), person + k = n → ps_T n L person pre fo le →
    ps_is n ((rh_ext L k pre).filter (rh_pt n L)) (ps_search n L (rh_rk L) k person fo le)
  | 0, person, pre, fo, le, hk, T => by
    obtain ⟨h0, h1, h2, h3, h4, h5, h6⟩ := T
    have hs : rh_PT n L pre := by
      refine ⟨fun p hp => ⟨(h4 p (by omega)).2, (h4 p (by omega)).1⟩, fun p q hp hq e => ?_, fun p q hp hq e => ?_, fun i j hi hj => ?_⟩
      · have a1 := (h3 (pre.getD p 0) p).mpr ⟨by omega, rfl⟩
        have a2 := (h3 (pre.getD p 0) q).mpr ⟨by omega, e.symm⟩
        rw [a1] at a2
        exact Option.some.inj a2
      · exact h5 p q _ ((h3 p q).mpr ⟨by omega, e⟩) (h1 p (by omega))
      · exact h6 _ _ i j ((h3 _ i).mpr ⟨by omega, rfl⟩) ((h3 _ j).mpr ⟨by omega, rfl⟩)
    rw [rh_ext, List.filter_cons_of_pos (rh_pt_iff.mpr hs), List.filter_nil]
    exact ⟨fo, le, rfl, fun p hp => h1 p (by omega)⟩
  | k + 1, person, pre, fo, le, hk, T => by
    have hp : person < n := by omega
    have hLm := (hw.2.1 person hp).2
    obtain ⟨h0, h1, h2, h3, h4, h5, h6⟩ := T
    rw [rh_ext, h0, List.filter_flatMap]
    -- one try
    have one : ∀ q, q < n → rh_rk L person q ≤ 8 → ps_is n ((rh_ext L k (pre ++ [q])).filter (rh_pt n L)) (ps_with n (rh_rk L) person fo le (ps_search n L (rh_rk L) k (person + 1)) q) := by
      intro q hqn hqk
      have nil : (∀ m, m ∈ rh_ext L k (pre ++ [q]) → rh_PT n L m → False) → (rh_ext L k (pre ++ [q])).filter (rh_pt n L) = [] := fun h => by
        rw [List.filter_eq_nil_iff]
        intro m hm hs
        exact h m hm (rh_pt_iff.mp hs)
      unfold ps_with
      by_cases hl : le q ≠ none
      · rw [if_pos hl, nil]
        · rfl
        · intro m hm hs
          obtain ⟨e1, e2⟩ := rh_ext_at hm
          rw [h0] at e1 e2
          cases hq : le q with
          | none => exact hl hq
          | some i =>
            obtain ⟨i1, i2⟩ := (h3 q i).mp hq
            have := hs.2.1 i person (by omega) hp (by rw [e2 i i1, e1]; exact i2)
            omega
      · rw [if_neg hl]
        have hlq : le q = none := Classical.byContradiction hl
        have upf : ∀ a, cs_up fo person (some q) a = if a = person then some q else fo a := fun _ => rfl
        have upl : ∀ a, cs_up le q (some person) a = if a = q then some person else le a := fun _ => rfl
        generalize cs_up fo person (some q) = fo' at upf
        generalize cs_up le q (some person) = le' at upl
        have fp : fo' person = some q := by rw [upf, if_pos rfl]
        have lq : le' q = some person := by rw [upl, if_pos rfl]
        -- what the tries say of an assignment that begins so
        have lem : ∀ m, m ∈ rh_ext L k (pre ++ [q]) → ∀ b i, le' b = some i → i < n ∧ m.getD i 0 = b := by
          intro m hm b i h
          obtain ⟨e1, e2⟩ := rh_ext_at hm
          rw [h0] at e1 e2
          rw [upl] at h
          by_cases e : b = q
          · rw [if_pos e] at h
            have := Option.some.inj h
            subst this
            exact ⟨hp, e1.trans e.symm⟩
          · rw [if_neg e] at h
            obtain ⟨i1, i2⟩ := (h3 b i).mp h
            exact ⟨by omega, (e2 i i1).trans i2⟩
        have fom : ∀ m, m ∈ rh_ext L k (pre ++ [q]) → ∀ a f, fo' a = some f → a < n ∧ m.getD a 0 = f := by
          intro m hm a f h
          obtain ⟨e1, e2⟩ := rh_ext_at hm
          rw [h0] at e1 e2
          rw [upf] at h
          by_cases e : a = person
          · rw [if_pos e] at h
            rw [e]
            exact ⟨hp, e1.trans (Option.some.inj h)⟩
          · rw [if_neg e] at h
            by_cases hlt : a < person
            · rw [h1 a hlt] at h
              exact ⟨by omega, (e2 a hlt).trans (Option.some.inj h)⟩
            · rw [h2 a (by omega)] at h
              cases h
        have keepsNo : ∀ x, ps_keeps (rh_rk L) x fo' le' = false → (rh_ext L k (pre ++ [q])).filter (rh_pt n L) = [] := by
          intro x hx
          apply nil
          intro m hm hs
          unfold ps_keeps at hx
          cases hf : fo' x with
          | none => rw [hf] at hx; cases hx
          | some f =>
            cases hl2 : le' x with
            | none => rw [hf, hl2] at hx; cases hx
            | some i =>
              rw [hf, hl2] at hx
              have hlt : rh_rk L x i < rh_rk L x f := by simpa using hx
              obtain ⟨a1, a2⟩ := fom m hm x f hf
              obtain ⟨b1, b2⟩ := lem m hm x i hl2
              exact hs.2.2.1 x i a1 b1 b2 (by rw [a2]; exact hlt)
        have blkNo : cs_blk n (rh_rk L) q le' = true → (rh_ext L k (pre ++ [q])).filter (rh_pt n L) = [] := by
          intro hb
          apply nil
          intro m hm hs
          obtain ⟨o, a, b, ho, g1, g2, g3, g4⟩ := cs_blk_iff.mp hb
          obtain ⟨a1, a2⟩ := lem m hm q a g2
          obtain ⟨b1, b2⟩ := lem m hm o b g1
          refine hs.2.2.2 a b a1 b1 ?_ ?_
          · rw [a2, b2]; exact g3
          · rw [a2, b2]; exact g4
        by_cases hc : (ps_keeps (rh_rk L) person fo' le' && ps_keeps (rh_rk L) q fo' le' && !cs_blk n (rh_rk L) q le') = true
        · rw [if_pos hc]
          simp only [Bool.and_eq_true, Bool.not_eq_true'] at hc
          obtain ⟨⟨c1, c2⟩, c3⟩ := hc
          have kp : ∀ x, ps_keeps (rh_rk L) x fo' le' = true → ∀ i f, le' x = some i → fo' x = some f → ¬ rh_rk L x i < rh_rk L x f := by
            intro x hx i f g1 g2 hlt
            unfold ps_keeps at hx
            rw [g1, g2] at hx
            simp [hlt] at hx
          refine ps_spec hw k (person + 1) (pre ++ [q]) fo' le' (by omega) ⟨by rw [List.length_append, List.length_singleton, h0], fun a ha => ?_, fun a ha => ?_, fun b i => ?_, fun a ha => ?_, fun a i f g1 g2 => ?_, fun a b i j g1 g2 g3 g4 => ?_⟩
          · rw [rh_getD_app, h0, upf]
            by_cases e : a = person
            · rw [if_pos e, if_pos e]
            · rw [if_neg e, if_neg e]; exact h1 a (by omega)
          · rw [upf, if_neg (by omega)]; exact h2 a (by omega)
          · rw [upl, rh_getD_app, h0]
            by_cases e : b = q
            · rw [if_pos e]
              constructor
              · intro h
                have := Option.some.inj h
                subst this
                exact ⟨Nat.lt_succ_self _, by rw [if_pos rfl]; exact e.symm⟩
              · rintro ⟨i1, i2⟩
                by_cases ei : i = person
                · rw [ei]
                · rw [if_neg ei] at i2
                  have := (h3 b i).mpr ⟨by omega, i2⟩
                  rw [e, hlq] at this
                  cases this
            · rw [if_neg e, h3 b i]
              constructor
              · rintro ⟨i1, i2⟩
                exact ⟨by omega, by rw [if_neg (by omega)]; exact i2⟩
              · rintro ⟨i1, i2⟩
                by_cases ei : i = person
                · rw [if_pos ei] at i2
                  exact absurd i2.symm e
                · rw [if_neg ei] at i2
                  exact ⟨by omega, i2⟩
          · rw [rh_getD_app, h0]
            by_cases e : a = person
            · rw [if_pos e, e]; exact ⟨hqn, hqk⟩
            · rw [if_neg e]; exact h4 a (by omega)
          · by_cases e1 : a = person
            · rw [e1] at g1 g2 ⊢; exact kp person c1 i f g1 g2
            · by_cases e2 : a = q
              · rw [e2] at g1 g2 ⊢; exact kp q c2 i f g1 g2
              · rw [upl, if_neg e2] at g1
                rw [upf, if_neg e1] at g2
                exact h5 a i f g1 g2
          · have no : ∀ (x i o j : Nat), x = q → le' x = some i → le' o = some j → o < n → rh_rk L x o < rh_rk L x i → rh_rk L o x < rh_rk L o j → False := by
              intro x i o j ex k1 k2 k3 k4 k5
              rw [ex] at k1 k4 k5
              have := cs_blk_iff.mpr ⟨o, i, j, k3, k2, k1, k4, k5⟩
              rw [c3] at this
              cases this
            have bnd : ∀ b j, le' b = some j → b < n := by
              intro b j h
              rw [upl] at h
              by_cases e : b = q
              · rw [e]; exact hqn
              · rw [if_neg e] at h
                obtain ⟨j1, j2⟩ := (h3 b j).mp h
                rw [← j2]
                exact (h4 j j1).1
            by_cases ea : a = q
            · exact no a i b j ea g1 g2 (bnd b j g2) g3 g4
            · by_cases eb : b = q
              · exact no b j a i eb g2 g1 (bnd a i g1) g4 g3
              · rw [upl, if_neg ea] at g1
                rw [upl, if_neg eb] at g2
                exact h6 a b i j g1 g2 g3 g4
        · rw [if_neg hc]
          have hz : (rh_ext L k (pre ++ [q])).filter (rh_pt n L) = [] := by
            cases c1 : ps_keeps (rh_rk L) person fo' le' with
            | false => exact keepsNo person c1
            | true =>
              cases c2 : ps_keeps (rh_rk L) q fo' le' with
              | false => exact keepsNo q c2
              | true =>
                cases c3 : cs_blk n (rh_rk L) q le' with
                | true => exact blkNo c3
                | false => rw [c1, c2, c3] at hc; exact absurd rfl hc
          rw [hz]
          rfl
    have none' : ∀ q, q ≠ person → ¬ rh_rk L person q < 8 → (rh_ext L k (pre ++ [q])).filter (rh_pt n L) = [] := by
      intro q hqp hno
      rw [List.filter_eq_nil_iff]
      intro m hm hs
      obtain ⟨e1, -⟩ := rh_ext_at hm
      rw [h0] at e1
      have := ((rh_pt_iff.mp hs).1 person hp).1
      rw [e1] at this
      rcases (rh_rk_le hw hp).mp this with e | e
      · exact hqp e.symm
      · exact hno ((rh_rk_lt hw hp).mpr e)
    have fold : ∀ (l : List Nat), (∀ q, q ∈ l → q < n ∧ q ≠ person) → ps_is n ((l ++ [person]).flatMap fun q => (rh_ext L k (pre ++ [q])).filter (rh_pt n L)) (ps_first n (rh_rk L) person fo le (ps_search n L (rh_rk L) k (person + 1)) l) := by
      intro l
      induction l with
      | nil =>
        intro _
        rw [List.nil_append, List.flatMap_cons, List.flatMap_nil, List.append_nil]
        exact one person hp (by rw [rh_rk_self]; exact Nat.le_refl _)
      | cons q l ih =>
        intro hl
        obtain ⟨hqn, hqp⟩ := hl q List.mem_cons_self
        have ih := ih fun x hx => hl x (List.mem_cons_of_mem _ hx)
        rw [List.cons_append, List.flatMap_cons]
        unfold ps_first
        apply ps_is_app
        by_cases hc : rh_rk L person q < 8
        · rw [if_pos hc]
          have ho := one q hqn (by omega)
          cases hF : (rh_ext L k (pre ++ [q])).filter (rh_pt n L) with
          | nil =>
            rw [hF] at ho
            have ho : ps_with n (rh_rk L) person fo le (ps_search n L (rh_rk L) k (person + 1)) q = none := ho
            rw [ho]
            exact Or.inr ⟨rfl, ih⟩
          | cons m t =>
            rw [hF] at ho
            obtain ⟨f1, l1, e, hf⟩ := ho
            rw [e]
            exact Or.inl ⟨⟨m, t, rfl⟩, f1, l1, rfl, hf⟩
        · rw [if_neg hc, none' q hqp hc]
          exact Or.inr ⟨rfl, ih⟩
    exact fold (L person) hLm
theorem ps_all (hw : rh_wf n L) : ps_is n ((rh_ext L n []).filter (rh_pt n L)) (ps_search n L (rh_rk L) n 0 (fun _ => none) (fun _ => none)) :=
  ps_spec hw n 0 [] (fun _ => none) (fun _ => none) (Nat.zero_add n) ⟨rfl, fun a h => absurd h (Nat.not_lt_zero a), fun _ _ => rfl, fun b i => ⟨fun h => by (cases h), fun h => absurd h.1 (Nat.not_lt_zero i)⟩, fun a h => absurd h (Nat.not_lt_zero a), fun a i f h => by (cases h), fun a b i j h => by (cases h)⟩
/-- every assignment of ones that a person may have is among them -/
theorem rh_ext_all : ∀ (k : Nat) (pre m : List Nat), m.length = pre.length + k → (∀ i, i < pre.length → m.getD i 0 = pre.getD i 0) → (∀ i, pre.length ≤ i → i < pre.length + k → m.getD i 0 ∈ L i ∨ m.getD i 0 = i) → m ∈ rh_ext L k pre
  | 0, pre, m, h1, h2, _ => by
    rw [rh_ext, List.mem_singleton]
    apply List.ext_getElem (by omega)
    intro i a b
    have := h2 i b
    rw [List.getD_eq_getElem?_getD, List.getD_eq_getElem?_getD, List.getElem?_eq_getElem a, List.getElem?_eq_getElem b] at this
    exact this
  | k + 1, pre, m, h1, h2, h3 => by
    rw [rh_ext, List.mem_flatMap]
    refine ⟨m.getD pre.length 0, ?_, rh_ext_all k (pre ++ [m.getD pre.length 0]) m (by rw [List.length_append, List.length_singleton]; omega) (fun i hi => ?_) (fun i a b => ?_)⟩
    · rcases h3 pre.length (Nat.le_refl _) (by omega) with h | h
      · exact List.mem_append_left _ h
      · exact List.mem_append_right _ (List.mem_singleton.mpr h)
    · rw [List.length_append, List.length_singleton] at hi
      rw [rh_getD_app]
      by_cases e : i = pre.length
      · rw [if_pos e, e]
      · rw [if_neg e]; exact h2 i (by omega)
    · rw [List.length_append, List.length_singleton] at a b
      exact h3 i (by omega) (by omega)
/-- there is a first partition -/
theorem rh_pt_ex (hw : rh_wf n L) : ∃ m t, (rh_ext L n []).filter (rh_pt n L) = m :: t := by
  obtain ⟨f, g, hi, hk, hge, hst⟩ := ex_partition (rh_R hw)
  have hget : ∀ p, p < n → ((List.range n).map f).getD p 0 = f p := fun p hp => by
    rw [List.getD_eq_getElem?_getD, List.getElem?_map, List.getElem?_range hp]
    rfl
  have hin : (List.range n).map f ∈ (rh_ext L n []).filter (rh_pt n L) := by
    rw [List.mem_filter]
    refine ⟨rh_ext_all n [] _ (by simp) (fun i h => absurd h (Nat.not_lt_zero i)) (fun i _ h => ?_), rh_pt_iff.mpr ⟨fun p hp => ?_, fun p q hp hq e => ?_, fun p q hp hq e hlt => ?_, fun i j hi' hj h1 h2 => ?_⟩⟩
    · have hi' : i < n := by simpa using h
      rw [hget i hi']
      rcases (rh_rk_le hw hi').mp (hk i hi') with e | e
      · exact Or.inr e.symm
      · exact Or.inl e.1
    · rw [hget p hp]; exact ⟨hk p hp, (hi p hp).1⟩
    · rw [hget p hp, hget q hq] at e
      rw [← (hi p hp).2.2.1, ← (hi q hq).2.2.1, e]
    · rw [hget q hq] at e
      rw [hget p hp] at hlt
      have : g p = q := by rw [← e]; exact (hi q hq).2.2.1
      have h3 := hge p hp
      rw [this] at h3
      omega
    · rw [hget i hi', hget j hj] at h1 h2
      exact hst (f i) (f j) (hi i hi').1 (hi j hj).1 (by rw [(hi i hi').2.2.1]; exact h1) (by rw [(hi j hj).2.2.1]; exact h2)
  cases h : (rh_ext L n []).filter (rh_pt n L) with
  | nil => rw [h] at hin; exact absurd hin List.not_mem_nil
  | cons m t => exact ⟨m, t, rfl⟩
end PSA
