/-! There always is a partition (a person prefers by r, the less the better; S is being single): the document takes it as known, the reference's walk round its parties needs it. Own proof: stable permutations of the doubled house; the worst one that is not worse than its inverse is a partition. -/
theorem ex_surj : ∀ (n : Nat) (f : Nat → Nat), (∀ i, i < n → f i < n) → (∀ i j, i < n → j < n → f i = f j → i = j) → ∀ j, j < n → ∃ i, i < n ∧ f i = j
  | 0, _, _, _, j, hj => absurd hj (Nat.not_lt_zero j)
  | n + 1, f, h1, h2, j, hj => by
    have hm : f n < n + 1 := h1 n (Nat.lt_succ_self n)
    have g1 : ∀ i, i < n → (if f i = n then f n else f i) < n := by
      intro i hi
      have h3 := h1 i (by omega)
      by_cases e : f i = n
      · rw [if_pos e]
        have : f n ≠ n := fun e2 => by
          have := h2 i n (by omega) (by omega) (e.trans e2.symm)
          omega
        omega
      · rw [if_neg e]; omega
    have g2 : ∀ i k, i < n → k < n → (if f i = n then f n else f i) = (if f k = n then f n else f k) → i = k := by
      intro i k hi hk e
      by_cases ei : f i = n <;> by_cases ek : f k = n
      · exact h2 i k (by omega) (by omega) (ei.trans ek.symm)
      · rw [if_pos ei, if_neg ek] at e
        have := h2 n k (by omega) (by omega) e
        omega
      · rw [if_neg ei, if_pos ek] at e
        have := h2 i n (by omega) (by omega) e
        omega
      · rw [if_neg ei, if_neg ek] at e
        exact h2 i k (by omega) (by omega) e
    have ih := ex_surj n (fun i => if f i = n then f n else f i) g1 g2
    by_cases e1 : j = f n
    · exact ⟨n, by omega, e1.symm⟩
    · by_cases e2 : j = n
      · obtain ⟨i, hi, e⟩ := ih (f n) (by omega)
        have e : (if f i = n then f n else f i) = f n := e
        by_cases ei : f i = n
        · exact ⟨i, by omega, ei.trans e2.symm⟩
        · rw [if_neg ei] at e
          have := h2 i n (by omega) (by omega) e
          omega
      · obtain ⟨i, hi, e⟩ := ih j (by omega)
        have e : (if f i = n then f n else f i) = j := e
        by_cases ei : f i = n
        · rw [if_pos ei] at e
          exact absurd e.symm e1
        · rw [if_neg ei] at e
          exact ⟨i, by omega, e⟩
theorem ex_pigeon (n : Nat) (f : Nat → Nat) (h1 : ∀ i, i ≤ n → f i < n) : ∃ i j, i < j ∧ j ≤ n ∧ f i = f j := by
  apply Classical.byContradiction
  intro hno
  have inj : ∀ i j, i ≤ n → j ≤ n → f i = f j → i = j := by
    intro i j hi hj e
    rcases Nat.lt_trichotomy i j with h | h | h
    · exact absurd ⟨i, j, h, hj, e⟩ hno
    · exact h
    · exact absurd ⟨j, i, h, hi, e.symm⟩ hno
  obtain ⟨i, hi, e⟩ := ex_surj n f (fun i hi => h1 i (by omega)) (fun i j hi hj e => inj i j (by omega) (by omega) e) (f n) (h1 n (Nat.le_refl n))
  have := inj i n (by omega) (by omega) e
  omega
/-- a greatest one, of a kind whose measure is bounded -/
theorem ex_max {α : Type} (P : α → Prop) (μ : α → Nat) (B : Nat) (hB : ∀ a, P a → μ a ≤ B) : ∀ (k : Nat) (a : α), P a → B - μ a ≤ k → ∃ c, P c ∧ ∀ d, P d → μ d ≤ μ c
  | 0, a, ha, hk => ⟨a, ha, fun d hd => by have h1 := hB a ha; have h2 := hB d hd; omega⟩
  | k + 1, a, ha, hk => by
    by_cases h : ∃ d, P d ∧ μ a < μ d
    · obtain ⟨d, hd, hlt⟩ := h
      have h1 := hB d hd
      exact ex_max P μ B hB k d hd (by omega)
    · exact ⟨a, ha, fun d hd => Nat.le_of_not_lt fun hlt => h ⟨d, hd, hlt⟩⟩
/-- a least one below n of a kind -/
theorem ex_min (P : Nat → Prop) (μ : Nat → Nat) : ∀ (k : Nat) (a : Nat), P a → μ a ≤ k → ∃ c, P c ∧ ∀ d, P d → μ c ≤ μ d
  | 0, a, ha, hk => ⟨a, ha, fun d _ => by omega⟩
  | k + 1, a, ha, hk => by
    by_cases h : ∃ d, P d ∧ μ d < μ a
    · obtain ⟨d, hd, hlt⟩ := h
      exact ex_min P μ k d hd (by omega)
    · exact ⟨a, ha, fun d hd => Nat.le_of_not_lt fun hlt => h ⟨d, hd, hlt⟩⟩
def ex_sum (f : Nat → Nat) : Nat → Nat
  | 0 => 0
  | n + 1 => ex_sum f n + f n
theorem ex_sum_le {f g : Nat → Nat} : ∀ (n : Nat), (∀ i, i < n → f i ≤ g i) → ex_sum f n ≤ ex_sum g n
  | 0, _ => Nat.le_refl _
  | n + 1, h => Nat.add_le_add (ex_sum_le n fun i hi => h i (by omega)) (h n (by omega))
theorem ex_sum_lt {f g : Nat → Nat} : ∀ (n : Nat), (∀ i, i < n → f i ≤ g i) → ∀ p, p < n → f p < g p → ex_sum f n < ex_sum g n
  | 0, _, p, hp, _ => absurd hp (Nat.not_lt_zero p)
  | n + 1, h, p, hp, hlt => by
    show ex_sum f n + f n < ex_sum g n + g n
    by_cases e : p = n
    · subst e
      have := ex_sum_le p fun i hi => h i (by omega)
      omega
    · have := ex_sum_lt n (fun i hi => h i (by omega)) p (by omega) hlt
      have := h n (by omega)
      omega
theorem ex_sum_bound {f : Nat → Nat} {S : Nat} : ∀ (n : Nat), (∀ i, i < n → f i ≤ S) → ex_sum f n ≤ n * S
  | 0, _ => by simp [ex_sum]
  | n + 1, h => by
    have h1 := ex_sum_bound n fun i hi => h i (by omega)
    have h2 := h n (by omega)
    show ex_sum f n + f n ≤ (n + 1) * S
    rw [Nat.succ_mul]
    omega
/-- ranks: itself at S; who may have whom is two-sided; no two at one rank -/
def ex_R (n S : Nat) (r : Nat → Nat → Nat) : Prop :=
  (∀ p, p < n → r p p = S) ∧ (∀ p q, p < n → q < n → r p q ≤ S → r q p ≤ S) ∧ ∀ p q q', p < n → q < n → q' < n → r p q ≤ S → r p q = r p q' → q = q'
/-- one person's offers: everyone's c is one whom it may have, and whoever is better than it has a better offer -/
def ex_I (n S : Nat) (r : Nat → Nat → Nat) (c : Nat → Nat) : Prop :=
  (∀ p, p < n → c p < n ∧ r p (c p) ≤ S) ∧ ∀ a b, a < n → b < n → r a b < r a (c a) → ∃ a', a' < n ∧ c a' = b ∧ r b a' < r b a
def ex_Inv (n : Nat) (f g : Nat → Nat) : Prop := ∀ p, p < n → f p < n ∧ g p < n ∧ g (f p) = p ∧ f (g p) = p
/-- a stable permutation of the doubled house, with its inverse -/
def ex_SS (n S : Nat) (r : Nat → Nat → Nat) (f g : Nat → Nat) : Prop :=
  ex_Inv n f g ∧ (∀ p, p < n → r p (f p) ≤ S) ∧ ∀ a b, a < n → b < n → r a b < r a (f a) → r b a < r b (g b) → False
/-- a partition: next ones f, last ones g -/
def ex_PT (n S : Nat) (r : Nat → Nat → Nat) (f g : Nat → Nat) : Prop :=
  ex_Inv n f g ∧ (∀ p, p < n → r p (f p) ≤ S) ∧ (∀ p, p < n → r p (f p) ≤ r p (g p)) ∧ ∀ a b, a < n → b < n → r a b < r a (g a) → r b a < r b (g b) → False
theorem ex_inv (n : Nat) (f : Nat → Nat) (h1 : ∀ i, i < n → f i < n) (h2 : ∀ i j, i < n → j < n → f i = f j → i = j) : ∃ g, ex_Inv n f g := by
  have h : ∀ q, ∃ p, q < n → p < n ∧ f p = q := by
    intro q
    by_cases hq : q < n
    · obtain ⟨p, hp, e⟩ := ex_surj n f h1 h2 q hq
      exact ⟨p, fun _ => ⟨hp, e⟩⟩
    · exact ⟨0, fun h => absurd h hq⟩
  obtain ⟨g, hg⟩ := Classical.axiomOfChoice h
  exact ⟨g, fun p hp => ⟨h1 p hp, (hg p hp).1, h2 _ _ (hg (f p) (h1 p hp)).1 hp (hg (f p) (h1 p hp)).2, (hg p hp).2⟩⟩
section EXA
variable {n S : Nat} {r : Nat → Nat → Nat}
theorem ex_first (R : ex_R n S r) : ∃ c, ex_I n S r c := by
  have h : ∀ p, ∃ q, p < n → q < n ∧ ∀ d, d < n → r p q ≤ r p d := by
    intro p
    by_cases hp : p < n
    · obtain ⟨c, h1, h2⟩ := ex_min (fun q => q < n) (fun q => r p q) (r p p) p hp (Nat.le_refl _)
      exact ⟨c, fun _ => ⟨h1, h2⟩⟩
    · exact ⟨0, fun h => absurd h hp⟩
  obtain ⟨c, hc⟩ := Classical.axiomOfChoice h
  refine ⟨c, fun p hp => ⟨(hc p hp).1, ?_⟩, fun a b ha hb hlt => ?_⟩
  · have := (hc p hp).2 p hp
    rw [R.1 p hp] at this
    exact this
  · have := (hc a ha).2 b hb
    omega
/-- nobody is alone while another one wants it -/
theorem ex_alone (R : ex_R n S r) {c : Nat → Nat} (hI : ex_I n S r c) {p p' : Nat} (hp : p < n) (hp' : p' < n) (hne : p' ≠ p) (e : c p = p) (e' : c p' = p) : False := by
  have step : ∀ k : Nat, ∃ f : Nat → Nat, (∀ i, i ≤ k + 1 → f i < n) ∧ f 0 = p ∧ f 1 ≠ p ∧ (∀ i, i ≤ k → c (f (i + 1)) = f i) ∧ r (f k) (f (k + 1)) < r (f k) (c (f k)) := by
    intro k
    induction k with
    | zero =>
      refine ⟨fun i => if i = 0 then p else p', fun i _ => ?_, rfl, ?_, fun i hi => ?_, ?_⟩
      · show (if i = 0 then p else p') < n
        by_cases h : i = 0
        · rw [if_pos h]; exact hp
        · rw [if_neg h]; exact hp'
      · show (if 1 = 0 then p else p') ≠ p
        rw [if_neg (by decide)]; exact hne
      · have h : i = 0 := by omega
        subst h
        show c (if 0 + 1 = 0 then p else p') = if 0 = 0 then p else p'
        rw [if_neg (by decide), if_pos rfl]; exact e'
      · show r (if 0 = 0 then p else p') (if 0 + 1 = 0 then p else p') < r (if 0 = 0 then p else p') (c (if 0 = 0 then p else p'))
        rw [if_pos rfl, if_neg (by decide), e, R.1 p hp]
        have h1 : r p' p ≤ S := by have := (hI.1 p' hp').2; rw [e'] at this; exact this
        have h2 := R.2.1 p' p hp' hp h1
        have h3 : r p p' ≠ S := fun h => hne (R.2.2 p p' p hp hp' hp h2 (h.trans (R.1 p hp).symm))
        omega
    | succ k ih =>
      obtain ⟨f, h1, h2, h3, h4, h5⟩ := ih
      obtain ⟨z, hz, z1, z2⟩ := hI.2 (f k) (f (k + 1)) (h1 k (by omega)) (h1 (k + 1) (by omega)) h5
      refine ⟨fun i => if i = k + 2 then z else f i, fun i hi => ?_, ?_, ?_, fun i hi => ?_, ?_⟩
      · show (if i = k + 2 then z else f i) < n
        by_cases h : i = k + 2
        · rw [if_pos h]; exact hz
        · rw [if_neg h]; exact h1 i (by omega)
      · show (if 0 = k + 2 then z else f 0) = p
        rw [if_neg (by omega)]; exact h2
      · show (if 1 = k + 2 then z else f 1) ≠ p
        rw [if_neg (by omega)]; exact h3
      · show c (if i + 1 = k + 2 then z else f (i + 1)) = if i = k + 2 then z else f i
        rw [if_neg (show ¬ i = k + 2 by omega)]
        by_cases h : i + 1 = k + 2
        · rw [if_pos h]
          have : i = k + 1 := by omega
          subst this
          exact z1
        · rw [if_neg h]; exact h4 i (by omega)
      · show r (if k + 1 = k + 2 then z else f (k + 1)) (if k + 1 + 1 = k + 2 then z else f (k + 1 + 1)) < r (if k + 1 = k + 2 then z else f (k + 1)) (c (if k + 1 = k + 2 then z else f (k + 1)))
        rw [if_neg (show ¬ k + 1 = k + 2 by omega), if_pos rfl, h4 k (Nat.le_refl k)]
        exact z2
  obtain ⟨f, h1, h2, h3, h4, -⟩ := step n
  have nz : ∀ i, i ≤ n → f (i + 1) ≠ p := by
    intro i
    induction i with
    | zero => intro _; exact h3
    | succ i ih =>
      intro hi h
      have := h4 (i + 1) hi
      rw [h, e] at this
      exact ih (by omega) this.symm
  have inj : ∀ i j, i < j → j ≤ n → f i ≠ f j := by
    intro i
    induction i with
    | zero =>
      intro j hj hn h
      obtain ⟨k, rfl⟩ : ∃ k, j = k + 1 := ⟨j - 1, by omega⟩
      exact nz k (by omega) (h.symm.trans h2)
    | succ i ih =>
      intro j hj hn h
      obtain ⟨k, rfl⟩ : ∃ k, j = k + 1 := ⟨j - 1, by omega⟩
      have a1 := h4 i (by omega)
      have a2 := h4 k (by omega)
      rw [h, a2] at a1
      exact ih k (by omega) (by omega) a1.symm
  obtain ⟨i, j, hij, hj, h⟩ := ex_pigeon n f (fun i hi => h1 i (by omega))
  exact inj i j hij hj h
theorem ex_semi (R : ex_R n S r) : ∃ f g, ex_SS n S r f g := by
  obtain ⟨c0, hc0⟩ := ex_first R
  obtain ⟨c, hI, hmax⟩ := ex_max (ex_I n S r) (fun c => ex_sum (fun p => r p (c p)) n) (n * S) (fun a ha => ex_sum_bound n fun i hi => (ha.1 i hi).2) (n * S) c0 hc0 (Nat.sub_le _ _)
  -- who is refused, asks the next one
  have refused : ∀ p p', p < n → p' < n → c p = c p' → r (c p) p' < r (c p) p → False := by
    intro p p' hp hp' e hlt
    have hne : p' ≠ p := fun h => by rw [h] at hlt; exact Nat.lt_irrefl _ hlt
    by_cases hq : c p = p
    · exact ex_alone R hI hp hp' hne hq (e.symm.trans hq)
    · have hok := (hI.1 p hp).2
      have hqn := (hI.1 p hp).1
      have hs : r p (c p) < S := by
        have : r p (c p) ≠ S := fun h => hq (R.2.2 p (c p) p hp hqn hp hok (h.trans (R.1 p hp).symm))
        omega
      obtain ⟨q2, ⟨g1, g2⟩, g3⟩ := ex_min (fun x => x < n ∧ r p (c p) < r p x) (fun x => r p x) S p ⟨hp, by rw [R.1 p hp]; exact hs⟩ (by rw [R.1 p hp]; exact Nat.le_refl _)
      have g4 : r p q2 ≤ S := by have := g3 p ⟨hp, by rw [R.1 p hp]; exact hs⟩; rw [R.1 p hp] at this; exact this
      have self : (fun x => if x = p then q2 else c x) p = q2 := if_pos rfl
      have other : ∀ x, x ≠ p → (fun x => if x = p then q2 else c x) x = c x := fun x hx => if_neg hx
      generalize (fun x => if x = p then q2 else c x) = c' at self other
      have hI' : ex_I n S r c' := by
        refine ⟨fun a ha => ?_, fun a b ha hb hab => ?_⟩
        · by_cases h : a = p
          · subst h; rw [self]; exact ⟨g1, g4⟩
          · rw [other a h]; exact hI.1 a ha
        · by_cases h : a = p
          · subst h
            rw [self] at hab
            by_cases hb1 : r a b < r a (c a)
            · obtain ⟨a', w1, w2, w3⟩ := hI.2 a b ha hb hb1
              refine ⟨a', w1, ?_, w3⟩
              rw [other a' fun h => by rw [h] at w3; exact Nat.lt_irrefl _ w3]
              exact w2
            · have hb2 : r a (c a) = r a b := by
                apply Classical.byContradiction
                intro h
                have := g3 b ⟨hb, by omega⟩
                omega
              have hb3 := R.2.2 a (c a) b ha hqn hb hok hb2
              subst hb3
              exact ⟨p', hp', (other p' hne).trans e.symm, hlt⟩
          · rw [other a h] at hab
            obtain ⟨a', w1, w2, w3⟩ := hI.2 a b ha hb hab
            by_cases h2 : a' = p
            · subst h2
              subst w2
              exact ⟨p', hp', (other p' hne).trans e.symm, Nat.lt_trans hlt w3⟩
            · exact ⟨a', w1, (other a' h2).trans w2, w3⟩
      have h1 := hmax c' hI'
      have h2 : ex_sum (fun x => r x (c x)) n < ex_sum (fun x => r x (c' x)) n := by
        refine ex_sum_lt n (fun i hi => ?_) p hp ?_
        · by_cases h : i = p
          · subst h; rw [self]; exact Nat.le_of_lt g2
          · rw [other i h]; exact Nat.le_refl _
        · show r p (c p) < r p (c' p)
          rw [self]; exact g2
      exact absurd h1 (Nat.not_le.mpr h2)
  have inj : ∀ i j, i < n → j < n → c i = c j → i = j := by
    intro p p' hp hp' e
    have a1 := hI.1 p hp
    have a2 := hI.1 p' hp'
    have b1 := R.2.1 p (c p) hp a1.1 a1.2
    rcases Nat.lt_trichotomy (r (c p) p) (r (c p) p') with h | h | h
    · exact (refused p' p hp' hp e.symm (by rw [← e]; exact h)).elim
    · exact R.2.2 (c p) p p' a1.1 hp hp' b1 h
    · exact (refused p p' hp hp' e h).elim
  obtain ⟨g, hg⟩ := ex_inv n c (fun i hi => (hI.1 i hi).1) inj
  refine ⟨c, g, hg, fun p hp => (hI.1 p hp).2, fun a b ha hb h1 h2 => ?_⟩
  obtain ⟨a', w1, w2, w3⟩ := hI.2 a b ha hb h1
  have : g b = a' := by rw [← w2]; exact (hg a' w1).2.2.1
  rw [this] at h2
  omega
theorem ex_back (R : ex_R n S r) {f g : Nat → Nat} (h : ex_SS n S r f g) {p : Nat} (hp : p < n) : r p (g p) ≤ S := by
  have h1 := h.1 p hp
  have h2 := h.2.1 (g p) h1.2.1
  rw [h1.2.2.2] at h2
  exact R.2.1 _ _ h1.2.1 hp h2
/-- of a stable permutation and its inverse, everyone's better one: stable too, and no worse than its inverse -/
theorem ex_join (R : ex_R n S r) {f g : Nat → Nat} (h : ex_SS n S r f g) : ∃ t u, ex_SS n S r t u ∧ (∀ p, p < n → r p (t p) ≤ r p (u p)) ∧ ∀ p, p < n → (t p = f p ∨ t p = g p) := by
  have hok := h.2.1
  have hgk : ∀ p, p < n → r p (g p) ≤ S := fun p hp => ex_back R h hp
  have ht : ∀ p, p < n → (r p (f p) ≤ r p (g p) → (fun p => if r p (f p) ≤ r p (g p) then f p else g p) p = f p ∧ (fun p => if r p (f p) ≤ r p (g p) then g p else f p) p = g p) ∧
      (¬ r p (f p) ≤ r p (g p) → (fun p => if r p (f p) ≤ r p (g p) then f p else g p) p = g p ∧ (fun p => if r p (f p) ≤ r p (g p) then g p else f p) p = f p) :=
    fun p _ => ⟨fun h => ⟨if_pos h, if_pos h⟩, fun h => ⟨if_neg h, if_neg h⟩⟩
  generalize (fun p => if r p (f p) ≤ r p (g p) then f p else g p) = t at ht
  generalize (fun p => if r p (f p) ≤ r p (g p) then g p else f p) = u at ht
  have tn : ∀ p, p < n → t p < n := fun p hp => by
    by_cases hc : r p (f p) ≤ r p (g p)
    · rw [((ht p hp).1 hc).1]; exact (h.1 p hp).1
    · rw [((ht p hp).2 hc).1]; exact (h.1 p hp).2.1
  have un : ∀ p, p < n → u p < n := fun p hp => by
    by_cases hc : r p (f p) ≤ r p (g p)
    · rw [((ht p hp).1 hc).2]; exact (h.1 p hp).2.1
    · rw [((ht p hp).2 hc).2]; exact (h.1 p hp).1
  have ut : ∀ p, p < n → u (t p) = p := by
    intro p hp
    obtain ⟨a1, a2, a3, a4⟩ := h.1 p hp
    by_cases hc : r p (f p) ≤ r p (g p)
    · rw [((ht p hp).1 hc).1]
      obtain ⟨b1, b2, b3, b4⟩ := h.1 (f p) a1
      by_cases hq : r (f p) (f (f p)) ≤ r (f p) (g (f p))
      · rw [((ht (f p) a1).1 hq).2]; exact a3
      · exfalso
        rw [a3] at hq
        by_cases hl : r p (f p) < r p (g p)
        · exact h.2.2 (f p) p a1 hp (by omega) hl
        · have e := R.2.2 p (f p) (g p) hp a1 a2 (hok p hp) (by omega)
          have e2 : f (f p) = p := by rw [e]; exact a4
          rw [e2] at hq
          exact hq (Nat.le_refl _)
    · rw [((ht p hp).2 hc).1]
      obtain ⟨b1, b2, b3, b4⟩ := h.1 (g p) a2
      by_cases hq : r (g p) (f (g p)) ≤ r (g p) (g (g p))
      · exfalso
        rw [a4] at hq
        by_cases hl : r (g p) p < r (g p) (g (g p))
        · exact h.2.2 p (g p) hp a2 (by omega) hl
        · have hpk : r (g p) p ≤ S := by have := hok (g p) a2; rw [a4] at this; exact this
          have e := R.2.2 (g p) p (g (g p)) a2 hp b2 hpk (by omega)
          have e2 : f p = g p := by
            have := b4
            rw [← e] at this
            exact this
          rw [e2] at hc
          exact hc (Nat.le_refl _)
      · rw [((ht (g p) a2).2 hq).2]; exact a4
  have tinj : ∀ i j, i < n → j < n → t i = t j → i = j := fun i j hi hj e => by rw [← ut i hi, ← ut j hj, e]
  have tu : ∀ p, p < n → t (u p) = p := by
    intro p hp
    obtain ⟨x, hx, e⟩ := ex_surj n t tn tinj p hp
    rw [← e, ut x hx]
  refine ⟨t, u, ⟨fun p hp => ⟨tn p hp, un p hp, ut p hp, tu p hp⟩, fun p hp => ?_, fun a b ha hb h1 h2 => ?_⟩, fun p hp => ?_, fun p hp => ?_⟩
  · by_cases hc : r p (f p) ≤ r p (g p)
    · rw [((ht p hp).1 hc).1]; exact hok p hp
    · rw [((ht p hp).2 hc).1]; exact hgk p hp
  · have l1 : r a b < r a (f a) ∧ r a b < r a (g a) := by
      by_cases hc : r a (f a) ≤ r a (g a)
      · rw [((ht a ha).1 hc).1] at h1; omega
      · rw [((ht a ha).2 hc).1] at h1; omega
    by_cases hc : r b (f b) ≤ r b (g b)
    · rw [((ht b hb).1 hc).2] at h2; exact h.2.2 a b ha hb l1.1 h2
    · rw [((ht b hb).2 hc).2] at h2; exact h.2.2 b a hb ha h2 l1.2
  · by_cases hc : r p (f p) ≤ r p (g p)
    · rw [((ht p hp).1 hc).1, ((ht p hp).1 hc).2]; exact hc
    · rw [((ht p hp).2 hc).1, ((ht p hp).2 hc).2]; omega
  · by_cases hc : r p (f p) ≤ r p (g p)
    · exact Or.inl ((ht p hp).1 hc).1
    · exact Or.inr ((ht p hp).2 hc).1
end EXA
section EXB
variable {n S : Nat} {r : Nat → Nat → Nat}
def ex_it (f : Nat → Nat) (i : Nat) : Nat → Nat
  | 0 => i
  | k + 1 => f (ex_it f i k)
theorem ex_partition (R : ex_R n S r) : ∃ f g, ex_PT n S r f g := by
  obtain ⟨f0, g0, h0⟩ := ex_semi R
  obtain ⟨t0, u0, hs0, hge0, -⟩ := ex_join R h0
  obtain ⟨⟨f, g⟩, ⟨hs, hge⟩, hmax⟩ := ex_max (fun q : (Nat → Nat) × (Nat → Nat) => ex_SS n S r q.1 q.2 ∧ ∀ p, p < n → r p (q.1 p) ≤ r p (q.2 p)) (fun q => ex_sum (fun p => r p (q.1 p)) n) (n * S)
    (fun a ha => ex_sum_bound n fun i hi => ha.1.2.1 i hi) (n * S) (t0, u0) ⟨hs0, hge0⟩ (Nat.sub_le _ _)
  have hs : ex_SS n S r f g := hs
  have hge : ∀ p, p < n → r p (f p) ≤ r p (g p) := hge
  have hok := hs.2.1
  have hgk : ∀ p, p < n → r p (g p) ≤ S := fun p hp => ex_back R hs hp
  have hst := hs.2.2
  have fn : ∀ p, p < n → f p < n := fun p hp => (hs.1 p hp).1
  have gn : ∀ p, p < n → g p < n := fun p hp => (hs.1 p hp).2.1
  have gf : ∀ p, p < n → g (f p) = p := fun p hp => (hs.1 p hp).2.2.1
  have fg : ∀ p, p < n → f (g p) = p := fun p hp => (hs.1 p hp).2.2.2
  refine ⟨f, g, hs.1, hok, hge, fun i j hi hj hij hji => ?_⟩
  -- the best one that would rather have p than its last one
  have hsx : ∀ p, ∃ q, (p < n ∧ f p ≠ g p) → (q < n ∧ r q p < r q (g q)) ∧ ∀ d, d < n ∧ r d p < r d (g d) → r p q ≤ r p d := by
    intro p
    by_cases hp : p < n ∧ f p ≠ g p
    · have hq : g p < n ∧ r (g p) p < r (g p) (g (g p)) := by
        refine ⟨gn p hp.1, ?_⟩
        have h1 := hge (g p) (gn p hp.1)
        rw [fg p hp.1] at h1
        by_cases e : r (g p) p = r (g p) (g (g p))
        · exfalso
          have hk : r (g p) p ≤ S := by have := hok (g p) (gn p hp.1); rw [fg p hp.1] at this; exact this
          have e2 := R.2.2 (g p) p (g (g p)) (gn p hp.1) hp.1 (gn _ (gn p hp.1)) hk e
          have e3 := fg (g p) (gn p hp.1)
          rw [← e2] at e3
          exact hp.2 e3
        · omega
      obtain ⟨c, c1, c2⟩ := ex_min (fun q => q < n ∧ r q p < r q (g q)) (fun q => r p q) (r p (g p)) (g p) hq (Nat.le_refl _)
      exact ⟨c, fun _ => ⟨c1, c2⟩⟩
    · exact ⟨0, fun h => absurd h hp⟩
  obtain ⟨s, hsp⟩ := Classical.axiomOfChoice hsx
  have sn : ∀ p, p < n → f p ≠ g p → s p < n := fun p hp hj => (hsp p ⟨hp, hj⟩).1.1
  have sq : ∀ p, p < n → f p ≠ g p → r (s p) p < r (s p) (g (s p)) := fun p hp hj => (hsp p ⟨hp, hj⟩).1.2
  have sm : ∀ p, p < n → f p ≠ g p → ∀ d, d < n → r d p < r d (g d) → r p (s p) ≤ r p d := fun p hp hj d hd h => (hsp p ⟨hp, hj⟩).2 d ⟨hd, h⟩
  -- its own last one would
  have lastOk : ∀ p, p < n → f p ≠ g p → r (g p) p < r (g p) (g (g p)) := by
    intro p hp hj
    have h1 := hge (g p) (gn p hp)
    rw [fg p hp] at h1
    by_cases e : r (g p) p = r (g p) (g (g p))
    · exfalso
      have hk : r (g p) p ≤ S := by have := hok (g p) (gn p hp); rw [fg p hp] at this; exact this
      have e2 := R.2.2 (g p) p (g (g p)) (gn p hp) hp (gn _ (gn p hp)) hk e
      have e3 := fg (g p) (gn p hp)
      rw [← e2] at e3
      exact hj e3
    · omega
  have s1 : ∀ p, p < n → f p ≠ g p → r p (s p) ≤ r p (g p) := fun p hp hj => sm p hp hj (g p) (gn p hp) (lastOk p hp hj)
  have sS : ∀ p, p < n → f p ≠ g p → r p (s p) ≤ S := fun p hp hj => Nat.le_trans (s1 p hp hj) (hgk p hp)
  have s2 : ∀ p, p < n → f p ≠ g p → r p (f p) < r p (s p) := by
    intro p hp hj
    have hq := sq p hp hj
    have h1 : ¬ r p (s p) < r p (f p) := fun h => hst p (s p) hp (sn p hp hj) h hq
    have h2 : r p (s p) ≠ r p (f p) := by
      intro e
      have e2 := R.2.2 p (s p) (f p) hp (sn p hp hj) (fn p hp) (sS p hp hj) e
      rw [e2, gf p hp] at hq
      exact Nat.lt_irrefl _ hq
    omega
  have sJ : ∀ p, p < n → f p ≠ g p → f (s p) ≠ g (s p) := by
    intro p hp hj e
    have hq := sq p hp hj
    have hl := s1 p hp hj
    by_cases h : r p (s p) < r p (g p)
    · exact hst (s p) p (sn p hp hj) hp (by rw [e]; exact hq) h
    · have e2 := R.2.2 p (s p) (g p) hp (sn p hp hj) (gn p hp) (sS p hp hj) (by omega)
      rw [← e, e2, fg p hp] at hq
      exact Nat.lt_irrefl _ hq
  have hJ : ∀ p, p < n → f p ≠ g p → f (g (s p)) ≠ g (g (s p)) := by
    intro p hp hj e
    have h1 := sn p hp hj
    rw [fg _ h1] at e
    have e2 : f (s p) = g (s p) := by
      have := fg (g (s p)) (gn _ h1)
      rw [← e] at this
      exact this
    exact sJ p hp hj e2
  have iJ : f i ≠ g i := fun e => hst i j hi hj (by rw [e]; exact hij) hji
  -- the walk: x 0 = i, then the last one of s
  have x0 : ex_it (fun p => g (s p)) i 0 = i := rfl
  have xs : ∀ k, ex_it (fun p => g (s p)) i (k + 1) = g (s (ex_it (fun p => g (s p)) i k)) := fun _ => rfl
  generalize ex_it (fun p => g (s p)) i = x at x0 xs
  have xJ : ∀ k, x k < n ∧ f (x k) ≠ g (x k) := by
    intro k
    induction k with
    | zero => rw [x0]; exact ⟨hi, iJ⟩
    | succ k ih => rw [xs]; exact ⟨gn _ (sn _ ih.1 ih.2), hJ _ ih.1 ih.2⟩
  obtain ⟨a, b, hab, -, hxab⟩ := ex_pigeon n x (fun k _ => (xJ k).1)
  obtain ⟨d, rfl⟩ : ∃ d, b = a + (d + 1) := ⟨b - a - 1, by omega⟩
  have add : ∀ k l m, x k = x l → x (k + m) = x (l + m) := by
    intro k l m e
    induction m with
    | zero => exact e
    | succ m ih => rw [← Nat.add_assoc, ← Nat.add_assoc, xs, xs, ih]
  have per : ∀ k, a ≤ k → x (k + (d + 1)) = x k := by
    intro k hk
    have := add a (a + (d + 1)) (k - a) hxab
    rw [show a + (k - a) = k by omega, show a + (d + 1) + (k - a) = k + (d + 1) by omega] at this
    exact this.symm
  -- who is on the round
  have Rn : ∀ p, (∃ k, a ≤ k ∧ x k = p) → p < n ∧ f p ≠ g p := fun p ⟨k, _, e⟩ => e ▸ xJ k
  have Rf : ∀ p, (∃ k, a ≤ k ∧ x k = p) → ∃ k, a ≤ k ∧ x k = g (s p) := fun p ⟨k, hk, e⟩ => ⟨k + 1, by omega, by rw [xs, e]⟩
  have Rinj : ∀ p q, (∃ k, a ≤ k ∧ x k = p) → (∃ k, a ≤ k ∧ x k = q) → g (s p) = g (s q) → p = q := by
    intro p q ⟨k, hk, e1⟩ ⟨m, hm, e2⟩ e
    have h1 : x (k + 1) = x (m + 1) := by rw [xs, xs, e1, e2]; exact e
    have h2 := add (k + 1) (m + 1) d h1
    rw [show k + 1 + d = k + (d + 1) by omega, show m + 1 + d = m + (d + 1) by omega, per k hk, per m hm, e1, e2] at h2
    exact h2
  have Ra : ∃ k, a ≤ k ∧ x k = x a := ⟨a, Nat.le_refl a, rfl⟩
  generalize hRR : (fun p => ∃ k, a ≤ k ∧ x k = p) = RR
  have cR : ∀ p, (∃ k, a ≤ k ∧ x k = p) = RR p := fun p => by rw [← hRR]
  simp only [cR] at Rn Rf Rinj Ra
  clear hRR cR
  -- the round is turned
  have hρ : ∀ p, ∃ y, (RR p → y = s p) ∧ (¬ RR p → y = f p) := by
    intro p
    by_cases h : RR p
    · exact ⟨s p, fun _ => rfl, fun h2 => absurd h h2⟩
    · exact ⟨f p, fun h2 => absurd h2 h, fun _ => rfl⟩
  obtain ⟨ρ, hρ⟩ := Classical.axiomOfChoice hρ
  have ρn : ∀ p, p < n → ρ p < n := by
    intro p hp
    by_cases h : RR p
    · rw [(hρ p).1 h]; exact sn p hp (Rn p h).2
    · rw [(hρ p).2 h]; exact fn p hp
  have ρinj : ∀ p q, p < n → q < n → ρ p = ρ q → p = q := by
    have mixed : ∀ p q, p < n → q < n → RR p → ¬ RR q → s p = f q → False := by
      intro p q hp hq h1 h2 e
      apply h2
      have := Rf p h1
      rw [e, gf q hq] at this
      exact this
    intro p q hp hq e
    by_cases h1 : RR p <;> by_cases h2 : RR q
    · rw [(hρ p).1 h1, (hρ q).1 h2] at e
      exact Rinj p q h1 h2 (by rw [e])
    · rw [(hρ p).1 h1, (hρ q).2 h2] at e
      exact (mixed p q hp hq h1 h2 e).elim
    · rw [(hρ p).2 h1, (hρ q).1 h2] at e
      exact (mixed q p hq hp h2 h1 e.symm).elim
    · rw [(hρ p).2 h1, (hρ q).2 h2] at e
      rw [← gf p hp, ← gf q hq, e]
  obtain ⟨ρ', hρ'⟩ := ex_inv n ρ ρn ρinj
  have ρS : ∀ p, p < n → r p (ρ p) ≤ S := by
    intro p hp
    by_cases h : RR p
    · rw [(hρ p).1 h]; exact sS p hp (Rn p h).2
    · rw [(hρ p).2 h]; exact hok p hp
  have ρss : ex_SS n S r ρ ρ' := by
    refine ⟨hρ', ρS, fun p q hp hq h1 h2 => ?_⟩
    have hx := hρ' q hq
    have h3 : r q p < r q (g q) := by
      by_cases h : RR (ρ' q)
      · have e := (hρ (ρ' q)).1 h
        rw [hx.2.2.2] at e
        have := sq (ρ' q) hx.2.1 (Rn _ h).2
        rw [← e] at this
        omega
      · have e := (hρ (ρ' q)).2 h
        rw [hx.2.2.2] at e
        have e2 : g q = ρ' q := (congrArg g e).trans (gf _ hx.2.1)
        rw [e2]; exact h2
    by_cases h : RR p
    · rw [(hρ p).1 h] at h1
      have := sm p hp (Rn p h).2 q hq h3
      omega
    · rw [(hρ p).2 h] at h1
      exact hst p q hp hq h1 h3
  obtain ⟨t, u, hts, htge, htor⟩ := ex_join R ρss
  have geρ : ∀ p, p < n → r p (f p) ≤ r p (ρ p) := by
    intro p hp
    by_cases h : RR p
    · rw [(hρ p).1 h]; exact Nat.le_of_lt (s2 p hp (Rn p h).2)
    · rw [(hρ p).2 h]; exact Nat.le_refl _
  have geρ' : ∀ p, p < n → r p (f p) ≤ r p (ρ' p) := by
    intro p hp
    have hx := hρ' p hp
    by_cases h : RR (ρ' p)
    · have e := (hρ (ρ' p)).1 h
      rw [hx.2.2.2] at e
      have hj := (Rn _ h).2
      apply Nat.le_of_not_lt
      intro hlt
      have h1 := s1 (ρ' p) hx.2.1 hj
      have h2 := sS (ρ' p) hx.2.1 hj
      rw [← e] at h1 h2
      by_cases h3 : r (ρ' p) p < r (ρ' p) (g (ρ' p))
      · exact hst p (ρ' p) hp hx.2.1 hlt h3
      · have e2 := R.2.2 (ρ' p) p (g (ρ' p)) hx.2.1 hp (gn _ hx.2.1) h2 (by omega)
        have e3 : f p = ρ' p := by
          have := fg (ρ' p) hx.2.1
          rw [← e2] at this
          exact this
        rw [e3] at hlt
        exact Nat.lt_irrefl _ hlt
    · have e := (hρ (ρ' p)).2 h
      rw [hx.2.2.2] at e
      have e2 : g p = ρ' p := by
        have := gf (ρ' p) hx.2.1
        rw [← e] at this
        exact this
      rw [← e2]; exact hge p hp
  have get : ∀ p, p < n → r p (f p) ≤ r p (t p) := by
    intro p hp
    rcases htor p hp with e | e
    · rw [e]; exact geρ p hp
    · rw [e]; exact geρ' p hp
  have tf : ∀ p, p < n → t p = f p := by
    intro p hp
    have h1 : ex_sum (fun p => r p (t p)) n ≤ ex_sum (fun p => r p (f p)) n := hmax (t, u) ⟨hts, htge⟩
    have h2 : ¬ r p (f p) < r p (t p) := fun hlt => absurd h1 (Nat.not_le.mpr (ex_sum_lt n get p hp hlt))
    have h3 := get p hp
    exact (R.2.2 p (f p) (t p) hp (fn p hp) (hts.1 p hp).1 (hok p hp) (by omega)).symm
  have turn : ∀ p, RR p → RR (f p) ∧ s (f p) = p := by
    intro p h
    obtain ⟨hp, hj⟩ := Rn p h
    have e1 : ρ' p = f p := by
      rcases htor p hp with e | e
      · exfalso
        rw [tf p hp, (hρ p).1 h] at e
        have := s2 p hp hj
        rw [← e] at this
        exact Nat.lt_irrefl _ this
      · rw [← e]; exact tf p hp
    have e2 : ρ (f p) = p := by rw [← e1]; exact (hρ' p hp).2.2.2
    by_cases h2 : RR (f p)
    · exact ⟨h2, ((hρ (f p)).1 h2).symm.trans e2⟩
    · exfalso
      rw [(hρ (f p)).2 h2] at e2
      apply hj
      have := gf (f p) (fn p hp)
      rw [e2] at this
      exact this.symm
  have back : ∀ p, RR p → RR (g p) ∧ s p = g p := by
    intro p h
    obtain ⟨hp, hj⟩ := Rn p h
    obtain ⟨h1, h2⟩ := turn p h
    have h3 := Rf (f p) h1
    rw [h2] at h3
    have h4 := (turn (g p) h3).2
    rw [fg p hp] at h4
    exact ⟨h3, h4⟩
  -- nobody on the round has somebody inside
  have noIn : ∀ p q, RR p → q < n → r p q < r p (g p) → r q p < r q (g q) → False := by
    intro p q h hq h1 h2
    obtain ⟨hp, hj⟩ := Rn p h
    have h3 := sm p hp hj q hq h2
    rw [(back p h).2] at h3
    omega
  have never : ∀ k, ¬ RR (x k) := by
    intro k
    induction k with
    | zero => rw [x0]; exact fun h => noIn i j h hj hij hji
    | succ k ih =>
      intro h
      rw [xs] at h
      obtain ⟨hp, hJk⟩ := xJ k
      have hsn := sn (x k) hp hJk
      have h1 : RR (s (x k)) := by
        have := (turn _ h).1
        rw [fg _ hsn] at this
        exact this
      have hne : s (x k) ≠ g (x k) := by
        intro e
        apply ih
        have := (turn _ h1).1
        rw [e, fg _ hp] at this
        exact this
      have h2 := s1 (x k) hp hJk
      have h3 : r (x k) (s (x k)) ≠ r (x k) (g (x k)) := fun e => hne (R.2.2 _ _ _ hp hsn (gn _ hp) (sS _ hp hJk) e)
      exact noIn (s (x k)) (x k) h1 hp (sq _ hp hJk) (by omega)
  exact never a Ra
end EXB
