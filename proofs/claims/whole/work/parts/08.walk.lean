/-! The reference's walk over the assignments: choices ch (none: not begun), with w, who stands recorded la. -/
def gw_pre (w : Nat → Nat) (p : Nat) : List Nat := (List.range p).map w
theorem gw_pre_len (w : Nat → Nat) (p : Nat) : (gw_pre w p).length = p := by simp [gw_pre]
theorem gw_pre_at {w : Nat → Nat} {p i : Nat} (h : i < p) : (gw_pre w p).getD i 0 = w i := by
  rw [gw_pre, List.getD_eq_getElem?_getD, List.getElem?_map, List.getElem?_range h]
  rfl
theorem gw_pre_succ (w : Nat → Nat) (p : Nat) : gw_pre w (p + 1) = gw_pre w p ++ [w p] := by
  rw [gw_pre, List.range_succ, List.map_append]
  rfl
theorem gw_pre_congr {w w' : Nat → Nat} {p : Nat} (h : ∀ i, i < p → w i = w' i) : gw_pre w p = gw_pre w' p := by
  apply List.map_congr_left
  intro i hi
  exact h i (List.mem_range.mp hi)
def gw_from (c : Option Nat) : Nat := match c with
  | none => 0
  | some c => c + 1
def gw_cho (L : Nat → List Nat) (p c : Nat) : Nat := (L p).getD c p
theorem gw_cho_get {L : Nat → List Nat} {p c : Nat} (h : c ≤ (L p).length) : (L p ++ [p])[c]? = some (gw_cho L p c) := by
  unfold gw_cho
  rw [List.getD_eq_getElem?_getD]
  by_cases e : c < (L p).length
  · rw [List.getElem?_append_left e, List.getElem?_eq_getElem e]
    rfl
  · have : c = (L p).length := by omega
    rw [List.getElem?_append_right (by omega), this, Nat.sub_self, List.getElem?_eq_none (Nat.le_refl _)]
    rfl
/-- what is still to come behind the choices at the persons below -/
def gw_rest (L : Nat → List Nat) (n : Nat) (ch : Nat → Option Nat) (w : Nat → Nat) : Nat → List (List Nat)
  | 0 => []
  | r + 1 => ((L r ++ [r]).drop (gw_from (ch r))).flatMap (fun q => rh_ext L (n - (r + 1)) (gw_pre w r ++ [q])) ++ gw_rest L n ch w r
theorem gw_rest_congr {L : Nat → List Nat} {n : Nat} {ch ch' : Nat → Option Nat} {w w' : Nat → Nat} : ∀ (p : Nat), (∀ i, i < p → ch i = ch' i) → (∀ i, i + 1 < p → w i = w' i) → gw_rest L n ch w p = gw_rest L n ch' w' p
  | 0, _, _ => rfl
  | r + 1, h1, h2 => by
    unfold gw_rest
    rw [h1 r (Nat.lt_succ_self r), gw_pre_congr (w := w) (w' := w') (p := r) (fun i hi => h2 i (by omega)), gw_rest_congr r (fun i hi => h1 i (by omega)) (fun i hi => h2 i (by omega))]
def gw_up {α : Type} (f : Nat → α) (a : Nat) (v : α) : Nat → α := fun x => if x = a then v else f x
theorem gw_up_self {α : Type} (f : Nat → α) (a : Nat) (v : α) : gw_up f a v a = v := if_pos rfl
theorem gw_up_ne {α : Type} (f : Nat → α) {a x : Nat} (v : α) (h : x ≠ a) : gw_up f a v x = f x := if_neg h
section GWA
variable {n : Nat} {L : Nat → List Nat} {T : List Nat → Bool}
theorem gw_skip {w : Nat → Nat} {p : Nat} : ∀ (d c : Nat), c + d ≤ (L p).length + 1 → (∀ i, c ≤ i → i < c + d → (rh_ext L (n - (p + 1)) (gw_pre w p ++ [gw_cho L p i])).filter T = []) →
    (((L p ++ [p]).drop c).flatMap (fun q => rh_ext L (n - (p + 1)) (gw_pre w p ++ [q]))).filter T = (((L p ++ [p]).drop (c + d)).flatMap (fun q => rh_ext L (n - (p + 1)) (gw_pre w p ++ [q]))).filter T
  | 0, c, _, _ => rfl
  | d + 1, c, hc, h => by
    have hl : c < (L p ++ [p]).length := by rw [List.length_append, List.length_singleton]; omega
    have hg : (L p ++ [p])[c]'hl = gw_cho L p c := by
      have := gw_cho_get (L := L) (p := p) (c := c) (by omega)
      rw [List.getElem?_eq_getElem hl] at this
      exact Option.some.inj this
    rw [List.drop_eq_getElem_cons hl, hg, List.flatMap_cons, List.filter_append, h c (Nat.le_refl c) (by omega), List.nil_append, gw_skip d (c + 1) (by omega) (fun i a b => h i (by omega) (by omega)), show c + 1 + d = c + (d + 1) by omega]
/-- a choice is made -/
theorem gw_take {ch : Nat → Option Nat} {w : Nat → Nat} {p c : Nat} (hf : gw_from (ch p) ≤ c) (hc : c ≤ (L p).length) (h : ∀ i, gw_from (ch p) ≤ i → i < c → (rh_ext L (n - (p + 1)) (gw_pre w p ++ [gw_cho L p i])).filter T = []) :
    (gw_rest L n ch w (p + 1)).filter T = (rh_ext L (n - (p + 1)) (gw_pre (gw_up w p (gw_cho L p c)) (p + 1)) ++ gw_rest L n (gw_up ch p (some c)) (gw_up w p (gw_cho L p c)) (p + 1)).filter T := by
  have hl : c < (L p ++ [p]).length := by rw [List.length_append, List.length_singleton]; omega
  have hg : (L p ++ [p])[c]'hl = gw_cho L p c := by
    have := gw_cho_get (L := L) (p := p) (c := c) hc
    rw [List.getElem?_eq_getElem hl] at this
    exact Option.some.inj this
  have hw : gw_pre (gw_up w p (gw_cho L p c)) p = gw_pre w p := gw_pre_congr fun i hi => gw_up_ne _ _ (by omega)
  rw [gw_pre_succ, hw, gw_up_self]
  show (((L p ++ [p]).drop (gw_from (ch p))).flatMap _ ++ gw_rest L n ch w p).filter T = (rh_ext L (n - (p + 1)) (gw_pre w p ++ [gw_cho L p c]) ++ (((L p ++ [p]).drop (gw_from (gw_up ch p (some c) p))).flatMap _ ++ gw_rest L n (gw_up ch p (some c)) (gw_up w p (gw_cho L p c)) p)).filter T
  rw [hw, gw_up_self, gw_rest_congr (ch := gw_up ch p (some c)) (ch' := ch) (w := gw_up w p (gw_cho L p c)) (w' := w) p (fun i hi => gw_up_ne _ _ (by omega)) (fun i hi => gw_up_ne _ _ (by omega))]
  have hs := gw_skip (n := n) (T := T) (w := w) (p := p) (c - gw_from (ch p)) (gw_from (ch p)) (by omega) (fun i a b => h i a (by omega))
  rw [show gw_from (ch p) + (c - gw_from (ch p)) = c by omega] at hs
  rw [List.filter_append, hs, List.drop_eq_getElem_cons hl, hg, List.flatMap_cons]
  simp only [List.filter_append, List.append_assoc]
  rfl
/-- none is left -/
theorem gw_none {ch : Nat → Option Nat} {w : Nat → Nat} {p : Nat} (hf : gw_from (ch p) ≤ (L p).length + 1) (h : ∀ i, gw_from (ch p) ≤ i → i ≤ (L p).length → (rh_ext L (n - (p + 1)) (gw_pre w p ++ [gw_cho L p i])).filter T = []) :
    (gw_rest L n ch w (p + 1)).filter T = (gw_rest L n ch w p).filter T := by
  have hs := gw_skip (n := n) (T := T) (w := w) (p := p) ((L p).length + 1 - gw_from (ch p)) (gw_from (ch p)) (by omega) (fun i a b => h i a (by omega))
  rw [show gw_from (ch p) + ((L p).length + 1 - gw_from (ch p)) = (L p).length + 1 by omega] at hs
  show (((L p ++ [p]).drop (gw_from (ch p))).flatMap _ ++ gw_rest L n ch w p).filter T = _
  rw [List.filter_append, hs, List.drop_eq_nil_of_le (by rw [List.length_append, List.length_singleton]; exact Nat.le_refl _), List.flatMap_nil, List.filter_nil, List.nil_append]
/-- a person is begun -/
theorem gw_begin {ch : Nat → Option Nat} {w : Nat → Nat} {p : Nat} (hp : p < n) (hc : ch p = none) : rh_ext L (n - p) (gw_pre w p) ++ gw_rest L n ch w p = gw_rest L n ch w (p + 1) := by
  show _ = ((L p ++ [p]).drop (gw_from (ch p))).flatMap _ ++ gw_rest L n ch w p
  rw [hc, show n - p = (n - (p + 1)) + 1 by omega, rh_ext, gw_pre_len]
  rfl
end GWA
/-- how far the walk is from its end -/
def gw_wt : Nat → Nat
  | 0 => 1
  | k + 1 => 9 * (gw_wt k + 1) + 1
theorem gw_wt_pos : ∀ k, 1 ≤ gw_wt k
  | 0 => Nat.le_refl _
  | k + 1 => Nat.le_add_left _ _
def gw_mu (n : Nat) (ch : Nat → Option Nat) : Nat → Nat
  | 0 => 0
  | r + 1 => (9 - gw_from (ch r)) * (gw_wt (n - (r + 1)) + 1) + 1 + gw_mu n ch r
def gw_m (n : Nat) (ch : Nat → Option Nat) (p : Nat) : Nat := if p < n then gw_mu n ch (p + 1) else 1 + gw_mu n ch p
theorem gw_mu_congr {n : Nat} {ch ch' : Nat → Option Nat} : ∀ (p : Nat), (∀ i, i < p → ch i = ch' i) → gw_mu n ch p = gw_mu n ch' p
  | 0, _ => rfl
  | r + 1, h => by
    unfold gw_mu
    rw [h r (Nat.lt_succ_self r), gw_mu_congr r fun i hi => h i (by omega)]
theorem gw_m_take {n : Nat} {ch : Nat → Option Nat} {p c : Nat} (hp : p < n) (hf : gw_from (ch p) ≤ c) (hc : c ≤ 8) (hn : p + 1 < n → ch (p + 1) = none) : gw_m n (gw_up ch p (some c)) (p + 1) < gw_m n ch p := by
  have e0 : gw_mu n (gw_up ch p (some c)) p = gw_mu n ch p := gw_mu_congr p fun i hi => gw_up_ne _ _ (by omega)
  have e1 : gw_mu n (gw_up ch p (some c)) (p + 1) = (9 - (c + 1)) * (gw_wt (n - (p + 1)) + 1) + 1 + gw_mu n ch p := by
    show (9 - gw_from (gw_up ch p (some c) p)) * _ + 1 + gw_mu n (gw_up ch p (some c)) p = _
    rw [gw_up_self, e0]
    rfl
  have e2 : gw_mu n ch (p + 1) = (9 - gw_from (ch p)) * (gw_wt (n - (p + 1)) + 1) + 1 + gw_mu n ch p := rfl
  have e3 : (9 - (c + 1)) * (gw_wt (n - (p + 1)) + 1) + (gw_wt (n - (p + 1)) + 1) ≤ (9 - gw_from (ch p)) * (gw_wt (n - (p + 1)) + 1) := by
    rw [← Nat.succ_mul]
    exact Nat.mul_le_mul_right _ (by omega)
  unfold gw_m
  rw [if_pos hp]
  by_cases hq : p + 1 < n
  · rw [if_pos hq]
    show (9 - gw_from (gw_up ch p (some c) (p + 1))) * (gw_wt (n - (p + 1 + 1)) + 1) + 1 + gw_mu n (gw_up ch p (some c)) (p + 1) < _
    rw [gw_up_ne _ _ (by omega), hn hq, e1, e2]
    have e4 : gw_wt (n - (p + 1)) = 9 * (gw_wt (n - (p + 1 + 1)) + 1) + 1 := by
      rw [show n - (p + 1) = (n - (p + 1 + 1)) + 1 by omega]
      rfl
    show (9 - 0) * (gw_wt (n - (p + 1 + 1)) + 1) + 1 + _ < _
    omega
  · have e5 := gw_wt_pos (n - (p + 1))
    rw [if_neg hq, e1, e2]
    omega
theorem gw_m_none {n : Nat} {ch : Nat → Option Nat} {p : Nat} {v : Option Nat} (hp : p + 1 < n) : gw_m n (gw_up ch (p + 1) v) p < gw_m n ch (p + 1) := by
  unfold gw_m
  rw [if_pos hp, if_pos (show p < n by omega), gw_mu_congr (ch := gw_up ch (p + 1) v) (ch' := ch) (p + 1) fun i hi => gw_up_ne _ _ (by omega)]
  show gw_mu n ch (p + 1) < (9 - gw_from (ch (p + 1))) * _ + 1 + gw_mu n ch (p + 1)
  omega
theorem gw_m_leaf {n : Nat} {ch : Nat → Option Nat} {p : Nat} (hp : p + 1 = n) : gw_m n ch p < gw_m n ch (p + 1) := by
  unfold gw_m
  rw [if_pos (show p < n by omega), if_neg (show ¬ p + 1 < n by omega)]
  omega
/-- nobody who stands recorded would rather have p, who would rather have it than o -/
def gw_stay (n : Nat) (rk : Nat → Nat → Nat) (la : Nat → Option Nat) (p o : Nat) : Prop := ∀ x y, x < n → la x = some y → x ≠ p → rk p x < 8 → rk p x < rk p o → rk x p < rk x y → False
def gs_ok (n : Nat) (rk : Nat → Nat → Nat) (w : Nat → Nat) (la : Nat → Option Nat) (p q : Nat) : Prop :=
  rk p q ≤ 8 ∧ (∀ r, r < p → (w r = p ↔ q = r) ∧ (w r ≠ q ∨ r = q)) ∧ gw_stay n rk la q p ∧ gw_stay n rk la p q
def gp_ok (n : Nat) (rk : Nat → Nat → Nat) (w : Nat → Nat) (la : Nat → Option Nat) (p q : Nat) : Prop :=
  rk p q ≤ 8 ∧ (∀ r, r < p → w r ≠ q ∧ (w r ≠ p ∨ rk p q ≤ rk p r)) ∧ (p ≤ q ∨ rk q (w q) ≤ rk q p) ∧ gw_stay n rk la q p
def gs_Good (n : Nat) (rk : Nat → Nat → Nat) (w : Nat → Nat) (p : Nat) : Prop := ∀ r, r < p → w r < n ∧ rk r (w r) ≤ 8 ∧ ∀ s, s < r → (w s = r ↔ w r = s) ∧ (w s ≠ w r ∨ s = w r)
def gp_Good (n : Nat) (rk : Nat → Nat → Nat) (w : Nat → Nat) (p : Nat) : Prop := ∀ r, r < p → w r < n ∧ rk r (w r) ≤ 8 ∧ (∀ s, s < r → w s ≠ w r ∧ (w s ≠ r ∨ rk r (w r) ≤ rk r s)) ∧ (r ≤ w r ∨ rk (w r) (w (w r)) ≤ rk (w r) r)
def gs_LA (w : Nat → Nat) (p : Nat) (la : Nat → Option Nat) : Prop := ∀ x y, la x = some y ↔ ∃ r, r < p ∧ ((x = r ∧ y = w r) ∨ (x = w r ∧ y = r))
def gp_LA (w : Nat → Nat) (p : Nat) (la : Nat → Option Nat) : Prop := ∀ x y, la x = some y ↔ y < p ∧ w y = x
section GWB
variable {n : Nat} {L : Nat → List Nat} {w : Nat → Nat} {la : Nat → Option Nat} {p q : Nat}
/-- what doesn't go begins nothing stable -/
theorem gs_sound (hp : p < n) (hq : q < n) (hG : gs_Good n (rh_rk L) w p) (hA : gs_LA w p la) (h : ¬ gs_ok n (rh_rk L) w la p q) (k : Nat) : (rh_ext L k (gw_pre w p ++ [q])).filter (rh_sm n L) = [] := by
  rw [List.filter_eq_nil_iff]
  intro m hm hs
  rw [rh_sm_iff] at hs
  obtain ⟨e1, e2⟩ := rh_ext_at hm
  rw [gw_pre_len] at e1 e2
  have em : ∀ r, r < p → m.getD r 0 = w r := fun r hr => by rw [e2 r hr, gw_pre_at hr]
  have inv : ∀ a, a < n → m.getD (m.getD a 0) 0 = a := fun a ha => (hs.1 a ha).2.2
  have agree : ∀ x y, la x = some y → m.getD x 0 = y := by
    intro x y hxy
    obtain ⟨r, hr, ⟨x1, x2⟩ | ⟨x1, x2⟩⟩ := (hA x y).mp hxy
    · rw [x1, x2]; exact em r hr
    · have := inv r (by omega)
      rw [em r hr] at this
      rw [x1, x2]; exact this
  have mq : m.getD q 0 = p := by have := inv p hp; rw [e1] at this; exact this
  apply h
  refine ⟨?_, fun r hr => ⟨⟨fun z => ?_, fun z => ?_⟩, Or.inl fun z => ?_⟩, fun x y hx g1 g2 g3 g4 g5 => ?_, fun x y hx g1 g2 g3 g4 g5 => ?_⟩
  · have := (hs.1 p hp).1
    rw [e1] at this
    exact this
  · have := inv r (by omega)
    rw [em r hr, z, e1] at this
    exact this
  · rw [← em r hr, ← z]; exact mq
  · have := inv r (by omega)
    rw [em r hr, z, mq] at this
    omega
  · exact hs.2 q x hq hx (by rw [mq]; exact g4) (by rw [agree x y g1]; exact g5)
  · exact hs.2 p x hp hx (by rw [e1]; exact g4) (by rw [agree x y g1]; exact g5)
theorem gp_sound (hp : p < n) (hq : q < n) (hA : gp_LA w p la) (h : ¬ gp_ok n (rh_rk L) w la p q) (k : Nat) : (rh_ext L k (gw_pre w p ++ [q])).filter (rh_pt n L) = [] := by
  rw [List.filter_eq_nil_iff]
  intro m hm hs
  rw [rh_pt_iff] at hs
  obtain ⟨e1, e2⟩ := rh_ext_at hm
  rw [gw_pre_len] at e1 e2
  have em : ∀ r, r < p → m.getD r 0 = w r := fun r hr => by rw [e2 r hr, gw_pre_at hr]
  apply h
  refine ⟨?_, fun r hr => ⟨fun z => ?_, ?_⟩, ?_, fun x y hx g1 g2 g3 g4 g5 => ?_⟩
  · have := (hs.1 p hp).1
    rw [e1] at this
    exact this
  · have := hs.2.1 r p (by omega) hp (by rw [em r hr, e1]; exact z)
    omega
  · by_cases z : w r = p
    · right
      have := hs.2.2.1 p r hp (by omega) (by rw [em r hr]; exact z)
      rw [e1] at this
      exact Nat.le_of_not_lt this
    · exact Or.inl z
  · by_cases z : p ≤ q
    · exact Or.inl z
    · right
      have := hs.2.2.1 q p hq hp e1
      rw [em q (by omega)] at this
      exact Nat.le_of_not_lt this
  · obtain ⟨y1, y2⟩ := (hA x y).mp g1
    have ey : m.getD y 0 = x := by rw [em y y1]; exact y2
    exact hs.2.2.2 p y hp (by omega) (by rw [e1, ey]; exact g4) (by rw [e1, ey]; exact g5)
theorem gs_next (hq : q < n) (hG : gs_Good n (rh_rk L) w p) (h : gs_ok n (rh_rk L) w la p q) : gs_Good n (rh_rk L) (gw_up w p q) (p + 1) := by
  intro r hr
  by_cases e : r = p
  · subst e
    rw [gw_up_self]
    refine ⟨hq, h.1, fun s hs => ?_⟩
    rw [gw_up_ne _ _ (by omega)]
    exact ⟨(h.2.1 s hs).1, (h.2.1 s hs).2⟩
  · obtain ⟨a1, a2, a3⟩ := hG r (by omega)
    rw [gw_up_ne _ _ e]
    refine ⟨a1, a2, fun s hs => ?_⟩
    rw [gw_up_ne _ _ (show s ≠ p by omega)]
    exact a3 s hs
theorem gp_next (hq : q < n) (hG : gp_Good n (rh_rk L) w p) (h : gp_ok n (rh_rk L) w la p q) : gp_Good n (rh_rk L) (gw_up w p q) (p + 1) := by
  intro r hr
  by_cases e : r = p
  · subst e
    rw [gw_up_self]
    refine ⟨hq, h.1, fun s hs => ?_, ?_⟩
    · rw [gw_up_ne _ _ (by omega)]
      exact h.2.1 s hs
    · by_cases z : q = r
      · exact Or.inl (by omega)
      · rw [gw_up_ne _ _ z]
        exact h.2.2.1
  · obtain ⟨a1, a2, a3, a4⟩ := hG r (by omega)
    rw [gw_up_ne _ _ e]
    refine ⟨a1, a2, fun s hs => ?_, ?_⟩
    · rw [gw_up_ne _ _ (show s ≠ p by omega)]
      exact a3 s hs
    · rcases a4 with a4 | a4
      · exact Or.inl a4
      · by_cases z : w r = p
        · exact Or.inl (by omega)
        · rw [gw_up_ne _ _ z]
          exact Or.inr a4
/-- the last person stands: the record is looked at -/
theorem gs_leaf (hw : rh_wf n L) (hG : gs_Good n (rh_rk L) w n) : rh_SM n L (gw_pre w n) ↔ ∀ a b, a < b → b < n → rh_rk L a b < 8 → rh_rk L a b < rh_rk L a (w a) → rh_rk L b a < rh_rk L b (w b) → False := by
  have at' : ∀ a, a < n → (gw_pre w n).getD a 0 = w a := fun a ha => gw_pre_at ha
  constructor
  · intro hs a b hab hb _ h1 h2
    exact hs.2 a b (by omega) hb (by rw [at' a (by omega)]; exact h1) (by rw [at' b hb]; exact h2)
  · intro h
    refine ⟨fun a ha => ?_, fun a b ha hb h1 h2 => ?_⟩
    · obtain ⟨a1, a2, a3⟩ := hG a ha
      rw [at' a ha]
      refine ⟨a2, a1, ?_⟩
      rw [at' (w a) a1]
      rcases Nat.lt_trichotomy (w a) a with z | z | z
      · exact ((a3 (w a) z).1).mpr rfl
      · rw [z]; exact z
      · exact ((hG (w a) a1).2.2 a z).1.mp rfl
    · rw [at' a ha] at h1
      rw [at' b hb] at h2
      have k1 := (hG a ha).2.1
      have k2 := (hG b hb).2.1
      rcases Nat.lt_trichotomy a b with z | z | z
      · exact h a b z hb (by omega) h1 h2
      · subst z
        rw [rh_rk_self] at h1
        omega
      · exact h b a z ha (by omega) h2 h1
theorem gp_leaf (hw : rh_wf n L) (hG : gp_Good n (rh_rk L) w n) (hA : gp_LA w n la) :
    rh_PT n L (gw_pre w n) ↔ ∀ a b i j, a < b → b < n → la a = some i → la b = some j → rh_rk L a b < 8 → rh_rk L a b < rh_rk L a i → rh_rk L b a < rh_rk L b j → False := by
  have at' : ∀ a, a < n → (gw_pre w n).getD a 0 = w a := fun a ha => gw_pre_at ha
  constructor
  · intro hs a b i j hab hb h1 h2 _ h3 h4
    obtain ⟨i1, i2⟩ := (hA a i).mp h1
    obtain ⟨j1, j2⟩ := (hA b j).mp h2
    exact hs.2.2.2 i j i1 j1 (by rw [at' i i1, at' j j1, i2, j2]; exact h3) (by rw [at' i i1, at' j j1, i2, j2]; exact h4)
  · intro h
    refine ⟨fun a ha => ?_, fun a b ha hb e => ?_, fun a b ha hb e hlt => ?_, fun i j hi hj h1 h2 => ?_⟩
    · rw [at' a ha]; exact ⟨(hG a ha).2.1, (hG a ha).1⟩
    · rw [at' a ha, at' b hb] at e
      rcases Nat.lt_trichotomy a b with z | z | z
      · exact absurd e ((hG b hb).2.2.1 a z).1
      · exact z
      · exact absurd e.symm ((hG a ha).2.2.1 b z).1
    · rw [at' b hb] at e
      rw [at' a ha] at hlt
      rcases Nat.lt_trichotomy b a with z | z | z
      · rcases ((hG a ha).2.2.1 b z).2 with y | y
        · exact y e
        · omega
      · subst z
        rw [e] at hlt
        exact Nat.lt_irrefl _ hlt
      · rcases (hG b hb).2.2.2 with y | y
        · omega
        · rw [e] at y
          omega
    · rw [at' i hi, at' j hj] at h1 h2
      have wi := (hG i hi).1
      have wj := (hG j hj).1
      have ki : rh_rk L (w i) i ≤ 8 := (rh_R hw).2.1 _ _ hi wi (hG i hi).2.1
      have kj : rh_rk L (w j) j ≤ 8 := (rh_R hw).2.1 _ _ hj wj (hG j hj).2.1
      have li := (hA (w i) i).mpr ⟨hi, rfl⟩
      have lj := (hA (w j) j).mpr ⟨hj, rfl⟩
      rcases Nat.lt_trichotomy (w i) (w j) with z | z | z
      · exact h _ _ i j z wj li lj (by omega) h1 h2
      · rw [← z, rh_rk_self] at h1
        omega
      · exact h _ _ j i z wi lj li (by omega) h2 h1
/-- everybody has a last one then -/
theorem gp_full (hG : gp_Good n (rh_rk L) w n) (hA : gp_LA w n la) {x : Nat} (hx : x < n) : ∃ y, y < n ∧ la x = some y := by
  obtain ⟨i, hi, e⟩ := ex_surj n w (fun i hi => (hG i hi).1) (fun i j hi hj e => by
    rcases Nat.lt_trichotomy i j with z | z | z
    · exact absurd e ((hG j hj).2.2.1 i z).1
    · exact z
    · exact absurd e.symm ((hG i hi).2.2.1 j z).1) x hx
  exact ⟨i, hi, (hA x i).mpr ⟨hi, e⟩⟩
/-- the records as they are written and taken back -/
theorem gs_LA_put (hA : gs_LA w p la) (hq : gs_Good n (rh_rk L) (gw_up w p q) (p + 1)) : gs_LA (gw_up w p q) (p + 1) (gw_up (gw_up la q (some p)) p (some q)) := by
  have hp := hq p (Nat.lt_succ_self p)
  rw [gw_up_self] at hp
  have hs : ∀ s, s < p → (w s = p ↔ q = s) ∧ (w s ≠ q ∨ s = q) := fun s hs => by
    have := hp.2.2 s hs
    rw [gw_up_ne _ _ (by omega)] at this
    exact this
  intro x y
  by_cases e1 : x = p
  · subst e1
    rw [gw_up_self]
    constructor
    · intro h
      exact ⟨x, Nat.lt_succ_self x, Or.inl ⟨rfl, by rw [gw_up_self]; exact (Option.some.inj h).symm⟩⟩
    · rintro ⟨r, hr, ⟨r1, r2⟩ | ⟨r1, r2⟩⟩
      · subst r1; rw [gw_up_self] at r2; rw [r2]
      · by_cases er : r = x
        · subst er; rw [gw_up_self] at r1; rw [r2, r1]
        · rw [gw_up_ne _ _ er] at r1
          rw [r2, (hs r (by omega)).1.mp r1.symm]
  · rw [gw_up_ne _ _ e1]
    by_cases e2 : x = q
    · subst e2
      rw [gw_up_self]
      constructor
      · intro h
        exact ⟨p, Nat.lt_succ_self p, Or.inr ⟨by rw [gw_up_self], (Option.some.inj h).symm⟩⟩
      · rintro ⟨r, hr, ⟨r1, r2⟩ | ⟨r1, r2⟩⟩
        · subst r1
          rw [gw_up_ne _ _ e1] at r2
          rw [r2, (hs x (by omega)).1.mpr rfl]
        · by_cases er : r = p
          · rw [r2, er]
          · rw [gw_up_ne _ _ er] at r1
            rcases (hs r (by omega)).2 with z | z
            · exact absurd r1.symm z
            · have := (hs r (by omega)).1.mpr z.symm
              rw [this] at r1
              exact absurd r1 e1
    · rw [gw_up_ne _ _ e2, hA x y]
      constructor
      · rintro ⟨r, hr, h⟩
        refine ⟨r, by omega, ?_⟩
        rw [gw_up_ne _ _ (by omega)]
        exact h
      · rintro ⟨r, hr, h⟩
        have er : r ≠ p := fun z => by
          subst z
          rw [gw_up_self] at h
          rcases h with ⟨h, -⟩ | ⟨h, -⟩
          · exact e1 h
          · exact e2 h
        rw [gw_up_ne _ _ er] at h
        exact ⟨r, by omega, h⟩
theorem gs_LA_back (hA : gs_LA w (p + 1) la) (hG : gs_Good n (rh_rk L) w (p + 1)) (hle : p ≤ w p) : gs_LA w p (gw_up (gw_up la (w p) none) p none) := by
  have hs := (hG p (Nat.lt_succ_self p)).2.2
  intro x y
  have no : ∀ r, r < p → w r ≠ p ∧ w r ≠ w p := fun r hr => by
    have h1 := hs r hr
    refine ⟨fun z => ?_, ?_⟩
    · have := h1.1.mp z
      omega
    · rcases h1.2 with z | z
      · exact z
      · omega
  by_cases e1 : x = p
  · subst e1
    rw [gw_up_self]
    constructor
    · intro h; cases h
    · rintro ⟨r, hr, ⟨r1, r2⟩ | ⟨r1, r2⟩⟩
      · omega
      · exact absurd r1.symm (no r hr).1
  · rw [gw_up_ne _ _ e1]
    by_cases e2 : x = w p
    · rw [e2, gw_up_self]
      constructor
      · intro h; cases h
      · rintro ⟨r, hr, ⟨r1, r2⟩ | ⟨r1, r2⟩⟩
        · omega
        · exact absurd r1.symm (no r hr).2
    · rw [gw_up_ne _ _ e2, hA x y]
      constructor
      · rintro ⟨r, hr, h⟩
        have er : r ≠ p := fun z => by
          subst z
          rcases h with ⟨h, -⟩ | ⟨h, -⟩
          · exact e1 h
          · exact e2 h
        exact ⟨r, by omega, h⟩
      · rintro ⟨r, hr, h⟩
        exact ⟨r, by omega, h⟩
theorem gs_LA_stay (hA : gs_LA w (p + 1) la) (hG : gs_Good n (rh_rk L) w (p + 1)) (hlt : w p < p) : gs_LA w p la := by
  have hs := ((hG p (Nat.lt_succ_self p)).2.2 (w p) hlt).1.mpr rfl
  intro x y
  rw [hA x y]
  constructor
  · rintro ⟨r, hr, h⟩
    by_cases er : r = p
    · subst er
      refine ⟨w r, hlt, ?_⟩
      rcases h with ⟨h1, h2⟩ | ⟨h1, h2⟩
      · exact Or.inr ⟨by rw [hs]; exact h1, h2⟩
      · exact Or.inl ⟨h1, by rw [hs]; exact h2⟩
    · exact ⟨r, by omega, h⟩
  · rintro ⟨r, hr, h⟩
    exact ⟨r, by omega, h⟩
theorem gp_LA_put (hA : gp_LA w p la) (hno : ∀ r, r < p → w r ≠ q) : gp_LA (gw_up w p q) (p + 1) (gw_up la q (some p)) := by
  intro x y
  by_cases e : x = q
  · subst e
    rw [gw_up_self]
    constructor
    · intro h
      have := Option.some.inj h
      subst this
      exact ⟨Nat.lt_succ_self _, gw_up_self _ _ _⟩
    · rintro ⟨h1, h2⟩
      by_cases ey : y = p
      · rw [ey]
      · rw [gw_up_ne _ _ ey] at h2
        exact absurd h2 (hno y (by omega))
  · rw [gw_up_ne _ _ e, hA x y]
    constructor
    · rintro ⟨h1, h2⟩
      exact ⟨by omega, by rw [gw_up_ne _ _ (by omega)]; exact h2⟩
    · rintro ⟨h1, h2⟩
      by_cases ey : y = p
      · subst ey
        rw [gw_up_self] at h2
        exact absurd h2.symm e
      · rw [gw_up_ne _ _ ey] at h2
        exact ⟨by omega, h2⟩
theorem gp_LA_back (hA : gp_LA w (p + 1) la) (hno : ∀ r, r < p → w r ≠ w p) : gp_LA w p (gw_up la (w p) none) := by
  intro x y
  by_cases e : x = w p
  · rw [e, gw_up_self]
    constructor
    · intro h; cases h
    · rintro ⟨h1, h2⟩
      exact absurd h2 (hno y h1)
  · rw [gw_up_ne _ _ e, hA x y]
    constructor
    · rintro ⟨h1, h2⟩
      refine ⟨?_, h2⟩
      have : y ≠ p := fun z => e (by rw [← h2, z])
      omega
    · rintro ⟨h1, h2⟩
      exact ⟨by omega, h2⟩
end GWB
