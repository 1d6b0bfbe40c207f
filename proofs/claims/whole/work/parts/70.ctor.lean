/-! constructors -/
def nn_ (r : Nat → Nat → Option Nat) (n : Nat) : Prop := ∀ x j, n ≤ x → r x j = none
section CT0
variable {n c i j : Nat} {s : Nat → Nat × Nat} {r : Nat → Nat → Option Nat}
theorem nn_up {v : Option Nat} (h : nn_ r n) (hi : i < n) : nn_ (pm_upR r i j v) n := fun x y hx => by rw [pm_upR_ne (by omega)]; exact h x y hx
theorem nn_new (h : nn_ r n) : nn_ r (n + 1) := fun x y hx => h x y (by omega)
theorem nn_rows (h : nn_ r n) : nn_ (pm_rows (n, s, r)).2.2 (n + 9) := fun x y hx => (if_neg (fun z => by have : x = n := z.1; omega)).trans (h x y (by omega))
theorem wf_upR (h : pm_wf (n, s, r)) (hc : c < n) : pm_wf (n, s, pm_upR r i j (some c)) := fun x y z hx hz => by
  by_cases e : x = i ∧ y = j
  · have hz : pm_upR r i j (some c) x y = some z := hz
    obtain ⟨rfl, rfl⟩ := e
    rw [pm_upR_at] at hz
    rw [← Option.some.inj hz]
    exact hc
  · have hz : pm_upR r i j (some c) x y = some z := hz
    rw [pm_upR_ne e] at hz
    exact h x y z hx hz
theorem wf_new (h : pm_wf (n, s, r)) (hn : nn_ r n) : pm_wf (n + 1, s, r) := fun x y z hx hz => by
  have hx : x < n + 1 := hx
  have hz : r x y = some z := hz
  rcases Nat.lt_or_ge x n with h1 | h1
  · exact Nat.lt_succ_of_lt (h x y z h1 hz)
  · rw [hn x y h1] at hz
    cases hz
theorem wf_rows (h : pm_wf (n, s, r)) (hn : nn_ r n) : pm_wf (pm_rows (n, s, r)) := fun x y z hx hz => by
  have hz : (if x = n ∧ y < 8 then some (n + 1 + y) else r x y) = some z := hz
  show z < n + 9
  by_cases e : x = n ∧ y < 8
  · rw [if_pos e] at hz
    have := Option.some.inj hz
    omega
  · rw [if_neg e] at hz
    rcases Nat.lt_or_ge x n with h1 | h1
    · have : z < n := h x y z h1 hz
      omega
    · rw [hn x y h1] at hz
      cases hz
def pt_ (A n : Nat) (r r' : Nat → Nat → Option Nat) (ow : Nat → Option Nat) : Prop := (∀ i j, i < A → r' i j = r i j) ∧ (∀ i j, A < i → i < n → r' i j = pm_sr i j) ∧ ∀ j, r' A j = ow j
variable {A : Nat} {r' : Nat → Nat → Option Nat} {ow : Nat → Option Nat}
theorem pt_new (h : pt_ A n r r' ow) (hn : nn_ r' n) (hs : ∀ j, pm_sr n j = none) : pt_ A (n + 1) r r' ow := ⟨h.1, fun i j h1 h2 => by
  rcases Nat.lt_or_ge i n with h3 | h3
  · exact h.2.1 i j h1 h3
  · have e : i = n := by omega
    rw [hn i j h3, e, hs j], h.2.2⟩
theorem pt_rows (h : pt_ A n r r' ow) (hA : A < n) (hn : nn_ r' n) (hs : ∀ j, pm_sr n j = if j < 8 then some (n + 1 + j) else none) (hs2 : ∀ k j, k < 8 → pm_sr (n + 1 + k) j = none) : pt_ A (n + 9) r (pm_rows (n, s, r')).2.2 ow := by
  have at' : ∀ i j, (pm_rows (n, s, r')).2.2 i j = if i = n ∧ j < 8 then some (n + 1 + j) else r' i j := fun _ _ => rfl
  refine ⟨fun i j h1 => ?_, fun i j h1 h2 => ?_, fun j => ?_⟩
  · rw [at', if_neg (by omega)]; exact h.1 i j h1
  · rw [at']
    by_cases e : i = n
    · subst e
      rw [hs j]
      by_cases hj : j < 8
      · rw [if_pos ⟨rfl, hj⟩, if_pos hj]
      · rw [if_neg (fun z => hj z.2), if_neg hj]; exact hn _ j (Nat.le_refl _)
    · rw [if_neg (fun z => e z.1)]
      rcases Nat.lt_or_ge i n with h3 | h3
      · exact h.2.1 i j h1 h3
      · rw [hn i j h3, show i = n + 1 + (i - (n + 1)) by omega, hs2 _ j (by omega)]
  · rw [at', if_neg (by omega)]; exact h.2.2 j
theorem pt_up {fi : Nat} {v : Option Nat} (h : pt_ A n r r' ow) : pt_ A n r (pm_upR r' A fi v) (fun j => if j = fi then v else ow j) :=
  ⟨fun i j h1 => by rw [pm_upR_ne (by omega)]; exact h.1 i j h1, fun i j h1 h2 => by rw [pm_upR_ne (by omega)]; exact h.2.1 i j h1 h2, fun j => by
    show pm_upR r' A fi v A j = if j = fi then v else ow j
    by_cases e : j = fi
    · rw [if_pos e, e, pm_upR_at]
    · rw [if_neg e, pm_upR_ne (fun z => e z.2)]; exact h.2.2 j⟩
end CT0
theorem sr_o0 (j : Nat) : pm_sr 0 j = if j = 0 then some 1 else if j = 1 then some 30 else if j = 2 then some 32 else if j = 3 then some 44 else none := by
  match j with
  | 0 => rfl
  | 1 => rfl
  | 2 => rfl
  | 3 => rfl
  | j + 4 =>
    (rw [if_neg (by omega), if_neg (by omega), if_neg (by omega), if_neg (by omega)]; rfl)
theorem sr_o1 (j : Nat) : pm_sr 1 j = if j = 0 then some 2 else if j = 1 then some 3 else if j = 2 then some 12 else if j = 3 then some 21 else none := by
  match j with
  | 0 => rfl
  | 1 => rfl
  | 2 => rfl
  | 3 => rfl
  | j + 4 =>
    (rw [if_neg (by omega), if_neg (by omega), if_neg (by omega), if_neg (by omega)]; rfl)
theorem sr_o30 (j : Nat) : pm_sr 30 j = if j = 0 then some 1 else if j = 1 then some 31 else none := by
  match j with
  | 0 => rfl
  | 1 => rfl
  | j + 2 =>
    (rw [if_neg (by omega), if_neg (by omega)]; rfl)
theorem sr_o32 (j : Nat) : pm_sr 32 j = if j = 0 then some 1 else if j = 1 then some 33 else if j = 2 then some 34 else if j = 3 then some 35 else none := by
  match j with
  | 0 => rfl
  | 1 => rfl
  | 2 => rfl
  | 3 => rfl
  | j + 4 =>
    (rw [if_neg (by omega), if_neg (by omega), if_neg (by omega), if_neg (by omega)]; rfl)
theorem sr_o44 (j : Nat) : pm_sr 44 j = if j = 0 then some 1 else if j = 1 then some 45 else if j = 2 then some 46 else if j = 3 then some 47 else none := by
  match j with
  | 0 => rfl
  | 1 => rfl
  | 2 => rfl
  | 3 => rfl
  | j + 4 =>
    (rw [if_neg (by omega), if_neg (by omega), if_neg (by omega), if_neg (by omega)]; rfl)
theorem sr_o48 (j : Nat) : pm_sr 48 j = if j = 2 then some 49 else if j = 3 then some 50 else if j = 4 then some 51 else if j = 7 then some 52 else if j = 8 then some 53 else if j = 9 then some 54 else if j = 10 then some 55 else if j = 13 then some 56 else if j = 14 then some 57 else if j = 15 then some 58 else if j = 16 then some 59 else none := by
  match j with
  | 0 => rfl
  | 1 => rfl
  | 2 => rfl
  | 3 => rfl
  | 4 => rfl
  | 5 => rfl
  | 6 => rfl
  | 7 => rfl
  | 8 => rfl
  | 9 => rfl
  | 10 => rfl
  | 11 => rfl
  | 12 => rfl
  | 13 => rfl
  | 14 => rfl
  | 15 => rfl
  | 16 => rfl
  | j + 17 =>
    (rw [if_neg (by omega), if_neg (by omega), if_neg (by omega), if_neg (by omega), if_neg (by omega), if_neg (by omega), if_neg (by omega), if_neg (by omega), if_neg (by omega), if_neg (by omega), if_neg (by omega)]; rfl)
theorem sr_a3 (j : Nat) : pm_sr 3 j = if j < 8 then some (4 + j) else none := rfl
theorem sr_a12 (j : Nat) : pm_sr 12 j = if j < 8 then some (13 + j) else none := rfl
theorem sr_a21 (j : Nat) : pm_sr 21 j = if j < 8 then some (22 + j) else none := rfl
theorem sr_a35 (j : Nat) : pm_sr 35 j = if j < 8 then some (36 + j) else none := rfl
theorem sr_no {i : Nat} (j : Nat) (h : i ≠ 0 ∧ i ≠ 1 ∧ i ≠ 3 ∧ i ≠ 12 ∧ i ≠ 21 ∧ i ≠ 30 ∧ i ≠ 32 ∧ i ≠ 35 ∧ i ≠ 44 ∧ i ≠ 48) : pm_sr i j = none := by
  unfold pm_sr
  split <;> first | rfl | omega
theorem hoi_H : Cond.methodLink "RoommateHouse" 1 Lib.objectInit ∈ pm_words := pm_mem 60 (by decide +kernel) (by decide +kernel)
theorem hoi_W : Cond.methodLink "RoommateHouse$Wishes" 3 Lib.objectInit ∈ pm_words := pm_mem 68 (by decide +kernel) (by decide +kernel)
theorem hoi_D : Cond.methodLink "RoommateHouse$Draft" 3 Lib.objectInit ∈ pm_words := pm_mem 96 (by decide +kernel) (by decide +kernel)
theorem hoi_S : Cond.methodLink "RoommateHouse$StableMatchings" 3 Lib.objectInit ∈ pm_words := pm_mem 109 (by decide +kernel) (by decide +kernel)
theorem hoi_P : Cond.methodLink "RoommateHouse$Partition" 3 Lib.objectInit ∈ pm_words := pm_mem 135 (by decide +kernel) (by decide +kernel)
theorem hoi_M : Cond.methodLink "RoommateHouseModel" 1 Lib.objectInit ∈ pm_words := pm_mem 597 (by decide +kernel) (by decide +kernel)
theorem hoi_i : Cond.instanceMethod Lib.objectInit ∈ pm_words := pm_mem 61 (by decide +kernel) (by decide +kernel)
theorem hoi_c : Cond.code Lib.objectInit ⟨#[0xb1]⟩ 1 none ∈ pm_words := pm_mem 62 (by decide +kernel) (by decide +kernel)
section CT
variable {b : pB} {d : Nat} {σ : pI} {τ : pJ} {r : Nat → Nat → Option Nat}
theorem k_W_init (hBA : pm_baseA b) (hwf : pm_wf (2, pm_sh, r)) (hz : nn_ r 1 ∧ ∀ i j, 1 ≤ i → σ i j = 0) : pm_C b d km_W_init [pm_R 1] (2, pm_sh, r) σ τ 28 224 (.inr (.inr (fun g' σ' τ' => ∃ r', g' = (30, pm_sh, r') ∧ (∀ i j, 1 ≤ i → i < 30 → r' i j = pm_sr i j) ∧ (∀ i j, i < 1 → r' i j = r i j) ∧ nn_ r' 30 ∧ pm_wf (30, pm_sh, r') ∧ σ' = (σ) ∧ τ' = τ))) := by
  show pm_Y b d km_W_init 0 false [some (pm_R 1)] [] (2, pm_sh, r) σ τ 0 0 28 224 _
  have w0 := hwf
  have z0 : nn_ r 2 := nn_new hz.1
  have p0 : pt_ 1 2 r r (fun _ => none) := ⟨fun _ _ _ => rfl, fun i j h1 h2 => absurd h2 (by omega), fun j => hz.1 1 j (Nat.le_refl _)⟩
  refine pm_aload_n d_W_init_0 rfl ?_
  refine pm_objInit d_W_init_1 hoi_W hoi_i hoi_c (Nat.le_of_ble_eq_true rfl) ?_
  refine pm_aload_n d_W_init_4 rfl ?_
  refine pm_bipush' (nI 8) d_W_init_5 (by decide) ?_
  refine pm_newI (n := 8) d_W_init_7 hw_ints rfl rfl (by decide) (fun j => hz.2 _ j (Nat.le_of_ble_eq_true rfl)) w0 rfl rfl (Nat.le_of_ble_eq_true rfl) (Nat.le_of_ble_eq_true rfl) ?_
  have z1 : nn_ r 3 := nn_new z0
  have w1 : pm_wf (3, pm_sh, r) := wf_new w0 z0
  have p1 : pt_ 1 3 r r _ := pt_new p0 z0 (fun j => sr_no j (by decide))
  show pm_Y b _ km_W_init 9 _ [some (pm_R 1)] [pm_R 2, pm_R 1] (3, pm_sh, r) σ τ 1 8 _ _ _
  refine pm_putrF d_W_init_9 hp_W_9 (Or.inr ⟨_, rfl⟩) rfl ⟨_, _, rfl⟩ rfl (show 1 < 3 by decide) rfl ?_
  have z2 : nn_ (pm_upR r 1 0 (some 2)) 3 := nn_up z1 (by decide)
  have w2 : pm_wf (3, pm_sh, pm_upR r 1 0 (some 2)) := wf_upR w1 (by decide)
  have p2 : pt_ 1 3 r (pm_upR r 1 0 (some 2)) _ := pt_up p1
  show pm_Y b _ km_W_init 12 true [some (pm_R 1)] [] (3, pm_sh, pm_upR r 1 0 (some 2)) σ τ 1 8 _ _ _
  generalize pm_upR r 1 0 (some 2) = r2 at z2 w2 p2 ⊢
  refine pm_aload_n d_W_init_12 rfl ?_
  refine pm_bipush' (nI 8) d_W_init_13 (by decide) ?_
  refine pm_bipush' (nI 8) d_W_init_15 (by decide) ?_
  refine pm_multi hBA d_W_init_17 hw_W15 rfl sh_4 (fun j hj x => hz.2 _ x (by show 1 ≤ 3 + 1 + j; omega)) (fun j => z2 _ j (Nat.le_refl _)) w2 rfl rfl (Nat.le_of_ble_eq_true rfl) (Nat.le_of_ble_eq_true rfl) ?_
  have z3 : nn_ (pm_rows (3, pm_sh, r2)).2.2 12 := nn_rows (s := pm_sh) z2
  have w3 : pm_wf (12, pm_sh, (pm_rows (3, pm_sh, r2)).2.2) := wf_rows w2 z2
  have p3 : pt_ 1 12 r (pm_rows (3, pm_sh, r2)).2.2 _ := pt_rows (s := pm_sh) p2 (by decide) z2 (fun j => sr_a3 j) (fun k j hk => sr_no j (by omega))
  show pm_Y b _ km_W_init 21 true [some (pm_R 1)] [pm_R 3, pm_R 1] (12, pm_sh, (pm_rows (3, pm_sh, r2)).2.2) σ τ 10 80 _ _ _
  generalize (pm_rows (3, pm_sh, r2)).2.2 = r3 at z3 w3 p3 ⊢
  refine pm_putrF d_W_init_21 hp_W_17 (Or.inr ⟨_, rfl⟩) rfl ⟨_, _, rfl⟩ rfl (show 1 < 12 by decide) rfl ?_
  have z4 : nn_ (pm_upR r3 1 1 (some 3)) 12 := nn_up z3 (by decide)
  have w4 : pm_wf (12, pm_sh, pm_upR r3 1 1 (some 3)) := wf_upR w3 (by decide)
  have p4 : pt_ 1 12 r (pm_upR r3 1 1 (some 3)) _ := pt_up p3
  show pm_Y b _ km_W_init 24 true [some (pm_R 1)] [] (12, pm_sh, pm_upR r3 1 1 (some 3)) σ τ 10 80 _ _ _
  generalize pm_upR r3 1 1 (some 3) = r4 at z4 w4 p4 ⊢
  refine pm_aload_n d_W_init_24 rfl ?_
  refine pm_bipush' (nI 8) d_W_init_25 (by decide) ?_
  refine pm_bipush' (nI 8) d_W_init_27 (by decide) ?_
  refine pm_multi hBA d_W_init_29 hw_W15 rfl sh_13 (fun j hj x => hz.2 _ x (by show 1 ≤ 12 + 1 + j; omega)) (fun j => z4 _ j (Nat.le_refl _)) w4 rfl rfl (Nat.le_of_ble_eq_true rfl) (Nat.le_of_ble_eq_true rfl) ?_
  have z5 : nn_ (pm_rows (12, pm_sh, r4)).2.2 21 := nn_rows (s := pm_sh) z4
  have w5 : pm_wf (21, pm_sh, (pm_rows (12, pm_sh, r4)).2.2) := wf_rows w4 z4
  have p5 : pt_ 1 21 r (pm_rows (12, pm_sh, r4)).2.2 _ := pt_rows (s := pm_sh) p4 (by decide) z4 (fun j => sr_a12 j) (fun k j hk => sr_no j (by omega))
  show pm_Y b _ km_W_init 33 true [some (pm_R 1)] [pm_R 12, pm_R 1] (21, pm_sh, (pm_rows (12, pm_sh, r4)).2.2) σ τ 19 152 _ _ _
  generalize (pm_rows (12, pm_sh, r4)).2.2 = r5 at z5 w5 p5 ⊢
  refine pm_putrF d_W_init_33 hp_W_20 (Or.inr ⟨_, rfl⟩) rfl ⟨_, _, rfl⟩ rfl (show 1 < 21 by decide) rfl ?_
  have z6 : nn_ (pm_upR r5 1 2 (some 12)) 21 := nn_up z5 (by decide)
  have w6 : pm_wf (21, pm_sh, pm_upR r5 1 2 (some 12)) := wf_upR w5 (by decide)
  have p6 : pt_ 1 21 r (pm_upR r5 1 2 (some 12)) _ := pt_up p5
  show pm_Y b _ km_W_init 36 true [some (pm_R 1)] [] (21, pm_sh, pm_upR r5 1 2 (some 12)) σ τ 19 152 _ _ _
  generalize pm_upR r5 1 2 (some 12) = r6 at z6 w6 p6 ⊢
  refine pm_aload_n d_W_init_36 rfl ?_
  refine pm_bipush' (nI 8) d_W_init_37 (by decide) ?_
  refine pm_bipush' (nI 8) d_W_init_39 (by decide) ?_
  refine pm_multi hBA d_W_init_41 hw_W15 rfl sh_22 (fun j hj x => hz.2 _ x (by show 1 ≤ 21 + 1 + j; omega)) (fun j => z6 _ j (Nat.le_refl _)) w6 rfl rfl (Nat.le_of_ble_eq_true rfl) (Nat.le_of_ble_eq_true rfl) ?_
  have z7 : nn_ (pm_rows (21, pm_sh, r6)).2.2 30 := nn_rows (s := pm_sh) z6
  have w7 : pm_wf (30, pm_sh, (pm_rows (21, pm_sh, r6)).2.2) := wf_rows w6 z6
  have p7 : pt_ 1 30 r (pm_rows (21, pm_sh, r6)).2.2 _ := pt_rows (s := pm_sh) p6 (by decide) z6 (fun j => sr_a21 j) (fun k j hk => sr_no j (by omega))
  show pm_Y b _ km_W_init 45 true [some (pm_R 1)] [pm_R 21, pm_R 1] (30, pm_sh, (pm_rows (21, pm_sh, r6)).2.2) σ τ 28 224 _ _ _
  generalize (pm_rows (21, pm_sh, r6)).2.2 = r7 at z7 w7 p7 ⊢
  refine pm_putrF d_W_init_45 hp_W_23 (Or.inr ⟨_, rfl⟩) rfl ⟨_, _, rfl⟩ rfl (show 1 < 30 by decide) rfl ?_
  have z8 : nn_ (pm_upR r7 1 3 (some 21)) 30 := nn_up z7 (by decide)
  have w8 : pm_wf (30, pm_sh, pm_upR r7 1 3 (some 21)) := wf_upR w7 (by decide)
  have p8 : pt_ 1 30 r (pm_upR r7 1 3 (some 21)) _ := pt_up p7
  show pm_Y b _ km_W_init 48 true [some (pm_R 1)] [] (30, pm_sh, pm_upR r7 1 3 (some 21)) σ τ 28 224 _ _ _
  generalize pm_upR r7 1 3 (some 21) = r8 at z8 w8 p8 ⊢
  refine pm_returnN d_W_init_48 rfl (Nat.le_refl _) (Nat.le_refl _) ⟨r8, rfl, fun i j h1 h2 => ?_, p8.1, z8, w8, rfl, rfl⟩
  rcases Nat.lt_or_ge 1 i with h3 | h3
  · exact p8.2.1 i j h3 h2
  · have e : i = 1 := by omega
    subst e
    refine (p8.2.2 j).trans ?_
    rw [sr_o1 j]
    dsimp only
    match j with
    | 0 => rfl
    | 1 => rfl
    | 2 => rfl
    | 3 => rfl
    | j + 4 => rw [if_neg (by omega), if_neg (by omega), if_neg (by omega), if_neg (by omega), if_neg (by omega), if_neg (by omega), if_neg (by omega), if_neg (by omega)]
theorem k_D_init (hBA : pm_baseA b) (hwf : pm_wf (31, pm_sh, r)) (hz : nn_ r 30 ∧ ∀ i j, 30 ≤ i → σ i j = 0) : pm_C b d km_D_init [pm_R 30, pm_R 1] (31, pm_sh, r) σ τ 1 8 (.inr (.inr (fun g' σ' τ' => ∃ r', g' = (32, pm_sh, r') ∧ (∀ i j, 30 ≤ i → i < 32 → r' i j = pm_sr i j) ∧ (∀ i j, i < 30 → r' i j = r i j) ∧ nn_ r' 32 ∧ pm_wf (32, pm_sh, r') ∧ σ' = (σ) ∧ τ' = τ))) := by
  show pm_Y b d km_D_init 0 false [some (pm_R 30), some (pm_R 1)] [] (31, pm_sh, r) σ τ 0 0 1 8 _
  have w0 := hwf
  have z0 : nn_ r 31 := nn_new hz.1
  have p0 : pt_ 30 31 r r (fun _ => none) := ⟨fun _ _ _ => rfl, fun i j h1 h2 => absurd h2 (by omega), fun j => hz.1 30 j (Nat.le_refl _)⟩
  refine pm_aload_n d_D_init_0 rfl ?_
  refine pm_objInit d_D_init_1 hoi_D hoi_i hoi_c (Nat.le_of_ble_eq_true rfl) ?_
  refine pm_aload_n d_D_init_4 rfl ?_
  refine pm_bipush' (nI 8) d_D_init_5 (by decide) ?_
  refine pm_newI (n := 8) d_D_init_7 hw_ints rfl rfl (by decide) (fun j => hz.2 _ j (Nat.le_of_ble_eq_true rfl)) w0 rfl rfl (Nat.le_of_ble_eq_true rfl) (Nat.le_of_ble_eq_true rfl) ?_
  have z1 : nn_ r 32 := nn_new z0
  have w1 : pm_wf (32, pm_sh, r) := wf_new w0 z0
  have p1 : pt_ 30 32 r r _ := pt_new p0 z0 (fun j => sr_no j (by decide))
  show pm_Y b _ km_D_init 9 _ [some (pm_R 30), some (pm_R 1)] [pm_R 31, pm_R 30] (32, pm_sh, r) σ τ 1 8 _ _ _
  refine pm_putrF d_D_init_9 hp_D_9 (Or.inr ⟨_, rfl⟩) rfl ⟨_, _, rfl⟩ rfl (show 30 < 32 by decide) rfl ?_
  have z2 : nn_ (pm_upR r 30 1 (some 31)) 32 := nn_up z1 (by decide)
  have w2 : pm_wf (32, pm_sh, pm_upR r 30 1 (some 31)) := wf_upR w1 (by decide)
  have p2 : pt_ 30 32 r (pm_upR r 30 1 (some 31)) _ := pt_up p1
  show pm_Y b _ km_D_init 12 true [some (pm_R 30), some (pm_R 1)] [] (32, pm_sh, pm_upR r 30 1 (some 31)) σ τ 1 8 _ _ _
  generalize pm_upR r 30 1 (some 31) = r2 at z2 w2 p2 ⊢
  refine pm_aload_n d_D_init_12 rfl ?_
  refine pm_aload_n d_D_init_13 rfl ?_
  refine pm_putrF d_D_init_14 hp_D_15 (Or.inl ⟨_, rfl⟩) rfl ⟨_, _, rfl⟩ rfl (show 30 < 32 by decide) rfl ?_
  have z3 : nn_ (pm_upR r2 30 0 (some 1)) 32 := nn_up z2 (by decide)
  have w3 : pm_wf (32, pm_sh, pm_upR r2 30 0 (some 1)) := wf_upR w2 (by decide)
  have p3 : pt_ 30 32 r (pm_upR r2 30 0 (some 1)) _ := pt_up p2
  show pm_Y b _ km_D_init 17 true [some (pm_R 30), some (pm_R 1)] [] (32, pm_sh, pm_upR r2 30 0 (some 1)) σ τ 1 8 _ _ _
  generalize pm_upR r2 30 0 (some 1) = r3 at z3 w3 p3 ⊢
  refine pm_returnN d_D_init_17 rfl (Nat.le_refl _) (Nat.le_refl _) ⟨r3, rfl, fun i j h1 h2 => ?_, p3.1, z3, w3, rfl, rfl⟩
  rcases Nat.lt_or_ge 30 i with h3 | h3
  · exact p3.2.1 i j h3 h2
  · have e : i = 30 := by omega
    subst e
    refine (p3.2.2 j).trans ?_
    rw [sr_o30 j]
theorem k_S_init (hBA : pm_baseA b) (hwf : pm_wf (33, pm_sh, r)) (hz : nn_ r 32 ∧ ∀ i j, 32 ≤ i → σ i j = 0) : pm_C b d km_S_init [pm_R 32, pm_R 1] (33, pm_sh, r) σ τ 11 88 (.inr (.inr (fun g' σ' τ' => ∃ r', g' = (44, pm_sh, r') ∧ (∀ i j, 32 ≤ i → i < 44 → r' i j = pm_sr i j) ∧ (∀ i j, i < 32 → r' i j = r i j) ∧ nn_ r' 44 ∧ pm_wf (44, pm_sh, r') ∧ σ' = (pm_up σ 32 5 (-1)) ∧ τ' = τ))) := by
  show pm_Y b d km_S_init 0 false [some (pm_R 32), some (pm_R 1)] [] (33, pm_sh, r) σ τ 0 0 11 88 _
  have w0 := hwf
  have z0 : nn_ r 33 := nn_new hz.1
  have p0 : pt_ 32 33 r r (fun _ => none) := ⟨fun _ _ _ => rfl, fun i j h1 h2 => absurd h2 (by omega), fun j => hz.1 32 j (Nat.le_refl _)⟩
  refine pm_aload_n d_S_init_0 rfl ?_
  refine pm_objInit d_S_init_1 hoi_S hoi_i hoi_c (Nat.le_of_ble_eq_true rfl) ?_
  refine pm_aload_n d_S_init_4 rfl ?_
  refine pm_bipush' (nI 8) d_S_init_5 (by decide) ?_
  refine pm_newI (n := 8) d_S_init_7 hw_ints rfl rfl (by decide) (fun j => hz.2 _ j (Nat.le_of_ble_eq_true rfl)) w0 rfl rfl (Nat.le_of_ble_eq_true rfl) (Nat.le_of_ble_eq_true rfl) ?_
  have z1 : nn_ r 34 := nn_new z0
  have w1 : pm_wf (34, pm_sh, r) := wf_new w0 z0
  have p1 : pt_ 32 34 r r _ := pt_new p0 z0 (fun j => sr_no j (by decide))
  show pm_Y b _ km_S_init 9 _ [some (pm_R 32), some (pm_R 1)] [pm_R 33, pm_R 32] (34, pm_sh, r) σ τ 1 8 _ _ _
  refine pm_putrF d_S_init_9 hp_S_9 (Or.inr ⟨_, rfl⟩) rfl ⟨_, _, rfl⟩ rfl (show 32 < 34 by decide) rfl ?_
  have z2 : nn_ (pm_upR r 32 1 (some 33)) 34 := nn_up z1 (by decide)
  have w2 : pm_wf (34, pm_sh, pm_upR r 32 1 (some 33)) := wf_upR w1 (by decide)
  have p2 : pt_ 32 34 r (pm_upR r 32 1 (some 33)) _ := pt_up p1
  show pm_Y b _ km_S_init 12 true [some (pm_R 32), some (pm_R 1)] [] (34, pm_sh, pm_upR r 32 1 (some 33)) σ τ 1 8 _ _ _
  generalize pm_upR r 32 1 (some 33) = r2 at z2 w2 p2 ⊢
  refine pm_aload_n d_S_init_12 rfl ?_
  refine pm_bipush' (nI 8) d_S_init_13 (by decide) ?_
  refine pm_newI (n := 8) d_S_init_15 hw_ints rfl rfl (by decide) (fun j => hz.2 _ j (Nat.le_of_ble_eq_true rfl)) w2 rfl rfl (Nat.le_of_ble_eq_true rfl) (Nat.le_of_ble_eq_true rfl) ?_
  have z3 : nn_ r2 35 := nn_new z2
  have w3 : pm_wf (35, pm_sh, r2) := wf_new w2 z2
  have p3 : pt_ 32 35 r r2 _ := pt_new p2 z2 (fun j => sr_no j (by decide))
  show pm_Y b _ km_S_init 17 _ [some (pm_R 32), some (pm_R 1)] [pm_R 34, pm_R 32] (35, pm_sh, r2) σ τ 2 16 _ _ _
  refine pm_putrF d_S_init_17 hp_S_15 (Or.inr ⟨_, rfl⟩) rfl ⟨_, _, rfl⟩ rfl (show 32 < 35 by decide) rfl ?_
  have z4 : nn_ (pm_upR r2 32 2 (some 34)) 35 := nn_up z3 (by decide)
  have w4 : pm_wf (35, pm_sh, pm_upR r2 32 2 (some 34)) := wf_upR w3 (by decide)
  have p4 : pt_ 32 35 r (pm_upR r2 32 2 (some 34)) _ := pt_up p3
  show pm_Y b _ km_S_init 20 true [some (pm_R 32), some (pm_R 1)] [] (35, pm_sh, pm_upR r2 32 2 (some 34)) σ τ 2 16 _ _ _
  generalize pm_upR r2 32 2 (some 34) = r4 at z4 w4 p4 ⊢
  refine pm_aload_n d_S_init_20 rfl ?_
  refine pm_bipush' (nI 8) d_S_init_21 (by decide) ?_
  refine pm_bipush' (nI 8) d_S_init_23 (by decide) ?_
  refine pm_multi hBA d_S_init_25 hw_S18 rfl sh_36 (fun j hj x => hz.2 _ x (by show 32 ≤ 35 + 1 + j; omega)) (fun j => z4 _ j (Nat.le_refl _)) w4 rfl rfl (Nat.le_of_ble_eq_true rfl) (Nat.le_of_ble_eq_true rfl) ?_
  have z5 : nn_ (pm_rows (35, pm_sh, r4)).2.2 44 := nn_rows (s := pm_sh) z4
  have w5 : pm_wf (44, pm_sh, (pm_rows (35, pm_sh, r4)).2.2) := wf_rows w4 z4
  have p5 : pt_ 32 44 r (pm_rows (35, pm_sh, r4)).2.2 _ := pt_rows (s := pm_sh) p4 (by decide) z4 (fun j => sr_a35 j) (fun k j hk => sr_no j (by omega))
  show pm_Y b _ km_S_init 29 true [some (pm_R 32), some (pm_R 1)] [pm_R 35, pm_R 32] (44, pm_sh, (pm_rows (35, pm_sh, r4)).2.2) σ τ 11 88 _ _ _
  generalize (pm_rows (35, pm_sh, r4)).2.2 = r5 at z5 w5 p5 ⊢
  refine pm_putrF d_S_init_29 hp_S_20 (Or.inr ⟨_, rfl⟩) rfl ⟨_, _, rfl⟩ rfl (show 32 < 44 by decide) rfl ?_
  have z6 : nn_ (pm_upR r5 32 3 (some 35)) 44 := nn_up z5 (by decide)
  have w6 : pm_wf (44, pm_sh, pm_upR r5 32 3 (some 35)) := wf_upR w5 (by decide)
  have p6 : pt_ 32 44 r (pm_upR r5 32 3 (some 35)) _ := pt_up p5
  show pm_Y b _ km_S_init 32 true [some (pm_R 32), some (pm_R 1)] [] (44, pm_sh, pm_upR r5 32 3 (some 35)) σ τ 11 88 _ _ _
  generalize pm_upR r5 32 3 (some 35) = r6 at z6 w6 p6 ⊢
  refine pm_aload_n d_S_init_32 rfl ?_
  refine pm_iconst' (-1) d_S_init_33 (by decide) ?_
  refine pm_puti d_S_init_34 hp_S_23 rfl (show 32 < 44 by decide) rfl ?_
  refine pm_aload_n d_S_init_37 rfl ?_
  refine pm_aload_n d_S_init_38 rfl ?_
  refine pm_putrF d_S_init_39 hp_S_27 (Or.inl ⟨_, rfl⟩) rfl ⟨_, _, rfl⟩ rfl (show 32 < 44 by decide) rfl ?_
  have z7 : nn_ (pm_upR r6 32 0 (some 1)) 44 := nn_up z6 (by decide)
  have w7 : pm_wf (44, pm_sh, pm_upR r6 32 0 (some 1)) := wf_upR w6 (by decide)
  have p7 : pt_ 32 44 r (pm_upR r6 32 0 (some 1)) _ := pt_up p6
  show pm_Y b _ km_S_init 42 true [some (pm_R 32), some (pm_R 1)] [] (44, pm_sh, pm_upR r6 32 0 (some 1)) (pm_up σ 32 5 (-1)) τ 11 88 _ _ _
  generalize pm_upR r6 32 0 (some 1) = r7 at z7 w7 p7 ⊢
  refine pm_returnN d_S_init_42 rfl (Nat.le_refl _) (Nat.le_refl _) ⟨r7, rfl, fun i j h1 h2 => ?_, p7.1, z7, w7, rfl, rfl⟩
  rcases Nat.lt_or_ge 32 i with h3 | h3
  · exact p7.2.1 i j h3 h2
  · have e : i = 32 := by omega
    subst e
    refine (p7.2.2 j).trans ?_
    rw [sr_o32 j]
    dsimp only
    match j with
    | 0 => rfl
    | 1 => rfl
    | 2 => rfl
    | 3 => rfl
    | j + 4 => rw [if_neg (by omega), if_neg (by omega), if_neg (by omega), if_neg (by omega), if_neg (by omega), if_neg (by omega), if_neg (by omega), if_neg (by omega)]
theorem k_P_init (hBA : pm_baseA b) (hwf : pm_wf (45, pm_sh, r)) (hz : nn_ r 44 ∧ ∀ i j, 44 ≤ i → σ i j = 0) : pm_C b d km_P_init [pm_R 44, pm_R 1] (45, pm_sh, r) σ τ 3 24 (.inr (.inr (fun g' σ' τ' => ∃ r', g' = (48, pm_sh, r') ∧ (∀ i j, 44 ≤ i → i < 48 → r' i j = pm_sr i j) ∧ (∀ i j, i < 44 → r' i j = r i j) ∧ nn_ r' 48 ∧ pm_wf (48, pm_sh, r') ∧ σ' = (pm_up σ 44 6 (-1)) ∧ τ' = τ))) := by
  show pm_Y b d km_P_init 0 false [some (pm_R 44), some (pm_R 1)] [] (45, pm_sh, r) σ τ 0 0 3 24 _
  have w0 := hwf
  have z0 : nn_ r 45 := nn_new hz.1
  have p0 : pt_ 44 45 r r (fun _ => none) := ⟨fun _ _ _ => rfl, fun i j h1 h2 => absurd h2 (by omega), fun j => hz.1 44 j (Nat.le_refl _)⟩
  refine pm_aload_n d_P_init_0 rfl ?_
  refine pm_objInit d_P_init_1 hoi_P hoi_i hoi_c (Nat.le_of_ble_eq_true rfl) ?_
  refine pm_aload_n d_P_init_4 rfl ?_
  refine pm_bipush' (nI 8) d_P_init_5 (by decide) ?_
  refine pm_newI (n := 8) d_P_init_7 hw_ints rfl rfl (by decide) (fun j => hz.2 _ j (Nat.le_of_ble_eq_true rfl)) w0 rfl rfl (Nat.le_of_ble_eq_true rfl) (Nat.le_of_ble_eq_true rfl) ?_
  have z1 : nn_ r 46 := nn_new z0
  have w1 : pm_wf (46, pm_sh, r) := wf_new w0 z0
  have p1 : pt_ 44 46 r r _ := pt_new p0 z0 (fun j => sr_no j (by decide))
  show pm_Y b _ km_P_init 9 _ [some (pm_R 44), some (pm_R 1)] [pm_R 45, pm_R 44] (46, pm_sh, r) σ τ 1 8 _ _ _
  refine pm_putrF d_P_init_9 hp_P_9 (Or.inr ⟨_, rfl⟩) rfl ⟨_, _, rfl⟩ rfl (show 44 < 46 by decide) rfl ?_
  have z2 : nn_ (pm_upR r 44 1 (some 45)) 46 := nn_up z1 (by decide)
  have w2 : pm_wf (46, pm_sh, pm_upR r 44 1 (some 45)) := wf_upR w1 (by decide)
  have p2 : pt_ 44 46 r (pm_upR r 44 1 (some 45)) _ := pt_up p1
  show pm_Y b _ km_P_init 12 true [some (pm_R 44), some (pm_R 1)] [] (46, pm_sh, pm_upR r 44 1 (some 45)) σ τ 1 8 _ _ _
  generalize pm_upR r 44 1 (some 45) = r2 at z2 w2 p2 ⊢
  refine pm_aload_n d_P_init_12 rfl ?_
  refine pm_bipush' (nI 8) d_P_init_13 (by decide) ?_
  refine pm_newI (n := 8) d_P_init_15 hw_ints rfl rfl (by decide) (fun j => hz.2 _ j (Nat.le_of_ble_eq_true rfl)) w2 rfl rfl (Nat.le_of_ble_eq_true rfl) (Nat.le_of_ble_eq_true rfl) ?_
  have z3 : nn_ r2 47 := nn_new z2
  have w3 : pm_wf (47, pm_sh, r2) := wf_new w2 z2
  have p3 : pt_ 44 47 r r2 _ := pt_new p2 z2 (fun j => sr_no j (by decide))
  show pm_Y b _ km_P_init 17 _ [some (pm_R 44), some (pm_R 1)] [pm_R 46, pm_R 44] (47, pm_sh, r2) σ τ 2 16 _ _ _
  refine pm_putrF d_P_init_17 hp_P_15 (Or.inr ⟨_, rfl⟩) rfl ⟨_, _, rfl⟩ rfl (show 44 < 47 by decide) rfl ?_
  have z4 : nn_ (pm_upR r2 44 2 (some 46)) 47 := nn_up z3 (by decide)
  have w4 : pm_wf (47, pm_sh, pm_upR r2 44 2 (some 46)) := wf_upR w3 (by decide)
  have p4 : pt_ 44 47 r (pm_upR r2 44 2 (some 46)) _ := pt_up p3
  show pm_Y b _ km_P_init 20 true [some (pm_R 44), some (pm_R 1)] [] (47, pm_sh, pm_upR r2 44 2 (some 46)) σ τ 2 16 _ _ _
  generalize pm_upR r2 44 2 (some 46) = r4 at z4 w4 p4 ⊢
  refine pm_aload_n d_P_init_20 rfl ?_
  refine pm_bipush' (nI 8) d_P_init_21 (by decide) ?_
  refine pm_newI (n := 8) d_P_init_23 hw_ints rfl rfl (by decide) (fun j => hz.2 _ j (Nat.le_of_ble_eq_true rfl)) w4 rfl rfl (Nat.le_of_ble_eq_true rfl) (Nat.le_of_ble_eq_true rfl) ?_
  have z5 : nn_ r4 48 := nn_new z4
  have w5 : pm_wf (48, pm_sh, r4) := wf_new w4 z4
  have p5 : pt_ 44 48 r r4 _ := pt_new p4 z4 (fun j => sr_no j (by decide))
  show pm_Y b _ km_P_init 25 _ [some (pm_R 44), some (pm_R 1)] [pm_R 47, pm_R 44] (48, pm_sh, r4) σ τ 3 24 _ _ _
  refine pm_putrF d_P_init_25 hp_P_18 (Or.inr ⟨_, rfl⟩) rfl ⟨_, _, rfl⟩ rfl (show 44 < 48 by decide) rfl ?_
  have z6 : nn_ (pm_upR r4 44 3 (some 47)) 48 := nn_up z5 (by decide)
  have w6 : pm_wf (48, pm_sh, pm_upR r4 44 3 (some 47)) := wf_upR w5 (by decide)
  have p6 : pt_ 44 48 r (pm_upR r4 44 3 (some 47)) _ := pt_up p5
  show pm_Y b _ km_P_init 28 true [some (pm_R 44), some (pm_R 1)] [] (48, pm_sh, pm_upR r4 44 3 (some 47)) σ τ 3 24 _ _ _
  generalize pm_upR r4 44 3 (some 47) = r6 at z6 w6 p6 ⊢
  refine pm_aload_n d_P_init_28 rfl ?_
  refine pm_iconst' (-1) d_P_init_29 (by decide) ?_
  refine pm_puti d_P_init_30 hp_P_21 rfl (show 44 < 48 by decide) rfl ?_
  refine pm_aload_n d_P_init_33 rfl ?_
  refine pm_aload_n d_P_init_34 rfl ?_
  refine pm_putrF d_P_init_35 hp_P_25 (Or.inl ⟨_, rfl⟩) rfl ⟨_, _, rfl⟩ rfl (show 44 < 48 by decide) rfl ?_
  have z7 : nn_ (pm_upR r6 44 0 (some 1)) 48 := nn_up z6 (by decide)
  have w7 : pm_wf (48, pm_sh, pm_upR r6 44 0 (some 1)) := wf_upR w6 (by decide)
  have p7 : pt_ 44 48 r (pm_upR r6 44 0 (some 1)) _ := pt_up p6
  show pm_Y b _ km_P_init 38 true [some (pm_R 44), some (pm_R 1)] [] (48, pm_sh, pm_upR r6 44 0 (some 1)) (pm_up σ 44 6 (-1)) τ 3 24 _ _ _
  generalize pm_upR r6 44 0 (some 1) = r7 at z7 w7 p7 ⊢
  refine pm_returnN d_P_init_38 rfl (Nat.le_refl _) (Nat.le_refl _) ⟨r7, rfl, fun i j h1 h2 => ?_, p7.1, z7, w7, rfl, rfl⟩
  rcases Nat.lt_or_ge 44 i with h3 | h3
  · exact p7.2.1 i j h3 h2
  · have e : i = 44 := by omega
    subst e
    refine (p7.2.2 j).trans ?_
    rw [sr_o44 j]
    dsimp only
    match j with
    | 0 => rfl
    | 1 => rfl
    | 2 => rfl
    | 3 => rfl
    | j + 4 => rw [if_neg (by omega), if_neg (by omega), if_neg (by omega), if_neg (by omega), if_neg (by omega), if_neg (by omega), if_neg (by omega), if_neg (by omega)]
theorem k_M_init (hBA : pm_baseA b) (hwf : pm_wf (49, pm_sh, r)) (hz : nn_ r 48 ∧ ∀ i j, 48 ≤ i → σ i j = 0) : pm_C b d km_M_init [pm_R 48] (49, pm_sh, r) σ τ 11 256 (.inr (.inr (fun g' σ' τ' => ∃ r', g' = (60, pm_sh, r') ∧ (∀ i j, 48 ≤ i → i < 60 → r' i j = pm_sr i j) ∧ (∀ i j, i < 48 → r' i j = r i j) ∧ nn_ r' 60 ∧ pm_wf (60, pm_sh, r') ∧ σ' = (σ) ∧ τ' = τ))) := by
  show pm_Y b d km_M_init 0 false [some (pm_R 48)] [] (49, pm_sh, r) σ τ 0 0 11 256 _
  have w0 := hwf
  have z0 : nn_ r 49 := nn_new hz.1
  have p0 : pt_ 48 49 r r (fun _ => none) := ⟨fun _ _ _ => rfl, fun i j h1 h2 => absurd h2 (by omega), fun j => hz.1 48 j (Nat.le_refl _)⟩
  refine pm_aload_n d_M_init_0 rfl ?_
  refine pm_objInit d_M_init_1 hoi_M hoi_i hoi_c (Nat.le_of_ble_eq_true rfl) ?_
  refine pm_aload_n d_M_init_4 rfl ?_
  refine pm_bipush' (nI 8) d_M_init_5 (by decide) ?_
  refine pm_newI (n := 8) d_M_init_7 hw_ints rfl rfl (by decide) (fun j => hz.2 _ j (Nat.le_of_ble_eq_true rfl)) w0 rfl rfl (Nat.le_of_ble_eq_true rfl) (Nat.le_of_ble_eq_true rfl) ?_
  have z1 : nn_ r 50 := nn_new z0
  have w1 : pm_wf (50, pm_sh, r) := wf_new w0 z0
  have p1 : pt_ 48 50 r r _ := pt_new p0 z0 (fun j => sr_no j (by decide))
  show pm_Y b _ km_M_init 9 _ [some (pm_R 48)] [pm_R 49, pm_R 48] (50, pm_sh, r) σ τ 1 8 _ _ _
  refine pm_putrF d_M_init_9 hp_M_7 (Or.inr ⟨_, rfl⟩) rfl ⟨_, _, rfl⟩ rfl (show 48 < 50 by decide) rfl ?_
  have z2 : nn_ (pm_upR r 48 2 (some 49)) 50 := nn_up z1 (by decide)
  have w2 : pm_wf (50, pm_sh, pm_upR r 48 2 (some 49)) := wf_upR w1 (by decide)
  have p2 : pt_ 48 50 r (pm_upR r 48 2 (some 49)) _ := pt_up p1
  show pm_Y b _ km_M_init 12 true [some (pm_R 48)] [] (50, pm_sh, pm_upR r 48 2 (some 49)) σ τ 1 8 _ _ _
  generalize pm_upR r 48 2 (some 49) = r2 at z2 w2 p2 ⊢
  refine pm_aload_n d_M_init_12 rfl ?_
  refine pm_bipush' (nI 64) d_M_init_13 (by decide) ?_
  refine pm_newI (n := 64) d_M_init_15 hw_ints rfl rfl (by decide) (fun j => hz.2 _ j (Nat.le_of_ble_eq_true rfl)) w2 rfl rfl (Nat.le_of_ble_eq_true rfl) (Nat.le_of_ble_eq_true rfl) ?_
  have z3 : nn_ r2 51 := nn_new z2
  have w3 : pm_wf (51, pm_sh, r2) := wf_new w2 z2
  have p3 : pt_ 48 51 r r2 _ := pt_new p2 z2 (fun j => sr_no j (by decide))
  show pm_Y b _ km_M_init 17 _ [some (pm_R 48)] [pm_R 50, pm_R 48] (51, pm_sh, r2) σ τ 2 72 _ _ _
  refine pm_putrF d_M_init_17 hp_M_13 (Or.inr ⟨_, rfl⟩) rfl ⟨_, _, rfl⟩ rfl (show 48 < 51 by decide) rfl ?_
  have z4 : nn_ (pm_upR r2 48 3 (some 50)) 51 := nn_up z3 (by decide)
  have w4 : pm_wf (51, pm_sh, pm_upR r2 48 3 (some 50)) := wf_upR w3 (by decide)
  have p4 : pt_ 48 51 r (pm_upR r2 48 3 (some 50)) _ := pt_up p3
  show pm_Y b _ km_M_init 20 true [some (pm_R 48)] [] (51, pm_sh, pm_upR r2 48 3 (some 50)) σ τ 2 72 _ _ _
  generalize pm_upR r2 48 3 (some 50) = r4 at z4 w4 p4 ⊢
  refine pm_aload_n d_M_init_20 rfl ?_
  refine pm_bipush' (nI 8) d_M_init_21 (by decide) ?_
  refine pm_newI (n := 8) d_M_init_23 hw_ints rfl rfl (by decide) (fun j => hz.2 _ j (Nat.le_of_ble_eq_true rfl)) w4 rfl rfl (Nat.le_of_ble_eq_true rfl) (Nat.le_of_ble_eq_true rfl) ?_
  have z5 : nn_ r4 52 := nn_new z4
  have w5 : pm_wf (52, pm_sh, r4) := wf_new w4 z4
  have p5 : pt_ 48 52 r r4 _ := pt_new p4 z4 (fun j => sr_no j (by decide))
  show pm_Y b _ km_M_init 25 _ [some (pm_R 48)] [pm_R 51, pm_R 48] (52, pm_sh, r4) σ τ 3 80 _ _ _
  refine pm_putrF d_M_init_25 hp_M_16 (Or.inr ⟨_, rfl⟩) rfl ⟨_, _, rfl⟩ rfl (show 48 < 52 by decide) rfl ?_
  have z6 : nn_ (pm_upR r4 48 4 (some 51)) 52 := nn_up z5 (by decide)
  have w6 : pm_wf (52, pm_sh, pm_upR r4 48 4 (some 51)) := wf_upR w5 (by decide)
  have p6 : pt_ 48 52 r (pm_upR r4 48 4 (some 51)) _ := pt_up p5
  show pm_Y b _ km_M_init 28 true [some (pm_R 48)] [] (52, pm_sh, pm_upR r4 48 4 (some 51)) σ τ 3 80 _ _ _
  generalize pm_upR r4 48 4 (some 51) = r6 at z6 w6 p6 ⊢
  refine pm_aload_n d_M_init_28 rfl ?_
  refine pm_bipush' (nI 64) d_M_init_29 (by decide) ?_
  refine pm_newI (n := 64) d_M_init_31 hw_ints rfl rfl (by decide) (fun j => hz.2 _ j (Nat.le_of_ble_eq_true rfl)) w6 rfl rfl (Nat.le_of_ble_eq_true rfl) (Nat.le_of_ble_eq_true rfl) ?_
  have z7 : nn_ r6 53 := nn_new z6
  have w7 : pm_wf (53, pm_sh, r6) := wf_new w6 z6
  have p7 : pt_ 48 53 r r6 _ := pt_new p6 z6 (fun j => sr_no j (by decide))
  show pm_Y b _ km_M_init 33 _ [some (pm_R 48)] [pm_R 52, pm_R 48] (53, pm_sh, r6) σ τ 4 144 _ _ _
  refine pm_putrF d_M_init_33 hp_M_19 (Or.inr ⟨_, rfl⟩) rfl ⟨_, _, rfl⟩ rfl (show 48 < 53 by decide) rfl ?_
  have z8 : nn_ (pm_upR r6 48 7 (some 52)) 53 := nn_up z7 (by decide)
  have w8 : pm_wf (53, pm_sh, pm_upR r6 48 7 (some 52)) := wf_upR w7 (by decide)
  have p8 : pt_ 48 53 r (pm_upR r6 48 7 (some 52)) _ := pt_up p7
  show pm_Y b _ km_M_init 36 true [some (pm_R 48)] [] (53, pm_sh, pm_upR r6 48 7 (some 52)) σ τ 4 144 _ _ _
  generalize pm_upR r6 48 7 (some 52) = r8 at z8 w8 p8 ⊢
  refine pm_aload_n d_M_init_36 rfl ?_
  refine pm_bipush' (nI 8) d_M_init_37 (by decide) ?_
  refine pm_newI (n := 8) d_M_init_39 hw_ints rfl rfl (by decide) (fun j => hz.2 _ j (Nat.le_of_ble_eq_true rfl)) w8 rfl rfl (Nat.le_of_ble_eq_true rfl) (Nat.le_of_ble_eq_true rfl) ?_
  have z9 : nn_ r8 54 := nn_new z8
  have w9 : pm_wf (54, pm_sh, r8) := wf_new w8 z8
  have p9 : pt_ 48 54 r r8 _ := pt_new p8 z8 (fun j => sr_no j (by decide))
  show pm_Y b _ km_M_init 41 _ [some (pm_R 48)] [pm_R 53, pm_R 48] (54, pm_sh, r8) σ τ 5 152 _ _ _
  refine pm_putrF d_M_init_41 hp_M_22 (Or.inr ⟨_, rfl⟩) rfl ⟨_, _, rfl⟩ rfl (show 48 < 54 by decide) rfl ?_
  have z10 : nn_ (pm_upR r8 48 8 (some 53)) 54 := nn_up z9 (by decide)
  have w10 : pm_wf (54, pm_sh, pm_upR r8 48 8 (some 53)) := wf_upR w9 (by decide)
  have p10 : pt_ 48 54 r (pm_upR r8 48 8 (some 53)) _ := pt_up p9
  show pm_Y b _ km_M_init 44 true [some (pm_R 48)] [] (54, pm_sh, pm_upR r8 48 8 (some 53)) σ τ 5 152 _ _ _
  generalize pm_upR r8 48 8 (some 53) = r10 at z10 w10 p10 ⊢
  refine pm_aload_n d_M_init_44 rfl ?_
  refine pm_bipush' (nI 8) d_M_init_45 (by decide) ?_
  refine pm_newI (n := 8) d_M_init_47 hw_ints rfl rfl (by decide) (fun j => hz.2 _ j (Nat.le_of_ble_eq_true rfl)) w10 rfl rfl (Nat.le_of_ble_eq_true rfl) (Nat.le_of_ble_eq_true rfl) ?_
  have z11 : nn_ r10 55 := nn_new z10
  have w11 : pm_wf (55, pm_sh, r10) := wf_new w10 z10
  have p11 : pt_ 48 55 r r10 _ := pt_new p10 z10 (fun j => sr_no j (by decide))
  show pm_Y b _ km_M_init 49 _ [some (pm_R 48)] [pm_R 54, pm_R 48] (55, pm_sh, r10) σ τ 6 160 _ _ _
  refine pm_putrF d_M_init_49 hp_M_25 (Or.inr ⟨_, rfl⟩) rfl ⟨_, _, rfl⟩ rfl (show 48 < 55 by decide) rfl ?_
  have z12 : nn_ (pm_upR r10 48 9 (some 54)) 55 := nn_up z11 (by decide)
  have w12 : pm_wf (55, pm_sh, pm_upR r10 48 9 (some 54)) := wf_upR w11 (by decide)
  have p12 : pt_ 48 55 r (pm_upR r10 48 9 (some 54)) _ := pt_up p11
  show pm_Y b _ km_M_init 52 true [some (pm_R 48)] [] (55, pm_sh, pm_upR r10 48 9 (some 54)) σ τ 6 160 _ _ _
  generalize pm_upR r10 48 9 (some 54) = r12 at z12 w12 p12 ⊢
  refine pm_aload_n d_M_init_52 rfl ?_
  refine pm_bipush' (nI 8) d_M_init_53 (by decide) ?_
  refine pm_newI (n := 8) d_M_init_55 hw_ints rfl rfl (by decide) (fun j => hz.2 _ j (Nat.le_of_ble_eq_true rfl)) w12 rfl rfl (Nat.le_of_ble_eq_true rfl) (Nat.le_of_ble_eq_true rfl) ?_
  have z13 : nn_ r12 56 := nn_new z12
  have w13 : pm_wf (56, pm_sh, r12) := wf_new w12 z12
  have p13 : pt_ 48 56 r r12 _ := pt_new p12 z12 (fun j => sr_no j (by decide))
  show pm_Y b _ km_M_init 57 _ [some (pm_R 48)] [pm_R 55, pm_R 48] (56, pm_sh, r12) σ τ 7 168 _ _ _
  refine pm_putrF d_M_init_57 hp_M_28 (Or.inr ⟨_, rfl⟩) rfl ⟨_, _, rfl⟩ rfl (show 48 < 56 by decide) rfl ?_
  have z14 : nn_ (pm_upR r12 48 10 (some 55)) 56 := nn_up z13 (by decide)
  have w14 : pm_wf (56, pm_sh, pm_upR r12 48 10 (some 55)) := wf_upR w13 (by decide)
  have p14 : pt_ 48 56 r (pm_upR r12 48 10 (some 55)) _ := pt_up p13
  show pm_Y b _ km_M_init 60 true [some (pm_R 48)] [] (56, pm_sh, pm_upR r12 48 10 (some 55)) σ τ 7 168 _ _ _
  generalize pm_upR r12 48 10 (some 55) = r14 at z14 w14 p14 ⊢
  refine pm_aload_n d_M_init_60 rfl ?_
  refine pm_bipush' (nI 8) d_M_init_61 (by decide) ?_
  refine pm_newI (n := 8) d_M_init_63 hw_ints rfl rfl (by decide) (fun j => hz.2 _ j (Nat.le_of_ble_eq_true rfl)) w14 rfl rfl (Nat.le_of_ble_eq_true rfl) (Nat.le_of_ble_eq_true rfl) ?_
  have z15 : nn_ r14 57 := nn_new z14
  have w15 : pm_wf (57, pm_sh, r14) := wf_new w14 z14
  have p15 : pt_ 48 57 r r14 _ := pt_new p14 z14 (fun j => sr_no j (by decide))
  show pm_Y b _ km_M_init 65 _ [some (pm_R 48)] [pm_R 56, pm_R 48] (57, pm_sh, r14) σ τ 8 176 _ _ _
  refine pm_putrF d_M_init_65 hp_M_31 (Or.inr ⟨_, rfl⟩) rfl ⟨_, _, rfl⟩ rfl (show 48 < 57 by decide) rfl ?_
  have z16 : nn_ (pm_upR r14 48 13 (some 56)) 57 := nn_up z15 (by decide)
  have w16 : pm_wf (57, pm_sh, pm_upR r14 48 13 (some 56)) := wf_upR w15 (by decide)
  have p16 : pt_ 48 57 r (pm_upR r14 48 13 (some 56)) _ := pt_up p15
  show pm_Y b _ km_M_init 68 true [some (pm_R 48)] [] (57, pm_sh, pm_upR r14 48 13 (some 56)) σ τ 8 176 _ _ _
  generalize pm_upR r14 48 13 (some 56) = r16 at z16 w16 p16 ⊢
  refine pm_aload_n d_M_init_68 rfl ?_
  refine pm_bipush' (nI 8) d_M_init_69 (by decide) ?_
  refine pm_newI (n := 8) d_M_init_71 hw_ints rfl rfl (by decide) (fun j => hz.2 _ j (Nat.le_of_ble_eq_true rfl)) w16 rfl rfl (Nat.le_of_ble_eq_true rfl) (Nat.le_of_ble_eq_true rfl) ?_
  have z17 : nn_ r16 58 := nn_new z16
  have w17 : pm_wf (58, pm_sh, r16) := wf_new w16 z16
  have p17 : pt_ 48 58 r r16 _ := pt_new p16 z16 (fun j => sr_no j (by decide))
  show pm_Y b _ km_M_init 73 _ [some (pm_R 48)] [pm_R 57, pm_R 48] (58, pm_sh, r16) σ τ 9 184 _ _ _
  refine pm_putrF d_M_init_73 hp_M_34 (Or.inr ⟨_, rfl⟩) rfl ⟨_, _, rfl⟩ rfl (show 48 < 58 by decide) rfl ?_
  have z18 : nn_ (pm_upR r16 48 14 (some 57)) 58 := nn_up z17 (by decide)
  have w18 : pm_wf (58, pm_sh, pm_upR r16 48 14 (some 57)) := wf_upR w17 (by decide)
  have p18 : pt_ 48 58 r (pm_upR r16 48 14 (some 57)) _ := pt_up p17
  show pm_Y b _ km_M_init 76 true [some (pm_R 48)] [] (58, pm_sh, pm_upR r16 48 14 (some 57)) σ τ 9 184 _ _ _
  generalize pm_upR r16 48 14 (some 57) = r18 at z18 w18 p18 ⊢
  refine pm_aload_n d_M_init_76 rfl ?_
  refine pm_bipush' (nI 8) d_M_init_77 (by decide) ?_
  refine pm_newI (n := 8) d_M_init_79 hw_ints rfl rfl (by decide) (fun j => hz.2 _ j (Nat.le_of_ble_eq_true rfl)) w18 rfl rfl (Nat.le_of_ble_eq_true rfl) (Nat.le_of_ble_eq_true rfl) ?_
  have z19 : nn_ r18 59 := nn_new z18
  have w19 : pm_wf (59, pm_sh, r18) := wf_new w18 z18
  have p19 : pt_ 48 59 r r18 _ := pt_new p18 z18 (fun j => sr_no j (by decide))
  show pm_Y b _ km_M_init 81 _ [some (pm_R 48)] [pm_R 58, pm_R 48] (59, pm_sh, r18) σ τ 10 192 _ _ _
  refine pm_putrF d_M_init_81 hp_M_37 (Or.inr ⟨_, rfl⟩) rfl ⟨_, _, rfl⟩ rfl (show 48 < 59 by decide) rfl ?_
  have z20 : nn_ (pm_upR r18 48 15 (some 58)) 59 := nn_up z19 (by decide)
  have w20 : pm_wf (59, pm_sh, pm_upR r18 48 15 (some 58)) := wf_upR w19 (by decide)
  have p20 : pt_ 48 59 r (pm_upR r18 48 15 (some 58)) _ := pt_up p19
  show pm_Y b _ km_M_init 84 true [some (pm_R 48)] [] (59, pm_sh, pm_upR r18 48 15 (some 58)) σ τ 10 192 _ _ _
  generalize pm_upR r18 48 15 (some 58) = r20 at z20 w20 p20 ⊢
  refine pm_aload_n d_M_init_84 rfl ?_
  refine pm_bipush' (nI 64) d_M_init_85 (by decide) ?_
  refine pm_newI (n := 64) d_M_init_87 hw_ints rfl rfl (by decide) (fun j => hz.2 _ j (Nat.le_of_ble_eq_true rfl)) w20 rfl rfl (Nat.le_of_ble_eq_true rfl) (Nat.le_of_ble_eq_true rfl) ?_
  have z21 : nn_ r20 60 := nn_new z20
  have w21 : pm_wf (60, pm_sh, r20) := wf_new w20 z20
  have p21 : pt_ 48 60 r r20 _ := pt_new p20 z20 (fun j => sr_no j (by decide))
  show pm_Y b _ km_M_init 89 _ [some (pm_R 48)] [pm_R 59, pm_R 48] (60, pm_sh, r20) σ τ 11 256 _ _ _
  refine pm_putrF d_M_init_89 hp_M_40 (Or.inr ⟨_, rfl⟩) rfl ⟨_, _, rfl⟩ rfl (show 48 < 60 by decide) rfl ?_
  have z22 : nn_ (pm_upR r20 48 16 (some 59)) 60 := nn_up z21 (by decide)
  have w22 : pm_wf (60, pm_sh, pm_upR r20 48 16 (some 59)) := wf_upR w21 (by decide)
  have p22 : pt_ 48 60 r (pm_upR r20 48 16 (some 59)) _ := pt_up p21
  show pm_Y b _ km_M_init 92 true [some (pm_R 48)] [] (60, pm_sh, pm_upR r20 48 16 (some 59)) σ τ 11 256 _ _ _
  generalize pm_upR r20 48 16 (some 59) = r22 at z22 w22 p22 ⊢
  refine pm_returnN d_M_init_92 rfl (Nat.le_refl _) (Nat.le_refl _) ⟨r22, rfl, fun i j h1 h2 => ?_, p22.1, z22, w22, rfl, rfl⟩
  rcases Nat.lt_or_ge 48 i with h3 | h3
  · exact p22.2.1 i j h3 h2
  · have e : i = 48 := by omega
    subst e
    refine (p22.2.2 j).trans ?_
    rw [sr_o48 j]
    dsimp only
    match j with
    | 0 => rfl
    | 1 => rfl
    | 2 => rfl
    | 3 => rfl
    | 4 => rfl
    | 5 => rfl
    | 6 => rfl
    | 7 => rfl
    | 8 => rfl
    | 9 => rfl
    | 10 => rfl
    | 11 => rfl
    | 12 => rfl
    | 13 => rfl
    | 14 => rfl
    | 15 => rfl
    | 16 => rfl
    | j + 17 => rw [if_neg (by omega), if_neg (by omega), if_neg (by omega), if_neg (by omega), if_neg (by omega), if_neg (by omega), if_neg (by omega), if_neg (by omega), if_neg (by omega), if_neg (by omega), if_neg (by omega), if_neg (by omega), if_neg (by omega), if_neg (by omega), if_neg (by omega), if_neg (by omega), if_neg (by omega), if_neg (by omega), if_neg (by omega), if_neg (by omega), if_neg (by omega), if_neg (by omega)]
end CT
