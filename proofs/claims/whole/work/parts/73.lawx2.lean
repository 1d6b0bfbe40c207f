/-! the law's beginning: the rest of its rules -/
section LX2
variable {b : pB} {d : Nat} {k k' : pK} {pc : Nat} {f : Bool} {lo : List (Option pV)} {st rest : List pV} {g : pG} {σ : pI} {τ : pJ} {cu su mc ms mc' ms' : Nat} {Q : Option Int32 → pI → pJ → Prop}
theorem X_dup {v : pV} (hd : decode k.2.1 pc = .ok (.dup, 1)) (hv : pm_one v = true) (K : pm_X b d k (pc + 1) f lo (v :: v :: st) g σ τ cu su mc ms Q) : pm_X b d k pc f lo (v :: st) g σ τ cu su mc ms Q := by
  intro p e R s m args below meth c H locs ls ad jk hF hR hI hL
  exact lv_dup hF.1 hF.2.1 hd (pm_v_one hv) (K _ _ _ _ _ _ _ _ _ _ _ _ _ _ hF hR hI hL)
theorem X_astore_n {j : Fin 4} {x : Nat} (hd : decode k.2.1 pc = .ok (.astore_n j, 1)) (hn : j.val < k.2.2.1) (K : pm_X b d k (pc + 1) f (lo.set j.val (some (pm_R x))) st g σ τ cu su mc ms Q) : pm_X b d k pc f lo (pm_R x :: st) g σ τ cu su mc ms Q := by
  intro p e R s m args below meth c H locs ls ad jk hF hR hI hL
  exact lv_astore_n hF.1 hF.2.1 hd rfl hL.has hn rfl (fun ls' h' => K _ _ _ _ _ _ _ _ _ _ _ ls' _ jk hF hR hI (hL.set (v := pm_R x) rfl h'))
theorem X_newL {n : Nat} {x : Int32} (hd : decode k.2.1 pc = .ok (.newarray .long, 2)) (hwd : Cond.arrayClass .long ∈ pm_words) (hs : g.2.1 g.1 = (3, n)) (hx : x = nI n) (hn : n ≤ 1000) (h0 : ∀ j, τ g.1 j = 0) (hw : pm_wf g) (hlo : lo.all (pm_lto g.1) = true) (hst : st.all (pm_lt g.1) = true) (hcu : cu + 1 ≤ mc) (hsu : su + n ≤ ms)
    (K : pm_X b d k (pc + 2) f lo (pm_R g.1 :: st) (g.1 + 1, g.2) σ τ (cu + 1) (su + n) mc ms Q) : pm_X b d k pc f lo (pm_I x :: st) g σ τ cu su mc ms Q := by
  intro p e R s m args below meth c H locs ls ad jk hF hR hI hL
  have hmc := hR.2.2.1
  have hms := hR.2.2.2
  subst hx
  refine va_newa (atype := .long) (ty := .long) (a0 := (n, .inr (.inl fun _ => 0))) (N' := n) hF.1 hF.2.1 (hF.ws _ hwd) rfl hF.K hI.1 hI.2.1.to hI.2.2.1 (fun q h => h) (fun cA => rfl) (nI_pos (by omega)) (nI_clamp (by omega)) (by show n * 8 ≤ 536870912; omega) (by omega) (by omega) hd (fun q cA H1 hK hP hD hS => ?_)
  have hcA : cA = b.2.2.2.2.1.2.2 := by
    have h1 : s.vm.findClass ("[" ++ FieldType.long.toString) = some cA := (hK.2 3 _ rfl).2
    have h2 : s.vm.findClass ("[" ++ FieldType.long.toString) = some b.2.2.2.2.1.2.2 := (hF.K.2 2 _ rfl).2
    exact Option.some.inj (h1.symm.trans h2)
  subst hcA
  have ha : ∀ i, i < g.1 → va_up ad g.1 q i = ad i := fun i hi => if_neg (Nat.ne_of_lt hi)
  have hq : va_up ad g.1 q g.1 = q := if_pos rfl
  have hpush := pm_ws_push (b := b) (σ := σ) (τ := τ) (ad' := va_up ad g.1 q) hw ha (x := .inl (b.2.2.2.2.1.2.2, n, .inr (.inl fun _ => 0))) (by
    rw [pm_ct_l (g := (g.1 + 1, g.2)) hs]
    congr 5
    funext j
    exact (h0 j).symm)
  rw [hq] at hpush
  rw [hpush] at hP hD
  have w := K p e R s m args below meth c H1 locs ls (va_up ad g.1 q) jk hF hR ⟨hP, pm_D_of (g := (g.1 + 1, g.2)) hD, hS, hI.2.2.2⟩ (pm_lt_lo ha hlo hL)
  rw [List.map_cons, pm_lt_map ha hst] at w
  have hq2 : pm_v (va_up ad g.1 q) b.2.2.2.2.2.1 jk (pm_R g.1) = .ref q := by
    show Value.ref (va_up ad g.1 q g.1) = _
    rw [hq]
  rw [hq2] at w
  exact pm_Wmono (fun t h => X_end (g' := g) h) w
end LX2
