/-! the other side: what goes -/
noncomputable def gk_ (fl : Bool) (n : Nat) (L : Nat → List Nat) (w : Nat → Nat) (la : Nat → Option Nat) (p q : Nat) : Bool := @decide (if fl = true then gs_ok n (rh_rk L) w la p q else gp_ok n (rh_rk L) w la p q) (Classical.propDecidable _)
theorem gk_s {n : Nat} {L : Nat → List Nat} {w : Nat → Nat} {la : Nat → Option Nat} {p q : Nat} : gk_ true n L w la p q = true ↔ gs_ok n (rh_rk L) w la p q := @decide_eq_true_iff _ (Classical.propDecidable _)
theorem gk_p {n : Nat} {L : Nat → List Nat} {w : Nat → Nat} {la : Nat → Option Nat} {p q : Nat} : gk_ false n L w la p q = true ↔ gp_ok n (rh_rk L) w la p q := @decide_eq_true_iff _ (Classical.propDecidable _)
/-- the first from c on for which ok holds, k steps at most -/
noncomputable def nx_ (ok : Nat → Bool) : Nat → Nat → Nat
  | 0, c => c
  | k + 1, c => if ok c = true then c else nx_ ok k (c + 1)
theorem nx_is {ok : Nat → Bool} : ∀ (k c : Nat), c ≤ nx_ ok k c ∧ nx_ ok k c ≤ c + k ∧ (∀ i, c ≤ i → i < nx_ ok k c → ok i = false) ∧ (nx_ ok k c < c + k → ok (nx_ ok k c) = true)
  | 0, c => ⟨Nat.le_refl c, Nat.le_refl c, fun i h1 h2 => by
      have h2 : i < c := h2
      omega, fun h => by
      have h : c < c + 0 := h
      omega⟩
  | k + 1, c => by
    unfold nx_
    by_cases e : ok c = true
    · rw [if_pos e]
      exact ⟨Nat.le_refl c, by omega, fun i h1 h2 => by omega, fun _ => e⟩
    · rw [if_neg e]
      obtain ⟨h1, h2, h3, h4⟩ := nx_is k (c + 1)
      refine ⟨by omega, by omega, fun i a1 a2 => ?_, fun z => h4 (by omega)⟩
      by_cases ei : i = c
      · rw [ei]; exact Bool.eq_false_iff.mpr e
      · exact h3 i (by omega) a2
/-- what forgetting p leaves of the record -/
def fg_ (fl : Bool) (ch : Option Nat) (w : Nat → Nat) (la : Nat → Option Nat) (p : Nat) : Nat → Option Nat := match ch with
  | none => la
  | some _ => if fl = true then (if w p < p then la else gw_up (gw_up la (w p) none) p none) else gw_up la (w p) none
theorem mt_up {n h : Nat} {la : Nat → Option Nat} {σ : pI} {p : Nat} {v : Option Nat} (hT : mt_ n h la σ) : mt_ n h (gw_up la p v) (pm_up σ h p (oI v)) := by
  intro x hx
  by_cases e : x = p
  · subst e; rw [gw_up_self, pm_up_at]
  · rw [gw_up_ne _ _ e, pm_up_ne (by omega)]; exact hT x hx
section M4
variable {b : pB} {g : pG} {σ : pI} {τ : pJ} {d n p q i j h a c o x y : Nat} {L : Nat → List Nat} {w : Nat → Nat} {la ch : Nat → Option Nat}
theorem l_M_goes_1 (hg : pm_gok 61 g) (hB : pm_base b) (hw : rh_wf n L) (h1 : σ 48 1 = nI n) (hR : mr_ n L σ) (hT : mt_ n 57 la σ) (hb : ∀ x y, la x = some y → y < n) (hW : ∀ r, r < p → σ 56 r = nI (w r)) (hwn : ∀ r, r < p → w r < n) (hp : p < n) (hq : q < n) (c13 : rn_ (rh_rk L p q) ≤ 50) : pm_Y b (d + 1) km_M_goes 24 false [some (pm_R 48), some (pm_I (nI p)), some (pm_I (nI q)), some (pm_I (nI 1)), some (pm_I (nI 1)), some (pm_I (nI 0))] [] g σ τ 0 0 0 0 (pm_Rd (bI (gk_ true n L w la p q)) σ τ) := by
  have h8 := hw.1
  have r1 := rk_9 hw p q
  have s1 := rn_99 (rh_rk L p q)
  have r2 := rk_9 hw q p
  have s2 := rn_99 (rh_rk L q p)
  refine pm_for p (fun r (a : Bool) => pm_Y b (d + 1) km_M_goes 24 false [some (pm_R 48), some (pm_I (nI p)), some (pm_I (nI q)), some (pm_I (nI 1)), some (pm_I (bI a)), some (pm_I (nI r))] [] g σ τ 0 0 0 0 (pm_Rd (bI (gk_ true n L w la p q)) σ τ)) (fun k a => (a = true ↔ ∀ x, x < k → ((w x = p ↔ q = x) ∧ (w x ≠ q ∨ x = q)))) (fun r a hr hI ih => ?_) (fun a hI => ?_) p 0 true (by omega) ⟨fun _ x hx => absurd hx (Nat.not_lt_zero x), fun _ => rfl⟩
  · have r3 := rk_9 hw p r
    have s3 := rn_99 (rh_rk L p r)
    have w1 := hwn r hr
    refine pm_iload d_M_goes_24 rfl ?_
    refine pm_iload_n d_M_goes_26 rfl ?_
    refine pm_icmp_ge_f 166 d_M_goes_27 rfl (by rw [nI_leI (by omega) (by omega)]; omega) ?_
    refine pm_iload d_M_goes_30 rfl ?_
    refine pm_if_eqB 104 d_M_goes_32 rfl (fun c32 => ?_) (fun c32 => ?_)
    · refine pm_iconst' (nI 0) d_M_goes_104 (by decide) ?_
      refine pm_istore d_M_goes_105 (by decide) ?_
      refine pm_iload d_M_goes_107 rfl ?_
      refine pm_if_eq_t 157 d_M_goes_109 rfl (by decide) ?_
      refine pm_iconst' (nI 0) d_M_goes_157 (by decide) ?_
      refine pm_istore d_M_goes_158 (by decide) ?_
      refine pm_iinc' (nI (r + 1)) d_M_goes_160 (by decide) rfl (pm_inc _) ?_
      refine pm_goto 24 d_M_goes_163 rfl ?_
      -- at 24: lo=[some (pm_R 48), some (pm_I (nI p)), some (pm_I (nI q)), some (pm_I (nI 1)), some (pm_I (nI 0)), some (pm_I (nI (r + 1)))] st=[]
      exact ih false (al_f hI (by
        first
          | exact Or.inl c32
          | exact Or.inr (fun z => by
              have z : ((w r = p ↔ q = r) ∧ (w r ≠ q ∨ r = q)) := z
              omega)))
    · refine pm_iload_n d_M_goes_35 rfl ?_
      refine pm_if_eq_f 89 d_M_goes_36 rfl (by decide) ?_
      refine pm_aload_n d_M_goes_39 rfl ?_
      refine pm_getr d_M_goes_40 hf_M_31 (hg.s rfl) (hg.i (by decide)) rfl (hg.r (by decide) rfl) ?_
      refine pm_iload d_M_goes_43 rfl ?_
      refine pm_iaload' r (nI (w r)) d_M_goes_45 (hg.s rfl) (hg.i (by decide)) rfl (by omega) (by decide) (hW r hr) ?_
      refine pm_iload_n d_M_goes_46 rfl ?_
      refine pm_icmp_neN 54 d_M_goes_47 rfl (by omega) (by omega) (fun c47 => ?_) (fun c47 => ?_)
      · refine pm_iconst' (nI 0) d_M_goes_54 (by decide) ?_
        refine pm_iload_n d_M_goes_55 rfl ?_
        refine pm_iload d_M_goes_56 rfl ?_
        refine pm_icmp_neN 65 d_M_goes_58 rfl (by omega) (by omega) (fun c58 => ?_) (fun c58 => ?_)
        · refine pm_iconst' (nI 0) d_M_goes_65 (by decide) ?_
          refine pm_icmp_ne_f 104 d_M_goes_66 rfl (by decide) ?_
          refine pm_aload_n d_M_goes_69 rfl ?_
          refine pm_getr d_M_goes_70 hf_M_31 (hg.s rfl) (hg.i (by decide)) rfl (hg.r (by decide) rfl) ?_
          refine pm_iload d_M_goes_73 rfl ?_
          refine pm_iaload' r (nI (w r)) d_M_goes_75 (hg.s rfl) (hg.i (by decide)) rfl (by omega) (by decide) (hW r hr) ?_
          refine pm_iload_n d_M_goes_76 rfl ?_
          refine pm_icmp_neN 100 d_M_goes_77 rfl (by omega) (by omega) (fun c77 => ?_) (fun c77 => ?_)
          · refine pm_iconst' (nI 1) d_M_goes_100 (by decide) ?_
            refine pm_goto 105 d_M_goes_101 rfl ?_
            refine pm_istore d_M_goes_105 (by decide) ?_
            refine pm_iload d_M_goes_107 rfl ?_
            refine pm_if_eq_f 157 d_M_goes_109 rfl (by decide) ?_
            refine pm_iload_n d_M_goes_112 rfl ?_
            refine pm_if_ne_t 153 d_M_goes_113 rfl (by decide) ?_
            refine pm_iconst' (nI 1) d_M_goes_153 (by decide) ?_
            refine pm_goto 158 d_M_goes_154 rfl ?_
            refine pm_istore d_M_goes_158 (by decide) ?_
            refine pm_iinc' (nI (r + 1)) d_M_goes_160 (by decide) rfl (pm_inc _) ?_
            refine pm_goto 24 d_M_goes_163 rfl ?_
            -- at 24: lo=[some (pm_R 48), some (pm_I (nI p)), some (pm_I (nI q)), some (pm_I (nI 1)), some (pm_I (nI 1)), some (pm_I (nI (r + 1)))] st=[]
            exact ih true (al_t hI c32 (by
              show ((w r = p ↔ q = r) ∧ (w r ≠ q ∨ r = q))
              omega))
          · refine pm_iload d_M_goes_80 rfl ?_
            refine pm_iload_n d_M_goes_82 rfl ?_
            refine pm_icmp_neN 104 d_M_goes_83 rfl (by omega) (by omega) (fun c83 => ?_) (fun c83 => ?_)
            · refine pm_iconst' (nI 0) d_M_goes_104 (by decide) ?_
              refine pm_istore d_M_goes_105 (by decide) ?_
              refine pm_iload d_M_goes_107 rfl ?_
              refine pm_if_eq_t 157 d_M_goes_109 rfl (by decide) ?_
              refine pm_iconst' (nI 0) d_M_goes_157 (by decide) ?_
              refine pm_istore d_M_goes_158 (by decide) ?_
              refine pm_iinc' (nI (r + 1)) d_M_goes_160 (by decide) rfl (pm_inc _) ?_
              refine pm_goto 24 d_M_goes_163 rfl ?_
              -- at 24: lo=[some (pm_R 48), some (pm_I (nI p)), some (pm_I (nI q)), some (pm_I (nI 1)), some (pm_I (nI 0)), some (pm_I (nI (r + 1)))] st=[]
              exact ih false (al_f hI (by
                first
                  | exact Or.inl c32
                  | exact Or.inr (fun z => by
                      have z : ((w r = p ↔ q = r) ∧ (w r ≠ q ∨ r = q)) := z
                      omega)))
            · refine pm_goto 100 d_M_goes_86 rfl ?_
              refine pm_iconst' (nI 1) d_M_goes_100 (by decide) ?_
              refine pm_goto 105 d_M_goes_101 rfl ?_
              refine pm_istore d_M_goes_105 (by decide) ?_
              refine pm_iload d_M_goes_107 rfl ?_
              refine pm_if_eq_f 157 d_M_goes_109 rfl (by decide) ?_
              refine pm_iload_n d_M_goes_112 rfl ?_
              refine pm_if_ne_t 153 d_M_goes_113 rfl (by decide) ?_
              refine pm_iconst' (nI 1) d_M_goes_153 (by decide) ?_
              refine pm_goto 158 d_M_goes_154 rfl ?_
              refine pm_istore d_M_goes_158 (by decide) ?_
              refine pm_iinc' (nI (r + 1)) d_M_goes_160 (by decide) rfl (pm_inc _) ?_
              refine pm_goto 24 d_M_goes_163 rfl ?_
              -- at 24: lo=[some (pm_R 48), some (pm_I (nI p)), some (pm_I (nI q)), some (pm_I (nI 1)), some (pm_I (nI 1)), some (pm_I (nI (r + 1)))] st=[]
              exact ih true (al_t hI c32 (by
                show ((w r = p ↔ q = r) ∧ (w r ≠ q ∨ r = q))
                omega))
        · refine pm_iconst' (nI 1) d_M_goes_61 (by decide) ?_
          refine pm_goto 66 d_M_goes_62 rfl ?_
          refine pm_icmp_ne_t 104 d_M_goes_66 rfl (by decide) ?_
          refine pm_iconst' (nI 0) d_M_goes_104 (by decide) ?_
          refine pm_istore d_M_goes_105 (by decide) ?_
          refine pm_iload d_M_goes_107 rfl ?_
          refine pm_if_eq_t 157 d_M_goes_109 rfl (by decide) ?_
          refine pm_iconst' (nI 0) d_M_goes_157 (by decide) ?_
          refine pm_istore d_M_goes_158 (by decide) ?_
          refine pm_iinc' (nI (r + 1)) d_M_goes_160 (by decide) rfl (pm_inc _) ?_
          refine pm_goto 24 d_M_goes_163 rfl ?_
          -- at 24: lo=[some (pm_R 48), some (pm_I (nI p)), some (pm_I (nI q)), some (pm_I (nI 1)), some (pm_I (nI 0)), some (pm_I (nI (r + 1)))] st=[]
          exact ih false (al_f hI (by
            first
              | exact Or.inl c32
              | exact Or.inr (fun z => by
                  have z : ((w r = p ↔ q = r) ∧ (w r ≠ q ∨ r = q)) := z
                  omega)))
      · refine pm_iconst' (nI 1) d_M_goes_50 (by decide) ?_
        refine pm_goto 55 d_M_goes_51 rfl ?_
        refine pm_iload_n d_M_goes_55 rfl ?_
        refine pm_iload d_M_goes_56 rfl ?_
        refine pm_icmp_neN 65 d_M_goes_58 rfl (by omega) (by omega) (fun c58 => ?_) (fun c58 => ?_)
        · refine pm_iconst' (nI 0) d_M_goes_65 (by decide) ?_
          refine pm_icmp_ne_t 104 d_M_goes_66 rfl (by decide) ?_
          refine pm_iconst' (nI 0) d_M_goes_104 (by decide) ?_
          refine pm_istore d_M_goes_105 (by decide) ?_
          refine pm_iload d_M_goes_107 rfl ?_
          refine pm_if_eq_t 157 d_M_goes_109 rfl (by decide) ?_
          refine pm_iconst' (nI 0) d_M_goes_157 (by decide) ?_
          refine pm_istore d_M_goes_158 (by decide) ?_
          refine pm_iinc' (nI (r + 1)) d_M_goes_160 (by decide) rfl (pm_inc _) ?_
          refine pm_goto 24 d_M_goes_163 rfl ?_
          -- at 24: lo=[some (pm_R 48), some (pm_I (nI p)), some (pm_I (nI q)), some (pm_I (nI 1)), some (pm_I (nI 0)), some (pm_I (nI (r + 1)))] st=[]
          exact ih false (al_f hI (by
            first
              | exact Or.inl c32
              | exact Or.inr (fun z => by
                  have z : ((w r = p ↔ q = r) ∧ (w r ≠ q ∨ r = q)) := z
                  omega)))
        · refine pm_iconst' (nI 1) d_M_goes_61 (by decide) ?_
          refine pm_goto 66 d_M_goes_62 rfl ?_
          refine pm_icmp_ne_f 104 d_M_goes_66 rfl (by decide) ?_
          refine pm_aload_n d_M_goes_69 rfl ?_
          refine pm_getr d_M_goes_70 hf_M_31 (hg.s rfl) (hg.i (by decide)) rfl (hg.r (by decide) rfl) ?_
          refine pm_iload d_M_goes_73 rfl ?_
          refine pm_iaload' r (nI (w r)) d_M_goes_75 (hg.s rfl) (hg.i (by decide)) rfl (by omega) (by decide) (hW r hr) ?_
          refine pm_iload_n d_M_goes_76 rfl ?_
          refine pm_icmp_neN 100 d_M_goes_77 rfl (by omega) (by omega) (fun c77 => ?_) (fun c77 => ?_)
          · refine pm_iconst' (nI 1) d_M_goes_100 (by decide) ?_
            refine pm_goto 105 d_M_goes_101 rfl ?_
            refine pm_istore d_M_goes_105 (by decide) ?_
            refine pm_iload d_M_goes_107 rfl ?_
            refine pm_if_eq_f 157 d_M_goes_109 rfl (by decide) ?_
            refine pm_iload_n d_M_goes_112 rfl ?_
            refine pm_if_ne_t 153 d_M_goes_113 rfl (by decide) ?_
            refine pm_iconst' (nI 1) d_M_goes_153 (by decide) ?_
            refine pm_goto 158 d_M_goes_154 rfl ?_
            refine pm_istore d_M_goes_158 (by decide) ?_
            refine pm_iinc' (nI (r + 1)) d_M_goes_160 (by decide) rfl (pm_inc _) ?_
            refine pm_goto 24 d_M_goes_163 rfl ?_
            -- at 24: lo=[some (pm_R 48), some (pm_I (nI p)), some (pm_I (nI q)), some (pm_I (nI 1)), some (pm_I (nI 1)), some (pm_I (nI (r + 1)))] st=[]
            exact ih true (al_t hI c32 (by
              show ((w r = p ↔ q = r) ∧ (w r ≠ q ∨ r = q))
              omega))
          · refine pm_iload d_M_goes_80 rfl ?_
            refine pm_iload_n d_M_goes_82 rfl ?_
            refine pm_icmp_neN 104 d_M_goes_83 rfl (by omega) (by omega) (fun c83 => ?_) (fun c83 => ?_)
            · refine pm_iconst' (nI 0) d_M_goes_104 (by decide) ?_
              refine pm_istore d_M_goes_105 (by decide) ?_
              refine pm_iload d_M_goes_107 rfl ?_
              refine pm_if_eq_t 157 d_M_goes_109 rfl (by decide) ?_
              refine pm_iconst' (nI 0) d_M_goes_157 (by decide) ?_
              refine pm_istore d_M_goes_158 (by decide) ?_
              refine pm_iinc' (nI (r + 1)) d_M_goes_160 (by decide) rfl (pm_inc _) ?_
              refine pm_goto 24 d_M_goes_163 rfl ?_
              -- at 24: lo=[some (pm_R 48), some (pm_I (nI p)), some (pm_I (nI q)), some (pm_I (nI 1)), some (pm_I (nI 0)), some (pm_I (nI (r + 1)))] st=[]
              exact ih false (al_f hI (by
                first
                  | exact Or.inl c32
                  | exact Or.inr (fun z => by
                      have z : ((w r = p ↔ q = r) ∧ (w r ≠ q ∨ r = q)) := z
                      omega)))
            · refine pm_goto 100 d_M_goes_86 rfl ?_
              refine pm_iconst' (nI 1) d_M_goes_100 (by decide) ?_
              refine pm_goto 105 d_M_goes_101 rfl ?_
              refine pm_istore d_M_goes_105 (by decide) ?_
              refine pm_iload d_M_goes_107 rfl ?_
              refine pm_if_eq_f 157 d_M_goes_109 rfl (by decide) ?_
              refine pm_iload_n d_M_goes_112 rfl ?_
              refine pm_if_ne_t 153 d_M_goes_113 rfl (by decide) ?_
              refine pm_iconst' (nI 1) d_M_goes_153 (by decide) ?_
              refine pm_goto 158 d_M_goes_154 rfl ?_
              refine pm_istore d_M_goes_158 (by decide) ?_
              refine pm_iinc' (nI (r + 1)) d_M_goes_160 (by decide) rfl (pm_inc _) ?_
              refine pm_goto 24 d_M_goes_163 rfl ?_
              -- at 24: lo=[some (pm_R 48), some (pm_I (nI p)), some (pm_I (nI q)), some (pm_I (nI 1)), some (pm_I (nI 1)), some (pm_I (nI (r + 1)))] st=[]
              exact ih true (al_t hI c32 (by
                show ((w r = p ↔ q = r) ∧ (w r ≠ q ∨ r = q))
                omega))
  · skip
    refine pm_iload d_M_goes_24 rfl ?_
    refine pm_iload_n d_M_goes_26 rfl ?_
    refine pm_icmp_ge_t 166 d_M_goes_27 rfl (by rw [nI_leI (by omega) (by omega)]; omega) ?_
    refine pm_iload d_M_goes_166 rfl ?_
    refine pm_if_eqB 214 d_M_goes_168 rfl (fun c168 => ?_) (fun c168 => ?_)
    · refine pm_iconst' (nI 0) d_M_goes_214 (by decide) ?_
      refine pm_istore d_M_goes_215 (by decide) ?_
      refine pm_iload d_M_goes_217 rfl ?_
      refine pm_if_eq_t 248 d_M_goes_219 rfl (by decide) ?_
      refine pm_iconst' (nI 0) d_M_goes_248 (by decide) ?_
      exact pm_zreturn d_M_goes_249 rfl (Or.inl rfl) (fun h => h) (Nat.le_refl _) (Nat.le_refl _) ⟨congrArg some (congrArg bI (Bool.eq_false_iff.mpr (fun z => by
      have z := gk_s.mp z
      first
        | (rw [gy_iff.mpr z.2.2.2] at c241; cases c241)
        | (rw [gy_iff.mpr z.2.2.1] at c228; cases c228)
        | (rw [hI.mpr z.2.1] at c168; cases c168)))).symm, rfl, rfl⟩
    · refine pm_iload_n d_M_goes_171 rfl ?_
      refine pm_if_ne_t 210 d_M_goes_172 rfl (by decide) ?_
      refine pm_iconst' (nI 1) d_M_goes_210 (by decide) ?_
      refine pm_goto 215 d_M_goes_211 rfl ?_
      refine pm_istore d_M_goes_215 (by decide) ?_
      refine pm_iload d_M_goes_217 rfl ?_
      refine pm_if_eq_f 248 d_M_goes_219 rfl (by decide) ?_
      refine pm_aload_n d_M_goes_222 rfl ?_
      refine pm_iload_n d_M_goes_223 rfl ?_
      refine pm_iload_n d_M_goes_224 rfl ?_
      refine pm_callR (i := 48) (ci := 5) (rest := []) [pm_I (nI q), pm_I (nI p)] hB d_M_goes_225 hc_M_98 (k_M_mayStay hg hB hw h1 hR hT hb hq hp) (hg.s rfl) (hg.i (by decide)) rfl rfl rfl rfl (Nat.le_of_ble_eq_true rfl) (Nat.le_of_ble_eq_true rfl) (by omega) (by omega) ?_
      refine pm_if_eqB 248 d_M_goes_228 rfl (fun c228 => ?_) (fun c228 => ?_)
      · refine pm_iconst' (nI 0) d_M_goes_248 (by decide) ?_
        exact pm_zreturn d_M_goes_249 rfl (Or.inl rfl) (fun h => h) (Nat.le_refl _) (Nat.le_refl _) ⟨congrArg some (congrArg bI (Bool.eq_false_iff.mpr (fun z => by
      have z := gk_s.mp z
      first
        | (rw [gy_iff.mpr z.2.2.2] at c241; cases c241)
        | (rw [gy_iff.mpr z.2.2.1] at c228; cases c228)
        | (rw [hI.mpr z.2.1] at c168; cases c168)))).symm, rfl, rfl⟩
      · refine pm_iload_n d_M_goes_231 rfl ?_
        refine pm_if_eq_f 244 d_M_goes_232 rfl (by decide) ?_
        refine pm_aload_n d_M_goes_235 rfl ?_
        refine pm_iload_n d_M_goes_236 rfl ?_
        refine pm_iload_n d_M_goes_237 rfl ?_
        refine pm_callR (i := 48) (ci := 5) (rest := []) [pm_I (nI p), pm_I (nI q)] hB d_M_goes_238 hc_M_98 (k_M_mayStay hg hB hw h1 hR hT hb hp hq) (hg.s rfl) (hg.i (by decide)) rfl rfl rfl rfl (Nat.le_of_ble_eq_true rfl) (Nat.le_of_ble_eq_true rfl) (by omega) (by omega) ?_
        refine pm_if_eqB 248 d_M_goes_241 rfl (fun c241 => ?_) (fun c241 => ?_)
        · refine pm_iconst' (nI 0) d_M_goes_248 (by decide) ?_
          exact pm_zreturn d_M_goes_249 rfl (Or.inl rfl) (fun h => h) (Nat.le_refl _) (Nat.le_refl _) ⟨congrArg some (congrArg bI (Bool.eq_false_iff.mpr (fun z => by
      have z := gk_s.mp z
      first
        | (rw [gy_iff.mpr z.2.2.2] at c241; cases c241)
        | (rw [gy_iff.mpr z.2.2.1] at c228; cases c228)
        | (rw [hI.mpr z.2.1] at c168; cases c168)))).symm, rfl, rfl⟩
        · refine pm_iconst' (nI 1) d_M_goes_244 (by decide) ?_
          refine pm_goto 249 d_M_goes_245 rfl ?_
          exact pm_zreturn d_M_goes_249 rfl (Or.inr rfl) (fun h => h) (Nat.le_refl _) (Nat.le_refl _) ⟨congrArg some (congrArg bI (gk_s.mpr ⟨rn_le50.mp c13, hI.mp c168, gy_iff.mp c228, gy_iff.mp c241⟩)).symm, rfl, rfl⟩
theorem k_M_goes_1 (hg : pm_gok 61 g) (hB : pm_base b) (hw : rh_wf n L) (h1 : σ 48 1 = nI n) (hR : mr_ n L σ) (hT : mt_ n 57 la σ) (hb : ∀ x y, la x = some y → y < n) (hW : ∀ r, r < p → σ 56 r = nI (w r)) (hwn : ∀ r, r < p → w r < n) (hp : p < n) (hq : q < n) : pm_C b (d + 1) km_M_goes [pm_R 48, pm_I (nI p), pm_I (nI q), pm_I (nI 1)] g σ τ 0 0 (pm_Rd (bI (gk_ true n L w la p q)) σ τ) := by
  have h8 := hw.1
  have r1 := rk_9 hw p q
  have s1 := rn_99 (rh_rk L p q)
  have r2 := rk_9 hw q p
  have s2 := rn_99 (rh_rk L q p)
  have K : rn_ (rh_rk L p q) ≤ 50 → pm_Y b (d + 1) km_M_goes 24 false [some (pm_R 48), some (pm_I (nI p)), some (pm_I (nI q)), some (pm_I (nI 1)), some (pm_I (nI 1)), some (pm_I (nI 0))] [] g σ τ 0 0 0 0 (pm_Rd (bI (gk_ true n L w la p q)) σ τ) := fun c13 => l_M_goes_1 hg hB hw h1 hR hT hb hW hwn hp hq c13
  show pm_Y b (d + 1) km_M_goes 0 false [some (pm_R 48), some (pm_I (nI p)), some (pm_I (nI q)), some (pm_I (nI 1)), none, none] [] g σ τ 0 0 0 0 _
  refine pm_aload_n d_M_goes_0 rfl ?_
  refine pm_getr d_M_goes_1 hf_M_40 (hg.s rfl) (hg.i (by decide)) rfl (hg.r (by decide) rfl) ?_
  refine pm_bipush' (nI 8) d_M_goes_4 (by decide) ?_
  refine pm_iload_n d_M_goes_6 rfl ?_
  refine pm_imulN d_M_goes_7 ?_
  refine pm_iload_n d_M_goes_8 rfl ?_
  refine pm_iaddN d_M_goes_9 ?_
  refine pm_iaload' ((8 * p) + q) (nI (rn_ (rh_rk L p q))) d_M_goes_10 (hg.s rfl) (hg.i (by decide)) rfl (by omega) (by decide) (hR p q hp hq) ?_
  refine pm_bipush' (nI 50) d_M_goes_11 (by decide) ?_
  refine pm_icmp_leN 18 d_M_goes_13 rfl (by omega) (by omega) (fun c13 => ?_) (fun c13 => ?_)
  · refine pm_iconst' (nI 1) d_M_goes_18 (by decide) ?_
    refine pm_istore d_M_goes_19 (by decide) ?_
    refine pm_iconst' (nI 0) d_M_goes_21 (by decide) ?_
    refine pm_istore d_M_goes_22 (by decide) ?_
    -- at 24: lo=[some (pm_R 48), some (pm_I (nI p)), some (pm_I (nI q)), some (pm_I (nI 1)), some (pm_I (nI 1)), some (pm_I (nI 0))] st=[]
    exact K c13
  · refine pm_iconst' (nI 0) d_M_goes_16 (by decide) ?_
    exact pm_zreturn d_M_goes_17 rfl (Or.inl rfl) (fun h => h) (Nat.le_refl _) (Nat.le_refl _) ⟨congrArg some (congrArg bI (Bool.eq_false_iff.mpr (fun z => by
      have z := (gk_s.mp z).1
      have := rn_le50.mpr z
      omega))).symm, rfl, rfl⟩
theorem l_M_goes_0 (hg : pm_gok 61 g) (hB : pm_base b) (hw : rh_wf n L) (h1 : σ 48 1 = nI n) (hR : mr_ n L σ) (hT : mt_ n 57 la σ) (hb : ∀ x y, la x = some y → y < n) (hW : ∀ r, r < p → σ 56 r = nI (w r)) (hwn : ∀ r, r < p → w r < n) (hp : p < n) (hq : q < n) (c13 : rn_ (rh_rk L p q) ≤ 50) : pm_Y b (d + 1) km_M_goes 24 false [some (pm_R 48), some (pm_I (nI p)), some (pm_I (nI q)), some (pm_I (nI 0)), some (pm_I (nI 1)), some (pm_I (nI 0))] [] g σ τ 0 0 0 0 (pm_Rd (bI (gk_ false n L w la p q)) σ τ) := by
  have h8 := hw.1
  have r1 := rk_9 hw p q
  have s1 := rn_99 (rh_rk L p q)
  have r2 := rk_9 hw q p
  have s2 := rn_99 (rh_rk L q p)
  refine pm_for p (fun r (a : Bool) => pm_Y b (d + 1) km_M_goes 24 false [some (pm_R 48), some (pm_I (nI p)), some (pm_I (nI q)), some (pm_I (nI 0)), some (pm_I (bI a)), some (pm_I (nI r))] [] g σ τ 0 0 0 0 (pm_Rd (bI (gk_ false n L w la p q)) σ τ)) (fun k a => (a = true ↔ ∀ x, x < k → (w x ≠ q ∧ (w x ≠ p ∨ rh_rk L p q ≤ rh_rk L p x)))) (fun r a hr hI ih => ?_) (fun a hI => ?_) p 0 true (by omega) ⟨fun _ x hx => absurd hx (Nat.not_lt_zero x), fun _ => rfl⟩
  · have r3 := rk_9 hw p r
    have s3 := rn_99 (rh_rk L p r)
    have w1 := hwn r hr
    refine pm_iload d_M_goes_24 rfl ?_
    refine pm_iload_n d_M_goes_26 rfl ?_
    refine pm_icmp_ge_f 166 d_M_goes_27 rfl (by rw [nI_leI (by omega) (by omega)]; omega) ?_
    refine pm_iload d_M_goes_30 rfl ?_
    refine pm_if_eqB 104 d_M_goes_32 rfl (fun c32 => ?_) (fun c32 => ?_)
    · refine pm_iconst' (nI 0) d_M_goes_104 (by decide) ?_
      refine pm_istore d_M_goes_105 (by decide) ?_
      refine pm_iload d_M_goes_107 rfl ?_
      refine pm_if_eq_t 157 d_M_goes_109 rfl (by decide) ?_
      refine pm_iconst' (nI 0) d_M_goes_157 (by decide) ?_
      refine pm_istore d_M_goes_158 (by decide) ?_
      refine pm_iinc' (nI (r + 1)) d_M_goes_160 (by decide) rfl (pm_inc _) ?_
      refine pm_goto 24 d_M_goes_163 rfl ?_
      -- at 24: lo=[some (pm_R 48), some (pm_I (nI p)), some (pm_I (nI q)), some (pm_I (nI 0)), some (pm_I (nI 0)), some (pm_I (nI (r + 1)))] st=[]
      exact ih false (al_f hI (by
        first
          | exact Or.inl c32
          | exact Or.inr (fun z => by
              have z : (w r ≠ q ∧ (w r ≠ p ∨ rh_rk L p q ≤ rh_rk L p r)) := z
              first
                | exact z.1 c97
                | (rcases z.2 with z2 | z2
                   · exact z2 c124
                   · have := (rn_lt r3 r1).mp c150
                     omega))))
    · refine pm_iload_n d_M_goes_35 rfl ?_
      refine pm_if_eq_t 89 d_M_goes_36 rfl (by decide) ?_
      refine pm_aload_n d_M_goes_89 rfl ?_
      refine pm_getr d_M_goes_90 hf_M_31 (hg.s rfl) (hg.i (by decide)) rfl (hg.r (by decide) rfl) ?_
      refine pm_iload d_M_goes_93 rfl ?_
      refine pm_iaload' r (nI (w r)) d_M_goes_95 (hg.s rfl) (hg.i (by decide)) rfl (by omega) (by decide) (hW r hr) ?_
      refine pm_iload_n d_M_goes_96 rfl ?_
      refine pm_icmp_eqN 104 d_M_goes_97 rfl (by omega) (by omega) (fun c97 => ?_) (fun c97 => ?_)
      · refine pm_iconst' (nI 0) d_M_goes_104 (by decide) ?_
        refine pm_istore d_M_goes_105 (by decide) ?_
        refine pm_iload d_M_goes_107 rfl ?_
        refine pm_if_eq_t 157 d_M_goes_109 rfl (by decide) ?_
        refine pm_iconst' (nI 0) d_M_goes_157 (by decide) ?_
        refine pm_istore d_M_goes_158 (by decide) ?_
        refine pm_iinc' (nI (r + 1)) d_M_goes_160 (by decide) rfl (pm_inc _) ?_
        refine pm_goto 24 d_M_goes_163 rfl ?_
        -- at 24: lo=[some (pm_R 48), some (pm_I (nI p)), some (pm_I (nI q)), some (pm_I (nI 0)), some (pm_I (nI 0)), some (pm_I (nI (r + 1)))] st=[]
        exact ih false (al_f hI (by
          first
            | exact Or.inl c32
            | exact Or.inr (fun z => by
                have z : (w r ≠ q ∧ (w r ≠ p ∨ rh_rk L p q ≤ rh_rk L p r)) := z
                first
                  | exact z.1 c97
                  | (rcases z.2 with z2 | z2
                     · exact z2 c124
                     · have := (rn_lt r3 r1).mp c150
                       omega))))
      · refine pm_iconst' (nI 1) d_M_goes_100 (by decide) ?_
        refine pm_goto 105 d_M_goes_101 rfl ?_
        refine pm_istore d_M_goes_105 (by decide) ?_
        refine pm_iload d_M_goes_107 rfl ?_
        refine pm_if_eq_f 157 d_M_goes_109 rfl (by decide) ?_
        refine pm_iload_n d_M_goes_112 rfl ?_
        refine pm_if_ne_f 153 d_M_goes_113 rfl (by decide) ?_
        refine pm_aload_n d_M_goes_116 rfl ?_
        refine pm_getr d_M_goes_117 hf_M_31 (hg.s rfl) (hg.i (by decide)) rfl (hg.r (by decide) rfl) ?_
        refine pm_iload d_M_goes_120 rfl ?_
        refine pm_iaload' r (nI (w r)) d_M_goes_122 (hg.s rfl) (hg.i (by decide)) rfl (by omega) (by decide) (hW r hr) ?_
        refine pm_iload_n d_M_goes_123 rfl ?_
        refine pm_icmp_neN 153 d_M_goes_124 rfl (by omega) (by omega) (fun c124 => ?_) (fun c124 => ?_)
        · refine pm_iconst' (nI 1) d_M_goes_153 (by decide) ?_
          refine pm_goto 158 d_M_goes_154 rfl ?_
          refine pm_istore d_M_goes_158 (by decide) ?_
          refine pm_iinc' (nI (r + 1)) d_M_goes_160 (by decide) rfl (pm_inc _) ?_
          refine pm_goto 24 d_M_goes_163 rfl ?_
          -- at 24: lo=[some (pm_R 48), some (pm_I (nI p)), some (pm_I (nI q)), some (pm_I (nI 0)), some (pm_I (nI 1)), some (pm_I (nI (r + 1)))] st=[]
          exact ih true (al_t hI c32 (by
            show (w r ≠ q ∧ (w r ≠ p ∨ rh_rk L p q ≤ rh_rk L p r))
            refine ⟨c97, ?_⟩
            first
              | exact Or.inl c124
              | exact Or.inr (Nat.le_of_not_lt (fun z => by have := (rn_lt r3 r1).mpr z; omega))))
        · refine pm_aload_n d_M_goes_127 rfl ?_
          refine pm_getr d_M_goes_128 hf_M_40 (hg.s rfl) (hg.i (by decide)) rfl (hg.r (by decide) rfl) ?_
          refine pm_bipush' (nI 8) d_M_goes_131 (by decide) ?_
          refine pm_iload_n d_M_goes_133 rfl ?_
          refine pm_imulN d_M_goes_134 ?_
          refine pm_iload d_M_goes_135 rfl ?_
          refine pm_iaddN d_M_goes_137 ?_
          refine pm_iaload' ((8 * p) + r) (nI (rn_ (rh_rk L p r))) d_M_goes_138 (hg.s rfl) (hg.i (by decide)) rfl (by omega) (by decide) (hR p r hp (by omega)) ?_
          refine pm_aload_n d_M_goes_139 rfl ?_
          refine pm_getr d_M_goes_140 hf_M_40 (hg.s rfl) (hg.i (by decide)) rfl (hg.r (by decide) rfl) ?_
          refine pm_bipush' (nI 8) d_M_goes_143 (by decide) ?_
          refine pm_iload_n d_M_goes_145 rfl ?_
          refine pm_imulN d_M_goes_146 ?_
          refine pm_iload_n d_M_goes_147 rfl ?_
          refine pm_iaddN d_M_goes_148 ?_
          refine pm_iaload' ((8 * p) + q) (nI (rn_ (rh_rk L p q))) d_M_goes_149 (hg.s rfl) (hg.i (by decide)) rfl (by omega) (by decide) (hR p q hp hq) ?_
          refine pm_icmp_ltN 157 d_M_goes_150 rfl (by omega) (by omega) (fun c150 => ?_) (fun c150 => ?_)
          · refine pm_iconst' (nI 0) d_M_goes_157 (by decide) ?_
            refine pm_istore d_M_goes_158 (by decide) ?_
            refine pm_iinc' (nI (r + 1)) d_M_goes_160 (by decide) rfl (pm_inc _) ?_
            refine pm_goto 24 d_M_goes_163 rfl ?_
            -- at 24: lo=[some (pm_R 48), some (pm_I (nI p)), some (pm_I (nI q)), some (pm_I (nI 0)), some (pm_I (nI 0)), some (pm_I (nI (r + 1)))] st=[]
            exact ih false (al_f hI (by
              first
                | exact Or.inl c32
                | exact Or.inr (fun z => by
                    have z : (w r ≠ q ∧ (w r ≠ p ∨ rh_rk L p q ≤ rh_rk L p r)) := z
                    first
                      | exact z.1 c97
                      | (rcases z.2 with z2 | z2
                         · exact z2 c124
                         · have := (rn_lt r3 r1).mp c150
                           omega))))
          · refine pm_iconst' (nI 1) d_M_goes_153 (by decide) ?_
            refine pm_goto 158 d_M_goes_154 rfl ?_
            refine pm_istore d_M_goes_158 (by decide) ?_
            refine pm_iinc' (nI (r + 1)) d_M_goes_160 (by decide) rfl (pm_inc _) ?_
            refine pm_goto 24 d_M_goes_163 rfl ?_
            -- at 24: lo=[some (pm_R 48), some (pm_I (nI p)), some (pm_I (nI q)), some (pm_I (nI 0)), some (pm_I (nI 1)), some (pm_I (nI (r + 1)))] st=[]
            exact ih true (al_t hI c32 (by
              show (w r ≠ q ∧ (w r ≠ p ∨ rh_rk L p q ≤ rh_rk L p r))
              refine ⟨c97, ?_⟩
              first
                | exact Or.inl c124
                | exact Or.inr (Nat.le_of_not_lt (fun z => by have := (rn_lt r3 r1).mpr z; omega))))
  · skip
    have s4 := rn_99 (rh_rk L q (w q))
    refine pm_iload d_M_goes_24 rfl ?_
    refine pm_iload_n d_M_goes_26 rfl ?_
    refine pm_icmp_ge_t 166 d_M_goes_27 rfl (by rw [nI_leI (by omega) (by omega)]; omega) ?_
    refine pm_iload d_M_goes_166 rfl ?_
    refine pm_if_eqB 214 d_M_goes_168 rfl (fun c168 => ?_) (fun c168 => ?_)
    · refine pm_iconst' (nI 0) d_M_goes_214 (by decide) ?_
      refine pm_istore d_M_goes_215 (by decide) ?_
      refine pm_iload d_M_goes_217 rfl ?_
      refine pm_if_eq_t 248 d_M_goes_219 rfl (by decide) ?_
      refine pm_iconst' (nI 0) d_M_goes_248 (by decide) ?_
      exact pm_zreturn d_M_goes_249 rfl (Or.inl rfl) (fun h => h) (Nat.le_refl _) (Nat.le_refl _) ⟨congrArg some (congrArg bI (Bool.eq_false_iff.mpr (fun z => by
      have z := gk_p.mp z
      first
        | (rw [gy_iff.mpr z.2.2.2] at c228; cases c228)
        | (rcases z.2.2.1 with z2 | z2
           · omega
           · have := (rn_lt r2 (rk_9 hw q (w q))).mp c207
             omega)
        | (rw [hI.mpr z.2.1] at c168; cases c168)))).symm, rfl, rfl⟩
    · refine pm_iload_n d_M_goes_171 rfl ?_
      refine pm_if_ne_f 210 d_M_goes_172 rfl (by decide) ?_
      refine pm_iload_n d_M_goes_175 rfl ?_
      refine pm_iload_n d_M_goes_176 rfl ?_
      refine pm_icmp_geN 210 d_M_goes_177 rfl (by omega) (by omega) (fun c177 => ?_) (fun c177 => ?_)
      · refine pm_iconst' (nI 1) d_M_goes_210 (by decide) ?_
        refine pm_goto 215 d_M_goes_211 rfl ?_
        refine pm_istore d_M_goes_215 (by decide) ?_
        refine pm_iload d_M_goes_217 rfl ?_
        refine pm_if_eq_f 248 d_M_goes_219 rfl (by decide) ?_
        refine pm_aload_n d_M_goes_222 rfl ?_
        refine pm_iload_n d_M_goes_223 rfl ?_
        refine pm_iload_n d_M_goes_224 rfl ?_
        refine pm_callR (i := 48) (ci := 5) (rest := []) [pm_I (nI q), pm_I (nI p)] hB d_M_goes_225 hc_M_98 (k_M_mayStay hg hB hw h1 hR hT hb hq hp) (hg.s rfl) (hg.i (by decide)) rfl rfl rfl rfl (Nat.le_of_ble_eq_true rfl) (Nat.le_of_ble_eq_true rfl) (by omega) (by omega) ?_
        refine pm_if_eqB 248 d_M_goes_228 rfl (fun c228 => ?_) (fun c228 => ?_)
        · refine pm_iconst' (nI 0) d_M_goes_248 (by decide) ?_
          exact pm_zreturn d_M_goes_249 rfl (Or.inl rfl) (fun h => h) (Nat.le_refl _) (Nat.le_refl _) ⟨congrArg some (congrArg bI (Bool.eq_false_iff.mpr (fun z => by
      have z := gk_p.mp z
      first
        | (rw [gy_iff.mpr z.2.2.2] at c228; cases c228)
        | (rcases z.2.2.1 with z2 | z2
           · omega
           · have := (rn_lt r2 (rk_9 hw q (w q))).mp c207
             omega)
        | (rw [hI.mpr z.2.1] at c168; cases c168)))).symm, rfl, rfl⟩
        · refine pm_iload_n d_M_goes_231 rfl ?_
          refine pm_if_eq_t 244 d_M_goes_232 rfl (by decide) ?_
          refine pm_iconst' (nI 1) d_M_goes_244 (by decide) ?_
          refine pm_goto 249 d_M_goes_245 rfl ?_
          exact pm_zreturn d_M_goes_249 rfl (Or.inr rfl) (fun h => h) (Nat.le_refl _) (Nat.le_refl _) ⟨congrArg some (congrArg bI (gk_p.mpr ⟨rn_le50.mp c13, hI.mp c168, by first | exact Or.inl c177 | exact Or.inr (Nat.le_of_not_lt (fun z => by have := (rn_lt r2 (rk_9 hw q (w q))).mpr z; omega)), gy_iff.mp c228⟩)).symm, rfl, rfl⟩
      · refine pm_aload_n d_M_goes_180 rfl ?_
        refine pm_getr d_M_goes_181 hf_M_40 (hg.s rfl) (hg.i (by decide)) rfl (hg.r (by decide) rfl) ?_
        refine pm_bipush' (nI 8) d_M_goes_184 (by decide) ?_
        refine pm_iload_n d_M_goes_186 rfl ?_
        refine pm_imulN d_M_goes_187 ?_
        refine pm_iload_n d_M_goes_188 rfl ?_
        refine pm_iaddN d_M_goes_189 ?_
        refine pm_iaload' ((8 * q) + p) (nI (rn_ (rh_rk L q p))) d_M_goes_190 (hg.s rfl) (hg.i (by decide)) rfl (by omega) (by decide) (hR q p hq hp) ?_
        refine pm_aload_n d_M_goes_191 rfl ?_
        refine pm_getr d_M_goes_192 hf_M_40 (hg.s rfl) (hg.i (by decide)) rfl (hg.r (by decide) rfl) ?_
        refine pm_bipush' (nI 8) d_M_goes_195 (by decide) ?_
        refine pm_iload_n d_M_goes_197 rfl ?_
        refine pm_imulN d_M_goes_198 ?_
        refine pm_aload_n d_M_goes_199 rfl ?_
        refine pm_getr d_M_goes_200 hf_M_31 (hg.s rfl) (hg.i (by decide)) rfl (hg.r (by decide) rfl) ?_
        refine pm_iload_n d_M_goes_203 rfl ?_
        refine pm_iaload' q (nI (w q)) d_M_goes_204 (hg.s rfl) (hg.i (by decide)) rfl (by omega) (by decide) (hW q c177) ?_
        refine pm_iaddN d_M_goes_205 ?_
        refine pm_iaload' ((8 * q) + (w q)) (nI (rn_ (rh_rk L q (w q)))) d_M_goes_206 (hg.s rfl) (hg.i (by decide)) rfl (by have := hwn q c177; omega) (by decide) (hR q (w q) hq (hwn q c177)) ?_
        refine pm_icmp_ltN 214 d_M_goes_207 rfl (by omega) (by omega) (fun c207 => ?_) (fun c207 => ?_)
        · refine pm_iconst' (nI 0) d_M_goes_214 (by decide) ?_
          refine pm_istore d_M_goes_215 (by decide) ?_
          refine pm_iload d_M_goes_217 rfl ?_
          refine pm_if_eq_t 248 d_M_goes_219 rfl (by decide) ?_
          refine pm_iconst' (nI 0) d_M_goes_248 (by decide) ?_
          exact pm_zreturn d_M_goes_249 rfl (Or.inl rfl) (fun h => h) (Nat.le_refl _) (Nat.le_refl _) ⟨congrArg some (congrArg bI (Bool.eq_false_iff.mpr (fun z => by
      have z := gk_p.mp z
      first
        | (rw [gy_iff.mpr z.2.2.2] at c228; cases c228)
        | (rcases z.2.2.1 with z2 | z2
           · omega
           · have := (rn_lt r2 (rk_9 hw q (w q))).mp c207
             omega)
        | (rw [hI.mpr z.2.1] at c168; cases c168)))).symm, rfl, rfl⟩
        · refine pm_iconst' (nI 1) d_M_goes_210 (by decide) ?_
          refine pm_goto 215 d_M_goes_211 rfl ?_
          refine pm_istore d_M_goes_215 (by decide) ?_
          refine pm_iload d_M_goes_217 rfl ?_
          refine pm_if_eq_f 248 d_M_goes_219 rfl (by decide) ?_
          refine pm_aload_n d_M_goes_222 rfl ?_
          refine pm_iload_n d_M_goes_223 rfl ?_
          refine pm_iload_n d_M_goes_224 rfl ?_
          refine pm_callR (i := 48) (ci := 5) (rest := []) [pm_I (nI q), pm_I (nI p)] hB d_M_goes_225 hc_M_98 (k_M_mayStay hg hB hw h1 hR hT hb hq hp) (hg.s rfl) (hg.i (by decide)) rfl rfl rfl rfl (Nat.le_of_ble_eq_true rfl) (Nat.le_of_ble_eq_true rfl) (by omega) (by omega) ?_
          refine pm_if_eqB 248 d_M_goes_228 rfl (fun c228 => ?_) (fun c228 => ?_)
          · refine pm_iconst' (nI 0) d_M_goes_248 (by decide) ?_
            exact pm_zreturn d_M_goes_249 rfl (Or.inl rfl) (fun h => h) (Nat.le_refl _) (Nat.le_refl _) ⟨congrArg some (congrArg bI (Bool.eq_false_iff.mpr (fun z => by
      have z := gk_p.mp z
      first
        | (rw [gy_iff.mpr z.2.2.2] at c228; cases c228)
        | (rcases z.2.2.1 with z2 | z2
           · omega
           · have := (rn_lt r2 (rk_9 hw q (w q))).mp c207
             omega)
        | (rw [hI.mpr z.2.1] at c168; cases c168)))).symm, rfl, rfl⟩
          · refine pm_iload_n d_M_goes_231 rfl ?_
            refine pm_if_eq_t 244 d_M_goes_232 rfl (by decide) ?_
            refine pm_iconst' (nI 1) d_M_goes_244 (by decide) ?_
            refine pm_goto 249 d_M_goes_245 rfl ?_
            exact pm_zreturn d_M_goes_249 rfl (Or.inr rfl) (fun h => h) (Nat.le_refl _) (Nat.le_refl _) ⟨congrArg some (congrArg bI (gk_p.mpr ⟨rn_le50.mp c13, hI.mp c168, by first | exact Or.inl c177 | exact Or.inr (Nat.le_of_not_lt (fun z => by have := (rn_lt r2 (rk_9 hw q (w q))).mpr z; omega)), gy_iff.mp c228⟩)).symm, rfl, rfl⟩
theorem k_M_goes_0 (hg : pm_gok 61 g) (hB : pm_base b) (hw : rh_wf n L) (h1 : σ 48 1 = nI n) (hR : mr_ n L σ) (hT : mt_ n 57 la σ) (hb : ∀ x y, la x = some y → y < n) (hW : ∀ r, r < p → σ 56 r = nI (w r)) (hwn : ∀ r, r < p → w r < n) (hp : p < n) (hq : q < n) : pm_C b (d + 1) km_M_goes [pm_R 48, pm_I (nI p), pm_I (nI q), pm_I (nI 0)] g σ τ 0 0 (pm_Rd (bI (gk_ false n L w la p q)) σ τ) := by
  have h8 := hw.1
  have r1 := rk_9 hw p q
  have s1 := rn_99 (rh_rk L p q)
  have r2 := rk_9 hw q p
  have s2 := rn_99 (rh_rk L q p)
  have K : rn_ (rh_rk L p q) ≤ 50 → pm_Y b (d + 1) km_M_goes 24 false [some (pm_R 48), some (pm_I (nI p)), some (pm_I (nI q)), some (pm_I (nI 0)), some (pm_I (nI 1)), some (pm_I (nI 0))] [] g σ τ 0 0 0 0 (pm_Rd (bI (gk_ false n L w la p q)) σ τ) := fun c13 => l_M_goes_0 hg hB hw h1 hR hT hb hW hwn hp hq c13
  show pm_Y b (d + 1) km_M_goes 0 false [some (pm_R 48), some (pm_I (nI p)), some (pm_I (nI q)), some (pm_I (nI 0)), none, none] [] g σ τ 0 0 0 0 _
  refine pm_aload_n d_M_goes_0 rfl ?_
  refine pm_getr d_M_goes_1 hf_M_40 (hg.s rfl) (hg.i (by decide)) rfl (hg.r (by decide) rfl) ?_
  refine pm_bipush' (nI 8) d_M_goes_4 (by decide) ?_
  refine pm_iload_n d_M_goes_6 rfl ?_
  refine pm_imulN d_M_goes_7 ?_
  refine pm_iload_n d_M_goes_8 rfl ?_
  refine pm_iaddN d_M_goes_9 ?_
  refine pm_iaload' ((8 * p) + q) (nI (rn_ (rh_rk L p q))) d_M_goes_10 (hg.s rfl) (hg.i (by decide)) rfl (by omega) (by decide) (hR p q hp hq) ?_
  refine pm_bipush' (nI 50) d_M_goes_11 (by decide) ?_
  refine pm_icmp_leN 18 d_M_goes_13 rfl (by omega) (by omega) (fun c13 => ?_) (fun c13 => ?_)
  · refine pm_iconst' (nI 1) d_M_goes_18 (by decide) ?_
    refine pm_istore d_M_goes_19 (by decide) ?_
    refine pm_iconst' (nI 0) d_M_goes_21 (by decide) ?_
    refine pm_istore d_M_goes_22 (by decide) ?_
    -- at 24: lo=[some (pm_R 48), some (pm_I (nI p)), some (pm_I (nI q)), some (pm_I (nI 0)), some (pm_I (nI 1)), some (pm_I (nI 0))] st=[]
    exact K c13
  · refine pm_iconst' (nI 0) d_M_goes_16 (by decide) ?_
    exact pm_zreturn d_M_goes_17 rfl (Or.inl rfl) (fun h => h) (Nat.le_refl _) (Nat.le_refl _) ⟨congrArg some (congrArg bI (Bool.eq_false_iff.mpr (fun z => by
      have z := (gk_p.mp z).1
      have := rn_le50.mpr z
      omega))).symm, rfl, rfl⟩
theorem k_M_goes (fl : Bool) (hg : pm_gok 61 g) (hB : pm_base b) (hw : rh_wf n L) (h1 : σ 48 1 = nI n) (hR : mr_ n L σ) (hT : mt_ n 57 la σ) (hb : ∀ x y, la x = some y → y < n) (hW : ∀ r, r < p → σ 56 r = nI (w r)) (hwn : ∀ r, r < p → w r < n) (hp : p < n) (hq : q < n) : pm_C b (d + 1) km_M_goes [pm_R 48, pm_I (nI p), pm_I (nI q), pm_I (bI fl)] g σ τ 0 0 (pm_Rd (bI (gk_ fl n L w la p q)) σ τ) := by
  cases fl
  · exact k_M_goes_0 hg hB hw h1 hR hT hb hW hwn hp hq
  · exact k_M_goes_1 hg hB hw h1 hR hT hb hW hwn hp hq
theorem l_M_nextChoice_3 (fl : Bool) (hg : pm_gok 61 g) (hB : pm_base b) (hw : rh_wf n L) (hM : mi_ n L σ) (hR : mr_ n L σ) (hT : mt_ n 57 la σ) (hb : ∀ x y, la x = some y → y < n) (hW : ∀ r, r < p → σ 56 r = nI (w r)) (hwn : ∀ r, r < p → w r < n) (hp : p < n) {l2 : Option pV} : ∀ (k c : Nat), c + k = (L p).length + 1 → pm_Y b (d + 2) km_M_nextChoice 3 false [some (pm_R 48), some (pm_I (nI p)), l2, some (pm_I (bI fl)), some (pm_I (nI c))] [] g σ τ 0 0 0 0 (pm_Rd (nI (nx_ (fun c => gk_ fl n L w la p (gw_cho L p c)) k c)) σ τ)
  | 0, c, hc => by
    have h8 := hw.1
    have h7 := wf_len hw p
    refine pm_iload d_M_nextChoice_3 rfl ?_
    refine pm_aload_n d_M_nextChoice_5 rfl ?_
    refine pm_getr d_M_nextChoice_6 hf_M_7 (hg.s rfl) (hg.i (by decide)) rfl (hg.r (by decide) rfl) ?_
    refine pm_iload_n d_M_nextChoice_9 rfl ?_
    refine pm_iaload' p (nI ((L p).length)) d_M_nextChoice_10 (hg.s rfl) (hg.i (by decide)) rfl (by omega) (by decide) (hM.2.1 p hp) ?_
    refine pm_icmp_gt_t 36 d_M_nextChoice_11 rfl ((nI_ltI (by omega) (by omega)).mpr (by omega)) ?_
    refine pm_iload d_M_nextChoice_36 rfl ?_
    exact pm_ireturn d_M_nextChoice_38 rfl (fun h => h) (Nat.le_refl _) (Nat.le_refl _) ⟨rfl, rfl, rfl⟩
  | k + 1, c, hc => by
    have h8 := hw.1
    have h7 := wf_len hw p
    refine pm_iload d_M_nextChoice_3 rfl ?_
    refine pm_aload_n d_M_nextChoice_5 rfl ?_
    refine pm_getr d_M_nextChoice_6 hf_M_7 (hg.s rfl) (hg.i (by decide)) rfl (hg.r (by decide) rfl) ?_
    refine pm_iload_n d_M_nextChoice_9 rfl ?_
    refine pm_iaload' p (nI ((L p).length)) d_M_nextChoice_10 (hg.s rfl) (hg.i (by decide)) rfl (by omega) (by decide) (hM.2.1 p hp) ?_
    refine pm_icmp_gt_f 36 d_M_nextChoice_11 rfl (fun z => by have := (nI_ltI (by omega) (by omega)).mp z; omega) ?_
    refine pm_aload_n d_M_nextChoice_14 rfl ?_
    refine pm_iload_n d_M_nextChoice_15 rfl ?_
    refine pm_aload_n d_M_nextChoice_16 rfl ?_
    refine pm_iload_n d_M_nextChoice_17 rfl ?_
    refine pm_iload d_M_nextChoice_18 rfl ?_
    refine pm_callR (i := 48) (ci := 5) (rest := [pm_I (nI p), pm_R 48]) [pm_I (nI p), pm_I (nI c)] hB d_M_nextChoice_20 hc_M_91 (k_M_chosen hg hB hw hM hp (by omega)) (hg.s rfl) (hg.i (by decide)) rfl rfl rfl rfl (Nat.le_of_ble_eq_true rfl) (Nat.le_of_ble_eq_true rfl) (by omega) (by omega) ?_
    refine pm_iload_n d_M_nextChoice_23 rfl ?_
    refine pm_callR (i := 48) (ci := 5) (rest := []) [pm_I (nI p), pm_I (nI (gw_cho L p c)), pm_I (bI fl)] hB d_M_nextChoice_24 hc_M_94 (k_M_goes fl hg hB hw hM.1 hR hT hb hW hwn hp (cho_lt hw hp c)) (hg.s rfl) (hg.i (by decide)) rfl rfl rfl rfl (Nat.le_of_ble_eq_true rfl) (Nat.le_of_ble_eq_true rfl) (by omega) (by omega) ?_
    refine pm_if_neB 36 d_M_nextChoice_27 rfl (fun c27 => ?_) (fun c27 => ?_)
    · refine pm_iload d_M_nextChoice_36 rfl ?_
      exact pm_ireturn d_M_nextChoice_38 rfl (fun h => h) (Nat.le_refl _) (Nat.le_refl _) ⟨congrArg some (congrArg nI (if_pos c27).symm), rfl, rfl⟩
    · refine pm_iinc' (nI (c + 1)) d_M_nextChoice_30 (by decide) rfl (pm_inc _) ?_
      refine pm_goto 3 d_M_nextChoice_33 rfl ?_
      -- at 3: lo=[some (pm_R 48), some (pm_I (nI p)), l2, some (pm_I (bI fl)), some (pm_I (nI (c + 1)))] st=[]
      have h9 := l_M_nextChoice_3 fl hg hB hw hM hR hT hb hW hwn hp (l2 := l2) k (c + 1) (by omega)
      rw [show nx_ (fun c => gk_ fl n L w la p (gw_cho L p c)) (k + 1) c = nx_ (fun c => gk_ fl n L w la p (gw_cho L p c)) k (c + 1) from if_neg (show ¬ gk_ fl n L w la p (gw_cho L p c) = true by rw [c27]; decide)]
      exact h9
theorem k_M_nextChoice (fl : Bool) (hg : pm_gok 61 g) (hB : pm_base b) (hw : rh_wf n L) (hM : mi_ n L σ) (hR : mr_ n L σ) (hT : mt_ n 57 la σ) (hb : ∀ x y, la x = some y → y < n) (hW : ∀ r, r < p → σ 56 r = nI (w r)) (hwn : ∀ r, r < p → w r < n) (hp : p < n) (hc : c ≤ (L p).length + 1) : pm_C b (d + 2) km_M_nextChoice [pm_R 48, pm_I (nI p), pm_I (nI c), pm_I (bI fl)] g σ τ 0 0 (pm_Rd (nI (nx_ (fun c => gk_ fl n L w la p (gw_cho L p c)) ((L p).length + 1 - c) c)) σ τ) := by
  show pm_Y b (d + 1 + 1) km_M_nextChoice 0 false [some (pm_R 48), some (pm_I (nI p)), some (pm_I (nI c)), some (pm_I (bI fl)), none] [] g σ τ 0 0 0 0 _
  refine pm_iload_n d_M_nextChoice_0 rfl ?_
  refine pm_istore d_M_nextChoice_1 (by decide) ?_
  -- at 3: lo=[some (pm_R 48), some (pm_I (nI p)), some (pm_I (nI c)), some (pm_I (bI fl)), some (pm_I (nI c))] st=[]
  exact l_M_nextChoice_3 fl hg hB hw hM hR hT hb hW hwn hp _ c (by omega)
theorem k_M_forget_1 (hg : pm_gok 61 g) (hn : n ≤ 8) (hT : mt_ n 57 la σ) (hC : mt_ n 58 ch σ) (hp : p < n) (hW : (ch p).isSome = true → σ 56 p = nI (w p) ∧ w p < n) (hcb : ∀ c, ch p = some c → c ≤ 8) : pm_C b (d) km_M_forget [pm_R 48, pm_I (nI p), pm_I (nI 1)] g σ τ 0 0 (pm_Wp (fun v σ' => v = none ∧ mt_ n 57 (fg_ true (ch p) w la p) σ' ∧ ∀ c x, c ≠ 57 → σ' c x = σ c x) τ) := by
  show pm_Y b d km_M_forget 0 false [some (pm_R 48), some (pm_I (nI p)), some (pm_I (nI 1))] [] g σ τ 0 0 0 0 _
  cases e : ch p with
  | none =>
    refine pm_aload_n d_M_forget_0 rfl ?_
    refine pm_getr d_M_forget_1 hf_M_37 (hg.s rfl) (hg.i (by decide)) rfl (hg.r (by decide) rfl) ?_
    refine pm_iload_n d_M_forget_4 rfl ?_
    refine pm_iaload' p (-1) d_M_forget_5 (hg.s rfl) (hg.i (by decide)) rfl (by omega) (by decide) (by rw [hC p hp, e]; rfl) ?_
    refine pm_if_lt_t 55 d_M_forget_6 rfl (by decide) ?_
    exact pm_return d_M_forget_55 rfl (fun _ => rfl) (Nat.le_refl _) (Nat.le_refl _) ⟨⟨rfl, hT, fun _ _ _ => rfl⟩, rfl⟩
  | some c =>
    have hW := hW (by rw [e]; rfl)
    have h9 := hcb c e
    have hwp := hW.2
    refine pm_aload_n d_M_forget_0 rfl ?_
    refine pm_getr d_M_forget_1 hf_M_37 (hg.s rfl) (hg.i (by decide)) rfl (hg.r (by decide) rfl) ?_
    refine pm_iload_n d_M_forget_4 rfl ?_
    refine pm_iaload' p (nI c) d_M_forget_5 (hg.s rfl) (hg.i (by decide)) rfl (by omega) (by decide) (by rw [hC p hp, e]; rfl) ?_
    refine pm_if_lt_f 55 d_M_forget_6 rfl (nI_nn (by omega)) ?_
    refine pm_iload_n d_M_forget_9 rfl ?_
    refine pm_if_eq_f 23 d_M_forget_10 rfl (by decide) ?_
    refine pm_aload_n d_M_forget_13 rfl ?_
    refine pm_getr d_M_forget_14 hf_M_31 (hg.s rfl) (hg.i (by decide)) rfl (hg.r (by decide) rfl) ?_
    refine pm_iload_n d_M_forget_17 rfl ?_
    refine pm_iaload' p (nI (w p)) d_M_forget_18 (hg.s rfl) (hg.i (by decide)) rfl (by omega) (by decide) hW.1 ?_
    refine pm_iload_n d_M_forget_19 rfl ?_
    refine pm_icmp_ltN 55 d_M_forget_20 rfl (by omega) (by omega) (fun c20 => ?_) (fun c20 => ?_)
    · exact pm_return d_M_forget_55 rfl (fun _ => rfl) (Nat.le_refl _) (Nat.le_refl _) (by first | exact ⟨⟨rfl, by show mt_ n 57 (if true = true then (if w p < p then la else gw_up (gw_up la (w p) none) p none) else gw_up la (w p) none) _; rw [if_pos rfl, if_pos c20]; exact hT, fun _ _ _ => rfl⟩, rfl⟩ | exact ⟨⟨rfl, by show mt_ n 57 (if true = true then (if w p < p then la else gw_up (gw_up la (w p) none) p none) else gw_up la (w p) none) _; rw [if_pos rfl, if_neg (by omega)]; exact mt_up (mt_up hT), fun c x hc => by rw [pm_up_ne (by omega), pm_up_ne (by omega)]⟩, rfl⟩)
    · refine pm_aload_n d_M_forget_23 rfl ?_
      refine pm_getr d_M_forget_24 hf_M_34 (hg.s rfl) (hg.i (by decide)) rfl (hg.r (by decide) rfl) ?_
      refine pm_aload_n d_M_forget_27 rfl ?_
      refine pm_getr d_M_forget_28 hf_M_31 (hg.s rfl) (hg.i (by decide)) rfl (hg.r (by decide) rfl) ?_
      refine pm_iload_n d_M_forget_31 rfl ?_
      refine pm_iaload' p (nI (w p)) d_M_forget_32 (hg.s rfl) (hg.i (by decide)) rfl (by omega) (by decide) hW.1 ?_
      refine pm_iconst' (-1) d_M_forget_33 (by decide) ?_
      refine pm_iastore (w p) d_M_forget_34 (hg.s rfl) (hg.i (by decide)) rfl (by omega) (by decide) ?_
      refine pm_aload_n d_M_forget_35 rfl ?_
      refine pm_getr d_M_forget_36 hf_M_34 (hg.s rfl) (hg.i (by decide)) rfl (hg.r (by decide) rfl) ?_
      refine pm_iload_n d_M_forget_39 rfl ?_
      refine pm_iload_n d_M_forget_40 rfl ?_
      refine pm_if_eq_f 48 d_M_forget_41 rfl (by decide) ?_
      refine pm_iconst' (-1) d_M_forget_44 (by decide) ?_
      refine pm_goto 54 d_M_forget_45 rfl ?_
      refine pm_iastore p d_M_forget_54 (hg.s rfl) (hg.i (by decide)) rfl (by omega) (by decide) ?_
      exact pm_return d_M_forget_55 rfl (fun _ => rfl) (Nat.le_refl _) (Nat.le_refl _) (by first | exact ⟨⟨rfl, by show mt_ n 57 (if true = true then (if w p < p then la else gw_up (gw_up la (w p) none) p none) else gw_up la (w p) none) _; rw [if_pos rfl, if_pos c20]; exact hT, fun _ _ _ => rfl⟩, rfl⟩ | exact ⟨⟨rfl, by show mt_ n 57 (if true = true then (if w p < p then la else gw_up (gw_up la (w p) none) p none) else gw_up la (w p) none) _; rw [if_pos rfl, if_neg (by omega)]; exact mt_up (mt_up hT), fun c x hc => by rw [pm_up_ne (by omega), pm_up_ne (by omega)]⟩, rfl⟩)
theorem k_M_forget_0 (hg : pm_gok 61 g) (hn : n ≤ 8) (hT : mt_ n 57 la σ) (hC : mt_ n 58 ch σ) (hp : p < n) (hW : (ch p).isSome = true → σ 56 p = nI (w p) ∧ w p < n) (hcb : ∀ c, ch p = some c → c ≤ 8) : pm_C b (d) km_M_forget [pm_R 48, pm_I (nI p), pm_I (nI 0)] g σ τ 0 0 (pm_Wp (fun v σ' => v = none ∧ mt_ n 57 (fg_ false (ch p) w la p) σ' ∧ ∀ c x, c ≠ 57 → σ' c x = σ c x) τ) := by
  show pm_Y b d km_M_forget 0 false [some (pm_R 48), some (pm_I (nI p)), some (pm_I (nI 0))] [] g σ τ 0 0 0 0 _
  cases e : ch p with
  | none =>
    refine pm_aload_n d_M_forget_0 rfl ?_
    refine pm_getr d_M_forget_1 hf_M_37 (hg.s rfl) (hg.i (by decide)) rfl (hg.r (by decide) rfl) ?_
    refine pm_iload_n d_M_forget_4 rfl ?_
    refine pm_iaload' p (-1) d_M_forget_5 (hg.s rfl) (hg.i (by decide)) rfl (by omega) (by decide) (by rw [hC p hp, e]; rfl) ?_
    refine pm_if_lt_t 55 d_M_forget_6 rfl (by decide) ?_
    exact pm_return d_M_forget_55 rfl (fun _ => rfl) (Nat.le_refl _) (Nat.le_refl _) ⟨⟨rfl, hT, fun _ _ _ => rfl⟩, rfl⟩
  | some c =>
    have hW := hW (by rw [e]; rfl)
    have h9 := hcb c e
    have hwp := hW.2
    refine pm_aload_n d_M_forget_0 rfl ?_
    refine pm_getr d_M_forget_1 hf_M_37 (hg.s rfl) (hg.i (by decide)) rfl (hg.r (by decide) rfl) ?_
    refine pm_iload_n d_M_forget_4 rfl ?_
    refine pm_iaload' p (nI c) d_M_forget_5 (hg.s rfl) (hg.i (by decide)) rfl (by omega) (by decide) (by rw [hC p hp, e]; rfl) ?_
    refine pm_if_lt_f 55 d_M_forget_6 rfl (nI_nn (by omega)) ?_
    refine pm_iload_n d_M_forget_9 rfl ?_
    refine pm_if_eq_t 23 d_M_forget_10 rfl (by decide) ?_
    refine pm_aload_n d_M_forget_23 rfl ?_
    refine pm_getr d_M_forget_24 hf_M_34 (hg.s rfl) (hg.i (by decide)) rfl (hg.r (by decide) rfl) ?_
    refine pm_aload_n d_M_forget_27 rfl ?_
    refine pm_getr d_M_forget_28 hf_M_31 (hg.s rfl) (hg.i (by decide)) rfl (hg.r (by decide) rfl) ?_
    refine pm_iload_n d_M_forget_31 rfl ?_
    refine pm_iaload' p (nI (w p)) d_M_forget_32 (hg.s rfl) (hg.i (by decide)) rfl (by omega) (by decide) hW.1 ?_
    refine pm_iconst' (-1) d_M_forget_33 (by decide) ?_
    refine pm_iastore (w p) d_M_forget_34 (hg.s rfl) (hg.i (by decide)) rfl (by omega) (by decide) ?_
    refine pm_aload_n d_M_forget_35 rfl ?_
    refine pm_getr d_M_forget_36 hf_M_34 (hg.s rfl) (hg.i (by decide)) rfl (hg.r (by decide) rfl) ?_
    refine pm_iload_n d_M_forget_39 rfl ?_
    refine pm_iload_n d_M_forget_40 rfl ?_
    refine pm_if_eq_t 48 d_M_forget_41 rfl (by decide) ?_
    refine pm_aload_n d_M_forget_48 rfl ?_
    refine pm_getr d_M_forget_49 hf_M_34 (hg.s rfl) (hg.i (by decide)) rfl (hg.r (by decide) rfl) ?_
    refine pm_iload_n d_M_forget_52 rfl ?_
    refine pm_iaload p d_M_forget_53 (hg.s rfl) (hg.i (by decide)) rfl (by omega) (by decide) ?_
    refine pm_iastore p d_M_forget_54 (hg.s rfl) (hg.i (by decide)) rfl (by omega) (by decide) ?_
    exact pm_return d_M_forget_55 rfl (fun _ => rfl) (Nat.le_refl _) (Nat.le_refl _) ⟨⟨rfl, by
      intro x hx
      show _ = oI ((if false = true then (if w p < p then la else gw_up (gw_up la (w p) none) p none) else gw_up la (w p) none) x)
      rw [if_neg (by decide)]
      by_cases e1 : x = p
      · rw [e1, pm_up_at]; exact mt_up (v := none) (p := w p) hT p hp
      · rw [pm_up_ne (by omega)]; exact mt_up (v := none) (p := w p) hT x hx, fun c x hc => by rw [pm_up_ne (by omega), pm_up_ne (by omega)]⟩, rfl⟩
theorem k_M_forget (fl : Bool) (hg : pm_gok 61 g) (hn : n ≤ 8) (hT : mt_ n 57 la σ) (hC : mt_ n 58 ch σ) (hp : p < n) (hW : (ch p).isSome = true → σ 56 p = nI (w p) ∧ w p < n) (hcb : ∀ c, ch p = some c → c ≤ 8) : pm_C b d km_M_forget [pm_R 48, pm_I (nI p), pm_I (bI fl)] g σ τ 0 0 (pm_Wp (fun v σ' => v = none ∧ mt_ n 57 (fg_ fl (ch p) w la p) σ' ∧ ∀ c x, c ≠ 57 → σ' c x = σ c x) τ) := by
  cases fl
  · exact k_M_forget_0 hg hn hT hC hp hW hcb
  · exact k_M_forget_1 hg hn hT hC hp hW hcb
end M4
