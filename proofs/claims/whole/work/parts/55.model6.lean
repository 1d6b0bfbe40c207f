/-! the other side: all assignments are gone through -/
theorem oI_1 (c : Option Nat) : oI c + nI 1 = nI (gw_from c) := by
  cases c with
  | none => decide
  | some c => exact nI_add c 1
def gl_ (fl : Bool) (la : Nat → Option Nat) (p q : Nat) : Nat → Option Nat := if fl = true then gw_up (gw_up la q (some p)) p (some q) else gw_up la q (some p)
def gn_T (fl : Bool) (n : Nat) (L : Nat → List Nat) (p c : Nat) (la ch : Nat → Option Nat) (σ₀ σ : pI) : Prop := mt_ n 57 (gl_ fl la p (gw_cho L p c)) σ ∧ mt_ n 58 (gw_up ch p (some c)) σ ∧ σ 56 p = nI (gw_cho L p c) ∧ (∀ r, r ≠ p → σ 56 r = σ₀ 56 r) ∧ ∀ c x, c ≠ 56 → c ≠ 57 → c ≠ 58 → σ c x = σ₀ c x
def gn_N (n p : Nat) (la ch : Nat → Option Nat) (σ₀ σ : pI) : Prop := mt_ n 57 la σ ∧ mt_ n 58 (gw_up ch p none) σ ∧ ∀ c x, c ≠ 57 → c ≠ 58 → σ c x = σ₀ c x
section M6
variable {b : pB} {g : pG} {σ : pI} {τ : pJ} {d n p q i j h a c x y : Nat} {L : Nat → List Nat} {w u s : Nat → Nat} {la ch : Nat → Option Nat} {A : rh_A} {fl : Bool} {E : pE}
theorem l_M_gt_step (hg : pm_gok 61 g) (hB : pm_base b) (hw : rh_wf n L) (hM : mi_ n L σ) (hR : mr_ n L σ) (hT : mt_ n 57 la σ) (hC : mt_ n 58 ch σ) (hp : p < n) (hW : ∀ r, r < n → (ch r).isSome = true → σ 56 r = nI (w r) ∧ w r < n) (hcb : ∀ r c, ch r = some c → c ≤ (L r).length) (hpre : ∀ r, r < p → (ch r).isSome = true) (hb1 : ∀ x y, fg_ fl (ch p) w la p x = some y → y < n) {l4 : Option pV} (hc0 : nx_ (fun c => gk_ fl n L w (fg_ fl (ch p) w la p) p (gw_cho L p c)) ((L p).length + 1 - gw_from (ch p)) (gw_from (ch p)) = c)
    (K1 : c ≤ (L p).length → ∀ σ', gn_T fl n L p c (fg_ fl (ch p) w la p) ch σ σ' → pm_Y b (d + 6) km_M_goThrough 38 true [some (pm_R 48), some (pm_I (bI fl)), some (pm_I (nI (p + 1))), some (pm_I (nI 0)), l4] [] g σ' τ 0 0 0 0 E)
    (K2 : (L p).length < c → ∀ σ', gn_N n p (fg_ fl (ch p) w la p) ch σ σ' → pm_Y b (d + 6) km_M_goThrough 170 true [some (pm_R 48), some (pm_I (bI fl)), some (pm_I (nI p)), some (pm_I (nI 0)), l4] [] g σ' τ 0 0 0 0 E) : pm_Y b (d + 6) km_M_goThrough 38 true [some (pm_R 48), some (pm_I (bI fl)), some (pm_I (nI p)), some (pm_I (nI 0)), l4] [] g σ τ 0 0 0 0 E := by
  have h8 := hw.1
  have h7 := wf_len hw p
  have hfr : gw_from (ch p) ≤ (L p).length + 1 := by
    cases e : ch p with
    | none => exact Nat.zero_le _
    | some c => have := hcb p c e; show c + 1 ≤ _; omega
  have hcl : c ≤ (L p).length + 1 := by
    have := (nx_is (ok := (fun c => gk_ fl n L w (fg_ fl (ch p) w la p) p (gw_cho L p c))) ((L p).length + 1 - gw_from (ch p)) (gw_from (ch p))).2.1
    rw [hc0] at this
    omega
  refine pm_iload_n d_M_goThrough_38 rfl ?_
  refine pm_if_ne_f 190 d_M_goThrough_39 rfl (by decide) ?_
  refine pm_iload_n d_M_goThrough_42 rfl ?_
  refine pm_aload_n d_M_goThrough_43 rfl ?_
  refine pm_geti' (nI n) d_M_goThrough_44 hf_M_47 (hg.s rfl) (hg.i (by decide)) rfl hM.1 ?_
  refine pm_icmp_ne_t 62 d_M_goThrough_47 rfl (fun z => by have := (nI_eq (by omega) (by omega)).mp z; omega) ?_
  refine pm_aload_n d_M_goThrough_62 rfl ?_
  refine pm_iload_n d_M_goThrough_63 rfl ?_
  refine pm_iload_n d_M_goThrough_64 rfl ?_
  refine pm_callWp (i := 48) (ci := 5) (rest := []) [pm_I (nI p), pm_I (bI fl)] hB d_M_goThrough_65 hc_M_105 (k_M_forget fl hg h8 hT hC hp (fun z => hW p hp z) (fun c hc => by have := hcb p c hc; have := wf_len hw p; omega)) (hg.s rfl) (hg.i (by decide)) rfl rfl rfl rfl (Nat.le_of_ble_eq_true rfl) (Nat.le_of_ble_eq_true rfl) (by omega) (by omega) (fun v65 σ₁ hv65 hq65 => ?_)
  obtain ⟨rfl, f1, f2⟩ := hq65
  show pm_Y b _ km_M_goThrough 68 true [some (pm_R 48), some (pm_I (bI fl)), some (pm_I (nI p)), some (pm_I (nI 0)), l4] [] g σ₁ τ 0 0 0 0 _
  refine pm_aload_n d_M_goThrough_68 rfl ?_
  refine pm_getr d_M_goThrough_69 hf_M_37 (hg.s rfl) (hg.i (by decide)) rfl (hg.r (by decide) rfl) ?_
  refine pm_iload_n d_M_goThrough_72 rfl ?_
  refine pm_aload_n d_M_goThrough_73 rfl ?_
  refine pm_iload_n d_M_goThrough_74 rfl ?_
  refine pm_aload_n d_M_goThrough_75 rfl ?_
  refine pm_getr d_M_goThrough_76 hf_M_37 (hg.s rfl) (hg.i (by decide)) rfl (hg.r (by decide) rfl) ?_
  refine pm_iload_n d_M_goThrough_79 rfl ?_
  refine pm_iaload' p (oI (ch p)) d_M_goThrough_80 (hg.s rfl) (hg.i (by decide)) rfl (by omega) (by decide) ((f2 58 p (by omega)).trans (hC p hp)) ?_
  refine pm_iconst' (nI 1) d_M_goThrough_81 (by decide) ?_
  refine pm_iadd d_M_goThrough_82 ?_
  rw [oI_1]
  refine pm_iload_n d_M_goThrough_83 rfl ?_
  refine pm_callR (i := 48) (ci := 5) (rest := [pm_I (nI p), pm_R 58]) [pm_I (nI p), pm_I (nI (gw_from (ch p))), pm_I (bI fl)] hB d_M_goThrough_84 hc_M_109 (show pm_C b (d + 5) km_M_nextChoice [pm_R 48, pm_I (nI p), pm_I (nI (gw_from (ch p))), pm_I (bI fl)] g σ₁ τ 0 0 (pm_Rd (nI c) σ₁ τ) by
      rw [← hc0]
      exact pm_C_up (show 0 + 2 ≤ d + 5 by omega) (k_M_nextChoice fl hg hB hw (mi_of hM (f2 48 1 (by omega)) (fun c x hc => f2 c x (by omega))) (fun p q hp hq => (f2 59 _ (by omega)).trans (hR p q hp hq)) f1 hb1 (fun r hr => (f2 56 r (by omega)).trans (hW r (by omega) (hpre r hr)).1) (fun r hr => (hW r (by omega) (hpre r hr)).2) hp hfr)) (hg.s rfl) (hg.i (by decide)) rfl rfl rfl rfl (Nat.le_of_ble_eq_true rfl) (Nat.le_of_ble_eq_true rfl) (by omega) (by omega) ?_
  refine pm_iastore p d_M_goThrough_87 (hg.s rfl) (hg.i (by decide)) rfl (by omega) (by decide) ?_
  refine pm_aload_n d_M_goThrough_88 rfl ?_
  refine pm_getr d_M_goThrough_89 hf_M_37 (hg.s rfl) (hg.i (by decide)) rfl (hg.r (by decide) rfl) ?_
  refine pm_iload_n d_M_goThrough_92 rfl ?_
  refine pm_iaload' p (nI c) d_M_goThrough_93 (hg.s rfl) (hg.i (by decide)) rfl (by omega) (by decide) pm_up_at ?_
  refine pm_aload_n d_M_goThrough_94 rfl ?_
  refine pm_getr d_M_goThrough_95 hf_M_7 (hg.s rfl) (hg.i (by decide)) rfl (hg.r (by decide) rfl) ?_
  refine pm_iload_n d_M_goThrough_98 rfl ?_
  refine pm_iaload' p (nI ((L p).length)) d_M_goThrough_99 (hg.s rfl) (hg.i (by decide)) rfl (by omega) (by decide) (by rw [pm_up_ne (by omega), f2 49 p (by omega)]; exact hM.2.1 p hp) ?_
  refine pm_icmp_gtN 163 d_M_goThrough_100 rfl (by omega) (by omega) (fun c100 => ?_) (fun c100 => ?_)
  · refine pm_aload_n d_M_goThrough_163 rfl ?_
    refine pm_getr d_M_goThrough_164 hf_M_37 (hg.s rfl) (hg.i (by decide)) rfl (hg.r (by decide) rfl) ?_
    refine pm_iload_n d_M_goThrough_167 rfl ?_
    refine pm_iconst' (-1) d_M_goThrough_168 (by decide) ?_
    refine pm_iastore p d_M_goThrough_169 (hg.s rfl) (hg.i (by decide)) rfl (by omega) (by decide) ?_
    -- at 170: lo=[some (pm_R 48), some (pm_I (bI fl)), some (pm_I (nI p)), some (pm_I (nI 0)), l4] st=[]
    exact K2 c100 _ ⟨fun x hx => by rw [pm_up_ne (by omega), pm_up_ne (by omega)]; exact f1 x hx, fun x hx => by
      by_cases e : x = p
      · rw [e, gw_up_self, pm_up_at]; rfl
      · rw [gw_up_ne _ _ e, pm_up_ne (by omega), pm_up_ne (by omega), f2 58 x (by omega)]; exact hC x hx, fun c x e1 e2 => by rw [pm_up_ne (by omega), pm_up_ne (by omega)]; exact f2 c x e1⟩
  · refine pm_aload_n d_M_goThrough_103 rfl ?_
    refine pm_getr d_M_goThrough_104 hf_M_31 (hg.s rfl) (hg.i (by decide)) rfl (hg.r (by decide) rfl) ?_
    refine pm_iload_n d_M_goThrough_107 rfl ?_
    refine pm_aload_n d_M_goThrough_108 rfl ?_
    refine pm_iload_n d_M_goThrough_109 rfl ?_
    refine pm_aload_n d_M_goThrough_110 rfl ?_
    refine pm_getr d_M_goThrough_111 hf_M_37 (hg.s rfl) (hg.i (by decide)) rfl (hg.r (by decide) rfl) ?_
    refine pm_iload_n d_M_goThrough_114 rfl ?_
    refine pm_iaload' p (nI c) d_M_goThrough_115 (hg.s rfl) (hg.i (by decide)) rfl (by omega) (by decide) pm_up_at ?_
    refine pm_callR (i := 48) (ci := 5) (rest := [pm_I (nI p), pm_R 56]) [pm_I (nI p), pm_I (nI c)] hB d_M_goThrough_116 hc_M_91 (k_M_chosen hg hB hw (mi_of hM (by rw [pm_up_ne (by omega)]; exact f2 48 1 (by omega)) (fun c x hc => by rw [pm_up_ne (by omega)]; exact f2 c x (by omega))) hp (by omega)) (hg.s rfl) (hg.i (by decide)) rfl rfl rfl rfl (Nat.le_of_ble_eq_true rfl) (Nat.le_of_ble_eq_true rfl) (by omega) (by omega) ?_
    refine pm_iastore p d_M_goThrough_119 (hg.s rfl) (hg.i (by decide)) rfl (by omega) (by decide) ?_
    refine pm_aload_n d_M_goThrough_120 rfl ?_
    refine pm_getr d_M_goThrough_121 hf_M_34 (hg.s rfl) (hg.i (by decide)) rfl (hg.r (by decide) rfl) ?_
    refine pm_aload_n d_M_goThrough_124 rfl ?_
    refine pm_getr d_M_goThrough_125 hf_M_31 (hg.s rfl) (hg.i (by decide)) rfl (hg.r (by decide) rfl) ?_
    refine pm_iload_n d_M_goThrough_128 rfl ?_
    refine pm_iaload' p (nI (gw_cho L p c)) d_M_goThrough_129 (hg.s rfl) (hg.i (by decide)) rfl (by omega) (by decide) pm_up_at ?_
    refine pm_iload_n d_M_goThrough_130 rfl ?_
    refine pm_iastore (gw_cho L p c) d_M_goThrough_131 (hg.s rfl) (hg.i (by decide)) rfl (by have := cho_lt hw hp c; omega) (by decide) ?_
    refine pm_aload_n d_M_goThrough_132 rfl ?_
    refine pm_getr d_M_goThrough_133 hf_M_34 (hg.s rfl) (hg.i (by decide)) rfl (hg.r (by decide) rfl) ?_
    refine pm_iload_n d_M_goThrough_136 rfl ?_
    refine pm_iload_n d_M_goThrough_137 rfl ?_
    refine pm_if_eqB 150 d_M_goThrough_138 rfl (fun c138 => ?_) (fun c138 => ?_)
    · refine pm_aload_n d_M_goThrough_150 rfl ?_
      refine pm_getr d_M_goThrough_151 hf_M_34 (hg.s rfl) (hg.i (by decide)) rfl (hg.r (by decide) rfl) ?_
      refine pm_iload_n d_M_goThrough_154 rfl ?_
      refine pm_iaload p d_M_goThrough_155 (hg.s rfl) (hg.i (by decide)) rfl (by omega) (by decide) ?_
      refine pm_iastore p d_M_goThrough_156 (hg.s rfl) (hg.i (by decide)) rfl (by omega) (by decide) ?_
      refine pm_iinc' (nI (p + 1)) d_M_goThrough_157 (by decide) rfl (pm_inc _) ?_
      refine pm_goto 173 d_M_goThrough_160 rfl ?_
      refine pm_iload_n d_M_goThrough_173 rfl ?_
      refine pm_if_ne_f 181 d_M_goThrough_174 rfl (by decide) ?_
      refine pm_iload_n d_M_goThrough_177 rfl ?_
      refine pm_if_ge_t 185 d_M_goThrough_178 rfl (Int32.not_lt.mp (nI_nn (by omega))) ?_
      refine pm_iconst' (nI 0) d_M_goThrough_185 (by decide) ?_
      refine pm_istore_n d_M_goThrough_186 (by decide) ?_
      refine pm_goto 38 d_M_goThrough_187 rfl ?_
      -- at 38: lo=[some (pm_R 48), some (pm_I (bI fl)), some (pm_I (nI (p + 1))), some (pm_I (nI 0)), l4] st=[]
      exact K1 c100 _ ⟨by
          unfold gl_
          rw [if_neg (show ¬ fl = true by rw [c138]; decide)]
          intro x hx
          have h9 := mt_up (v := some p) (p := gw_cho L p c) (fun x hx => show (pm_up (pm_up σ₁ 58 p (nI c)) 56 p (nI (gw_cho L p c))) 57 x = _ by rw [pm_up_ne (by omega), pm_up_ne (by omega)]; exact f1 x hx) x hx
          by_cases e : x = p
          · rw [e, pm_up_at]; rw [e] at h9; exact h9
          · rw [pm_up_ne (by omega)]; exact h9, fun x hx => by
          rw [pm_up_ne (by omega), pm_up_ne (by omega), pm_up_ne (by omega)]
          exact mt_up (v := some c) (fun x hx => (f2 58 x (by omega)).trans (hC x hx)) x hx, by rw [pm_up_ne (by omega), pm_up_ne (by omega), pm_up_at], fun r hr => by rw [pm_up_ne (by omega), pm_up_ne (by omega), pm_up_ne (by omega), pm_up_ne (by omega)]; exact f2 56 r (by omega), fun c x e1 e2 e3 => by rw [pm_up_ne (by omega), pm_up_ne (by omega), pm_up_ne (by omega), pm_up_ne (by omega)]; exact f2 c x e2⟩
    · refine pm_aload_n d_M_goThrough_141 rfl ?_
      refine pm_getr d_M_goThrough_142 hf_M_31 (hg.s rfl) (hg.i (by decide)) rfl (hg.r (by decide) rfl) ?_
      refine pm_iload_n d_M_goThrough_145 rfl ?_
      refine pm_iaload' p (nI (gw_cho L p c)) d_M_goThrough_146 (hg.s rfl) (hg.i (by decide)) rfl (by omega) (by decide) (by rw [pm_up_ne (by omega), pm_up_at]) ?_
      refine pm_goto 156 d_M_goThrough_147 rfl ?_
      refine pm_iastore p d_M_goThrough_156 (hg.s rfl) (hg.i (by decide)) rfl (by omega) (by decide) ?_
      refine pm_iinc' (nI (p + 1)) d_M_goThrough_157 (by decide) rfl (pm_inc _) ?_
      refine pm_goto 173 d_M_goThrough_160 rfl ?_
      refine pm_iload_n d_M_goThrough_173 rfl ?_
      refine pm_if_ne_f 181 d_M_goThrough_174 rfl (by decide) ?_
      refine pm_iload_n d_M_goThrough_177 rfl ?_
      refine pm_if_ge_t 185 d_M_goThrough_178 rfl (Int32.not_lt.mp (nI_nn (by omega))) ?_
      refine pm_iconst' (nI 0) d_M_goThrough_185 (by decide) ?_
      refine pm_istore_n d_M_goThrough_186 (by decide) ?_
      refine pm_goto 38 d_M_goThrough_187 rfl ?_
      -- at 38: lo=[some (pm_R 48), some (pm_I (bI fl)), some (pm_I (nI (p + 1))), some (pm_I (nI 0)), l4] st=[]
      exact K1 c100 _ ⟨by
          unfold gl_
          rw [if_pos c138]
          exact mt_up (mt_up (fun x hx => by rw [pm_up_ne (by omega), pm_up_ne (by omega)]; exact f1 x hx)), fun x hx => by
          rw [pm_up_ne (by omega), pm_up_ne (by omega), pm_up_ne (by omega)]
          exact mt_up (v := some c) (fun x hx => (f2 58 x (by omega)).trans (hC x hx)) x hx, by rw [pm_up_ne (by omega), pm_up_ne (by omega), pm_up_at], fun r hr => by rw [pm_up_ne (by omega), pm_up_ne (by omega), pm_up_ne (by omega), pm_up_ne (by omega)]; exact f2 56 r (by omega), fun c x e1 e2 e3 => by rw [pm_up_ne (by omega), pm_up_ne (by omega), pm_up_ne (by omega), pm_up_ne (by omega)]; exact f2 c x e2⟩
end M6
