/-! the law: one call after another -/
def xs_ (b : pB) (j : Nat) : Int32 := b.2.2.2.2.2.2.2 j
def xl_ (b : pB) : Nat := b.2.2.2.2.2.2.1
theorem nI_4 (a : Nat) : nI a + Int32.ofInt 4 = nI (a + 4) := by
  rw [show Int32.ofInt 4 = nI 4 by decide]
  exact nI_add a 4
theorem lg_self (x : Int64) : lg_cmp x x = 0 := by
  unfold lg_cmp
  simp
section SC
variable {b : pB} {d : Nat} {k : pK} {pc : Nat} {f : Bool} {lo : List (Option pV)} {st : List pV} {g : pG} {σ : pI} {τ : pJ} {cu su mc ms : Nat} {E : pE}
theorem pm_sld {x : Int32} (j : Nat) (hB : pm_base b) (hd : decode k.2.1 pc = .ok (.iaload, 1)) (hx : x = nI j) (hj : j < xl_ b) (hn : xl_ b < 2 ^ 31) (K : pm_Y b d k (pc + 1) f lo (pm_I (xs_ b j) :: st) g σ τ cu su mc ms E) : pm_Y b d k pc f lo (pm_I x :: pm_S :: st) g σ τ cu su mc ms E := by
  intro p e R s m args below meth c H locs ls ad jk hF hR hI hL
  subst hx
  have hc : (nI j).toNatClampNeg = j := nI_clamp (Nat.lt_trans hj hn)
  have hX := hB.2.2
  have hbl : b.2.2.2.2.2.1 < b.2.1.heap.size := by
    obtain ⟨scr, h1, -⟩ := hX
    exact (Array.getElem?_eq_some_iff.mp h1).1
  refine va_sld (A := pm_A b) hF.1 hF.2.1 (hX.moved hF.warm.alike) hbl (fun h => absurd hbl (Nat.not_lt.mpr h)) hI.2.2.1 (vp_in_nI hj hn) hd ?_
  rw [hc]
  exact K _ _ _ _ _ _ _ _ _ _ _ _ _ _ hF hR hI hL
theorem pm_slen (hB : pm_base b) (hd : decode k.2.1 pc = .ok (.arraylength, 1)) (K : pm_Y b d k (pc + 1) f lo (pm_I (nI (xl_ b)) :: st) g σ τ cu su mc ms E) : pm_Y b d k pc f lo (pm_S :: st) g σ τ cu su mc ms E := by
  intro p e R s m args below meth c H locs ls ad jk hF hR hI hL
  have hX := hB.2.2
  have hbl : b.2.2.2.2.2.1 < b.2.1.heap.size := by
    obtain ⟨scr, h1, -⟩ := hX
    exact (Array.getElem?_eq_some_iff.mp h1).1
  exact va_slen (A := pm_A b) hF.1 hF.2.1 (hX.moved hF.warm.alike) hbl (fun h => absurd hbl (Nat.not_lt.mpr h)) hI.2.2.1 hd (K _ _ _ _ _ _ _ _ _ _ _ _ _ _ hF hR hI hL)
theorem pm_tableOut {x : Int32} {dflt lo' hi : Int} {offs : Array Int} {len : Nat} (tgt : Nat) (hd : decode k.2.1 pc = .ok (.tableswitch dflt lo' hi offs, len)) (h : x.toInt < lo' ∨ hi < x.toInt) (ht : (pc : Int) + dflt = (tgt : Int)) (K : pm_Y b d k tgt f lo st g σ τ cu su mc ms E) : pm_Y b d k pc f lo (pm_I x :: st) g σ τ cu su mc ms E := by
  intro p e R s m args below meth c H locs ls ad jk hF hR hI hL
  exact lv_tableOut hF.1 hF.2.1 hd h ht (K _ _ _ _ _ _ _ _ _ _ _ _ _ _ hF hR hI hL)
end SC
section LW0
variable {n ch : Nat} {L : Nat → List Nat} {dm : Nat → Nat} {σ σ' : pI}
theorem RI_hfr (h : RI_ n L dm σ) (hf : hfr_ σ σ') : RI_ n L dm σ' :=
  ⟨mi_of h.1 (hf 48 1 (by omega)) (fun c x hc => hf c x (by omega)), fun p hp => (hf 51 p (by omega)).trans (h.2.1 p hp), by
    rcases h.2.2 with z | z
    · exact Or.inl ((hf 48 5 (by omega)).trans z)
    · exact Or.inr ⟨(hf 48 5 (by omega)).trans z.1, ml_of z.2 (fun c x hc => hf c x (by omega))⟩⟩
theorem CI_kfr (h : CI_ n ch L dm σ) (hf : kfr_ σ σ') : CI_ n ch L dm σ' :=
  ⟨h.1, W_same h.2.1 (fun c x hc => hf c x (by omega)), h.2.2.1, D_same h.2.2.2.1 (fun x => hf 31 x (by omega)), sc_same h.2.2.2.2.1 (fun c x a1 a2 => hf c x (by omega)), pc_same h.2.2.2.2.2 (fun c x a1 a2 => hf c x (by omega))⟩
end LW0
abbrev lE_ : pE := .inl (true, fun v _ _ => v = some (nI 1))
section LW
variable {b : pB} {g : pG} {σ : pI} {τ : pJ} {d n ch i cu su mc ms : Nat} {L : Nat → List Nat} {dm : Nat → Nat} {l5 l6 : Option pV}
theorem w_people (hg : pm_gok 61 g) (hB : pm_base b) (hX : pm_baseX b) (hA : pm_asg b) (hC : CI_ n ch L dm σ) (hR : RI_ n L dm σ) (hc : ch < 2 ^ 31) (hi : i + 4 ≤ xl_ b) (hl : xl_ b ≤ 2048) (hcu : cu + 1 ≤ mc) (hsu : su + 6 ≤ ms) (K : ∀ (n' ch' : Nat) (L' : Nat → List Nat) (dm' : Nat → Nat) (σ' : pI) (τ' : pJ) (cu' su' : Nat) (l5 l6 : Option pV), CI_ n' ch' L' dm' σ' → RI_ n' L' dm' σ' → ch' ≤ ch + 1 → cu' ≤ cu + 1 → su' ≤ su + 6 → pm_Y b (d + 31 + 1) km_L_law 1086 true [some (pm_S), some (pm_R 0), some (pm_R 48), some (pm_R 60), some (pm_I (nI i)), l5, l6] [] g σ' τ' cu' su' mc ms lE_) : pm_Y b (d + 31 + 1) km_L_law 128 true [some (pm_S), some (pm_R 0), some (pm_R 48), some (pm_R 60), some (pm_I (nI i)), l5, l6] [] g σ τ cu su mc ms lE_ := by
  refine pm_aload_n d_L_law_128 rfl ?_
  refine pm_aload_s d_L_law_129 rfl ?_
  refine pm_iload d_L_law_130 rfl ?_
  refine pm_iconst' (nI 1) d_L_law_132 (by decide) ?_
  refine pm_iaddN d_L_law_133 ?_
  refine pm_sld (i + 1) hB d_L_law_134 rfl (by omega) (by omega) ?_
  refine pm_aload_n d_L_law_135 rfl ?_
  refine pm_callS (rest := []) (vs := [pm_R 0, pm_I (xs_ b (i + 1)), pm_R 60]) hB d_L_law_136 hs_L_62 (k_L_people hg hB hX hA hC hc) rfl rfl rfl (Nat.le_of_ble_eq_true rfl) (Nat.le_of_ble_eq_true rfl) (by omega) (by omega) (fun v136 σ₁ τ₁ hv136 hq136 => ?_)
  obtain ⟨k, val, n', ch', L', dm', hq1, hq2, rfl, hq3, hq4, hq5, hq6⟩ := hq136
  show pm_Y b _ km_L_law 139 true [some (pm_S), some (pm_R 0), some (pm_R 48), some (pm_R 60), some (pm_I (nI i)), l5, l6] [pm_I (nI k)] g σ₁ τ₁ (cu + 1) (su + 6) mc ms _
  refine pm_istore d_L_law_139 (by decide) ?_
  refine pm_aload_n d_L_law_141 rfl ?_
  refine pm_aload_s d_L_law_142 rfl ?_
  refine pm_iload d_L_law_143 rfl ?_
  refine pm_iconst' (nI 1) d_L_law_145 (by decide) ?_
  refine pm_iaddN d_L_law_146 ?_
  refine pm_sld (i + 1) hB d_L_law_147 rfl (by omega) (by omega) ?_
  refine pm_callWp (i := 48) (ci := 5) (rest := []) [pm_I (xs_ b (i + 1))] hB d_L_law_148 hc_L_67 (pm_C_up (show 0 + 10 ≤ d + 31 by omega) (q_M_people hg hB hC.w hC.2.2.1 (RI_hfr hR hq6) hq1)) (hg.s rfl) (hg.i (by decide)) rfl rfl rfl rfl (Nat.le_of_ble_eq_true rfl) (Nat.le_of_ble_eq_true rfl) (by omega) (by omega) (fun v148 σ₂ hv148 hq148 => ?_)
  obtain ⟨⟨v2, rfl, m2⟩, m3, m4, m5⟩ := hq148
  show pm_Y b _ km_L_law 151 true [some (pm_S), some (pm_R 0), some (pm_R 48), some (pm_R 60), some (pm_I (nI i)), some (pm_I (nI k)), l6] [pm_I v2] g σ₂ τ₁ (cu + 1) (su + 6) mc ms _
  refine pm_istore d_L_law_151 (by decide) ?_
  refine pm_aload_n d_L_law_153 rfl ?_
  refine pm_callR (i := 48) (ci := 5) (rest := []) [] hB d_L_law_154 hc_L_68 (show pm_C b (d + 31) km_M_thrown [pm_R 48] g σ₂ τ₁ 0 0 (pm_Rd (nI k) σ₂ τ₁) by
    have h9 := k_M_thrown (b := b) (d := d + 31) (σ := σ₂) (τ := τ₁) hg hB
    rw [m3] at h9
    exact h9) (hg.s rfl) (hg.i (by decide)) rfl rfl rfl rfl (Nat.le_of_ble_eq_true rfl) (Nat.le_of_ble_eq_true rfl) (by omega) (by omega) ?_
  refine pm_iload d_L_law_157 rfl ?_
  refine pm_icmp_eq_t 164 d_L_law_159 rfl rfl ?_
  refine pm_iload d_L_law_164 rfl ?_
  refine pm_if_ne 181 d_L_law_166 rfl (fun c166 => ?_) (fun c166 => ?_)
  · refine pm_goto 1086 d_L_law_181 rfl ?_
    -- at 1086: lo=[some (pm_S), some (pm_R 0), some (pm_R 48), some (pm_R 60), some (pm_I (nI i)), some (pm_I (nI k)), some (pm_I v2)] st=[]
    exact K _ _ _ _ _ _ _ _ _ _ (CI_kfr hq4 m5) m4 hq5 (by omega) (by omega)
  · refine pm_aload_n d_L_law_169 rfl ?_
    refine pm_iconst' (nI 0) d_L_law_170 (by decide) ?_
    refine pm_laload 0 d_L_law_171 (hg.s rfl) (hg.i (by decide)) rfl (by decide) (by decide) ?_
    refine pm_iload d_L_law_172 rfl ?_
    refine pm_i2l d_L_law_174 ?_
    refine pm_lcmp d_L_law_175 ?_
    refine pm_if_eq_t 181 d_L_law_176 rfl (by
      have hk0 : k = 0 := (nI_eq (show k < 2 ^ 31 by omega) (show 0 < 2 ^ 31 by decide)).mp c166
      rw [hq3 hk0, m2 hk0]
      exact lg_self _) ?_
    refine pm_goto 1086 d_L_law_181 rfl ?_
    -- at 1086: lo=[some (pm_S), some (pm_R 0), some (pm_R 48), some (pm_R 60), some (pm_I (nI i)), some (pm_I (nI k)), some (pm_I v2)] st=[]
    exact K _ _ _ _ _ _ _ _ _ _ (CI_kfr hq4 m5) m4 hq5 (by omega) (by omega)
theorem w_put (hg : pm_gok 61 g) (hB : pm_base b) (hX : pm_baseX b) (hA : pm_asg b) (hC : CI_ n ch L dm σ) (hR : RI_ n L dm σ) (hc : ch < 2 ^ 31) (hi : i + 4 ≤ xl_ b) (hl : xl_ b ≤ 2048) (hcu : cu + 1 ≤ mc) (hsu : su + 6 ≤ ms) (K : ∀ (n' ch' : Nat) (L' : Nat → List Nat) (dm' : Nat → Nat) (σ' : pI) (τ' : pJ) (cu' su' : Nat) (l5 l6 : Option pV), CI_ n' ch' L' dm' σ' → RI_ n' L' dm' σ' → ch' ≤ ch + 1 → cu' ≤ cu + 1 → su' ≤ su + 6 → pm_Y b (d + 31 + 1) km_L_law 1086 true [some (pm_S), some (pm_R 0), some (pm_R 48), some (pm_R 60), some (pm_I (nI i)), l5, l6] [] g σ' τ' cu' su' mc ms lE_) : pm_Y b (d + 31 + 1) km_L_law 184 true [some (pm_S), some (pm_R 0), some (pm_R 48), some (pm_R 60), some (pm_I (nI i)), l5, l6] [] g σ τ cu su mc ms lE_ := by
  refine pm_aload_n d_L_law_184 rfl ?_
  refine pm_aload_s d_L_law_185 rfl ?_
  refine pm_iload d_L_law_186 rfl ?_
  refine pm_iconst' (nI 1) d_L_law_188 (by decide) ?_
  refine pm_iaddN d_L_law_189 ?_
  refine pm_sld (i + 1) hB d_L_law_190 rfl (by omega) (by omega) ?_
  refine pm_aload_s d_L_law_191 rfl ?_
  refine pm_iload d_L_law_192 rfl ?_
  refine pm_iconst' (nI 2) d_L_law_194 (by decide) ?_
  refine pm_iaddN d_L_law_195 ?_
  refine pm_sld (i + 2) hB d_L_law_196 rfl (by omega) (by omega) ?_
  refine pm_aload_n d_L_law_197 rfl ?_
  refine pm_callS (rest := []) (vs := [pm_R 0, pm_I (xs_ b (i + 1)), pm_I (xs_ b (i + 2)), pm_R 60]) hB d_L_law_198 hs_L_72 (k_L_put hg hB hX hA hC hc) rfl rfl rfl (Nat.le_of_ble_eq_true rfl) (Nat.le_of_ble_eq_true rfl) (by omega) (by omega) (fun v198 σ₁ τ₁ hv198 hq198 => ?_)
  obtain ⟨k, val, n', ch', L', dm', hq1, hq2, rfl, hq3, hq4, hq5, hq6⟩ := hq198
  show pm_Y b _ km_L_law 201 true [some (pm_S), some (pm_R 0), some (pm_R 48), some (pm_R 60), some (pm_I (nI i)), l5, l6] [pm_I (nI k)] g σ₁ τ₁ (cu + 1) (su + 6) mc ms _
  refine pm_istore d_L_law_201 (by decide) ?_
  refine pm_aload_n d_L_law_203 rfl ?_
  refine pm_aload_s d_L_law_204 rfl ?_
  refine pm_iload d_L_law_205 rfl ?_
  refine pm_iconst' (nI 1) d_L_law_207 (by decide) ?_
  refine pm_iaddN d_L_law_208 ?_
  refine pm_sld (i + 1) hB d_L_law_209 rfl (by omega) (by omega) ?_
  refine pm_aload_s d_L_law_210 rfl ?_
  refine pm_iload d_L_law_211 rfl ?_
  refine pm_iconst' (nI 2) d_L_law_213 (by decide) ?_
  refine pm_iaddN d_L_law_214 ?_
  refine pm_sld (i + 2) hB d_L_law_215 rfl (by omega) (by omega) ?_
  refine pm_callWp (i := 48) (ci := 5) (rest := []) [pm_I (xs_ b (i + 1)), pm_I (xs_ b (i + 2))] hB d_L_law_216 hc_L_75 (pm_C_up (show 0 + 10 ≤ d + 31 by omega) (q_M_put hg hB hC.w hC.2.2.1 (RI_hfr hR hq6) hq1)) (hg.s rfl) (hg.i (by decide)) rfl rfl rfl rfl (Nat.le_of_ble_eq_true rfl) (Nat.le_of_ble_eq_true rfl) (by omega) (by omega) (fun v216 σ₂ hv216 hq216 => ?_)
  obtain ⟨⟨v2, rfl, m2⟩, m3, m4, m5⟩ := hq216
  show pm_Y b _ km_L_law 219 true [some (pm_S), some (pm_R 0), some (pm_R 48), some (pm_R 60), some (pm_I (nI i)), some (pm_I (nI k)), l6] [pm_I v2] g σ₂ τ₁ (cu + 1) (su + 6) mc ms _
  refine pm_istore d_L_law_219 (by decide) ?_
  refine pm_aload_n d_L_law_221 rfl ?_
  refine pm_callR (i := 48) (ci := 5) (rest := []) [] hB d_L_law_222 hc_L_68 (show pm_C b (d + 31) km_M_thrown [pm_R 48] g σ₂ τ₁ 0 0 (pm_Rd (nI k) σ₂ τ₁) by
    have h9 := k_M_thrown (b := b) (d := d + 31) (σ := σ₂) (τ := τ₁) hg hB
    rw [m3] at h9
    exact h9) (hg.s rfl) (hg.i (by decide)) rfl rfl rfl rfl (Nat.le_of_ble_eq_true rfl) (Nat.le_of_ble_eq_true rfl) (by omega) (by omega) ?_
  refine pm_iload d_L_law_225 rfl ?_
  refine pm_icmp_eq_t 232 d_L_law_227 rfl rfl ?_
  refine pm_iload d_L_law_232 rfl ?_
  refine pm_if_ne 249 d_L_law_234 rfl (fun c234 => ?_) (fun c234 => ?_)
  · refine pm_goto 1086 d_L_law_249 rfl ?_
    -- at 1086: lo=[some (pm_S), some (pm_R 0), some (pm_R 48), some (pm_R 60), some (pm_I (nI i)), some (pm_I (nI k)), some (pm_I v2)] st=[]
    exact K _ _ _ _ _ _ _ _ _ _ (CI_kfr hq4 m5) m4 hq5 (by omega) (by omega)
  · refine pm_aload_n d_L_law_237 rfl ?_
    refine pm_iconst' (nI 0) d_L_law_238 (by decide) ?_
    refine pm_laload 0 d_L_law_239 (hg.s rfl) (hg.i (by decide)) rfl (by decide) (by decide) ?_
    refine pm_iload d_L_law_240 rfl ?_
    refine pm_i2l d_L_law_242 ?_
    refine pm_lcmp d_L_law_243 ?_
    refine pm_if_eq_t 249 d_L_law_244 rfl (by
      have hk0 : k = 0 := (nI_eq (show k < 2 ^ 31 by omega) (show 0 < 2 ^ 31 by decide)).mp c234
      rw [hq3 hk0, m2 hk0]
      exact lg_self _) ?_
    refine pm_goto 1086 d_L_law_249 rfl ?_
    -- at 1086: lo=[some (pm_S), some (pm_R 0), some (pm_R 48), some (pm_R 60), some (pm_I (nI i)), some (pm_I (nI k)), some (pm_I v2)] st=[]
    exact K _ _ _ _ _ _ _ _ _ _ (CI_kfr hq4 m5) m4 hq5 (by omega) (by omega)
theorem w_remove (hg : pm_gok 61 g) (hB : pm_base b) (hX : pm_baseX b) (hA : pm_asg b) (hC : CI_ n ch L dm σ) (hR : RI_ n L dm σ) (hc : ch < 2 ^ 31) (hi : i + 4 ≤ xl_ b) (hl : xl_ b ≤ 2048) (hcu : cu + 1 ≤ mc) (hsu : su + 6 ≤ ms) (K : ∀ (n' ch' : Nat) (L' : Nat → List Nat) (dm' : Nat → Nat) (σ' : pI) (τ' : pJ) (cu' su' : Nat) (l5 l6 : Option pV), CI_ n' ch' L' dm' σ' → RI_ n' L' dm' σ' → ch' ≤ ch + 1 → cu' ≤ cu + 1 → su' ≤ su + 6 → pm_Y b (d + 31 + 1) km_L_law 1086 true [some (pm_S), some (pm_R 0), some (pm_R 48), some (pm_R 60), some (pm_I (nI i)), l5, l6] [] g σ' τ' cu' su' mc ms lE_) : pm_Y b (d + 31 + 1) km_L_law 252 true [some (pm_S), some (pm_R 0), some (pm_R 48), some (pm_R 60), some (pm_I (nI i)), l5, l6] [] g σ τ cu su mc ms lE_ := by
  refine pm_aload_n d_L_law_252 rfl ?_
  refine pm_aload_s d_L_law_253 rfl ?_
  refine pm_iload d_L_law_254 rfl ?_
  refine pm_iconst' (nI 1) d_L_law_256 (by decide) ?_
  refine pm_iaddN d_L_law_257 ?_
  refine pm_sld (i + 1) hB d_L_law_258 rfl (by omega) (by omega) ?_
  refine pm_aload_s d_L_law_259 rfl ?_
  refine pm_iload d_L_law_260 rfl ?_
  refine pm_iconst' (nI 2) d_L_law_262 (by decide) ?_
  refine pm_iaddN d_L_law_263 ?_
  refine pm_sld (i + 2) hB d_L_law_264 rfl (by omega) (by omega) ?_
  refine pm_aload_n d_L_law_265 rfl ?_
  refine pm_callS (rest := []) (vs := [pm_R 0, pm_I (xs_ b (i + 1)), pm_I (xs_ b (i + 2)), pm_R 60]) hB d_L_law_266 hs_L_76 (k_L_remove hg hB hX hA hC hc) rfl rfl rfl (Nat.le_of_ble_eq_true rfl) (Nat.le_of_ble_eq_true rfl) (by omega) (by omega) (fun v266 σ₁ τ₁ hv266 hq266 => ?_)
  obtain ⟨k, val, n', ch', L', dm', hq1, hq2, rfl, hq3, hq4, hq5, hq6⟩ := hq266
  show pm_Y b _ km_L_law 269 true [some (pm_S), some (pm_R 0), some (pm_R 48), some (pm_R 60), some (pm_I (nI i)), l5, l6] [pm_I (nI k)] g σ₁ τ₁ (cu + 1) (su + 6) mc ms _
  refine pm_istore d_L_law_269 (by decide) ?_
  refine pm_aload_n d_L_law_271 rfl ?_
  refine pm_aload_s d_L_law_272 rfl ?_
  refine pm_iload d_L_law_273 rfl ?_
  refine pm_iconst' (nI 1) d_L_law_275 (by decide) ?_
  refine pm_iaddN d_L_law_276 ?_
  refine pm_sld (i + 1) hB d_L_law_277 rfl (by omega) (by omega) ?_
  refine pm_aload_s d_L_law_278 rfl ?_
  refine pm_iload d_L_law_279 rfl ?_
  refine pm_iconst' (nI 2) d_L_law_281 (by decide) ?_
  refine pm_iaddN d_L_law_282 ?_
  refine pm_sld (i + 2) hB d_L_law_283 rfl (by omega) (by omega) ?_
  refine pm_callWp (i := 48) (ci := 5) (rest := []) [pm_I (xs_ b (i + 1)), pm_I (xs_ b (i + 2))] hB d_L_law_284 hc_L_78 (pm_C_up (show 0 + 10 ≤ d + 31 by omega) (q_M_remove hg hB hC.w hC.2.2.1 (RI_hfr hR hq6) hq1)) (hg.s rfl) (hg.i (by decide)) rfl rfl rfl rfl (Nat.le_of_ble_eq_true rfl) (Nat.le_of_ble_eq_true rfl) (by omega) (by omega) (fun v284 σ₂ hv284 hq284 => ?_)
  obtain ⟨⟨v2, rfl, m2⟩, m3, m4, m5⟩ := hq284
  show pm_Y b _ km_L_law 287 true [some (pm_S), some (pm_R 0), some (pm_R 48), some (pm_R 60), some (pm_I (nI i)), some (pm_I (nI k)), l6] [pm_I v2] g σ₂ τ₁ (cu + 1) (su + 6) mc ms _
  refine pm_istore d_L_law_287 (by decide) ?_
  refine pm_aload_n d_L_law_289 rfl ?_
  refine pm_callR (i := 48) (ci := 5) (rest := []) [] hB d_L_law_290 hc_L_68 (show pm_C b (d + 31) km_M_thrown [pm_R 48] g σ₂ τ₁ 0 0 (pm_Rd (nI k) σ₂ τ₁) by
    have h9 := k_M_thrown (b := b) (d := d + 31) (σ := σ₂) (τ := τ₁) hg hB
    rw [m3] at h9
    exact h9) (hg.s rfl) (hg.i (by decide)) rfl rfl rfl rfl (Nat.le_of_ble_eq_true rfl) (Nat.le_of_ble_eq_true rfl) (by omega) (by omega) ?_
  refine pm_iload d_L_law_293 rfl ?_
  refine pm_icmp_eq_t 300 d_L_law_295 rfl rfl ?_
  refine pm_iload d_L_law_300 rfl ?_
  refine pm_if_ne 317 d_L_law_302 rfl (fun c302 => ?_) (fun c302 => ?_)
  · refine pm_goto 1086 d_L_law_317 rfl ?_
    -- at 1086: lo=[some (pm_S), some (pm_R 0), some (pm_R 48), some (pm_R 60), some (pm_I (nI i)), some (pm_I (nI k)), some (pm_I v2)] st=[]
    exact K _ _ _ _ _ _ _ _ _ _ (CI_kfr hq4 m5) m4 hq5 (by omega) (by omega)
  · refine pm_aload_n d_L_law_305 rfl ?_
    refine pm_iconst' (nI 0) d_L_law_306 (by decide) ?_
    refine pm_laload 0 d_L_law_307 (hg.s rfl) (hg.i (by decide)) rfl (by decide) (by decide) ?_
    refine pm_iload d_L_law_308 rfl ?_
    refine pm_i2l d_L_law_310 ?_
    refine pm_lcmp d_L_law_311 ?_
    refine pm_if_eq_t 317 d_L_law_312 rfl (by
      have hk0 : k = 0 := (nI_eq (show k < 2 ^ 31 by omega) (show 0 < 2 ^ 31 by decide)).mp c302
      rw [hq3 hk0, m2 hk0]
      exact lg_self _) ?_
    refine pm_goto 1086 d_L_law_317 rfl ?_
    -- at 1086: lo=[some (pm_S), some (pm_R 0), some (pm_R 48), some (pm_R 60), some (pm_I (nI i)), some (pm_I (nI k)), some (pm_I v2)] st=[]
    exact K _ _ _ _ _ _ _ _ _ _ (CI_kfr hq4 m5) m4 hq5 (by omega) (by omega)
theorem w_move (hg : pm_gok 61 g) (hB : pm_base b) (hX : pm_baseX b) (hA : pm_asg b) (hC : CI_ n ch L dm σ) (hR : RI_ n L dm σ) (hc : ch < 2 ^ 31) (hi : i + 4 ≤ xl_ b) (hl : xl_ b ≤ 2048) (hcu : cu + 1 ≤ mc) (hsu : su + 6 ≤ ms) (K : ∀ (n' ch' : Nat) (L' : Nat → List Nat) (dm' : Nat → Nat) (σ' : pI) (τ' : pJ) (cu' su' : Nat) (l5 l6 : Option pV), CI_ n' ch' L' dm' σ' → RI_ n' L' dm' σ' → ch' ≤ ch + 1 → cu' ≤ cu + 1 → su' ≤ su + 6 → pm_Y b (d + 31 + 1) km_L_law 1086 true [some (pm_S), some (pm_R 0), some (pm_R 48), some (pm_R 60), some (pm_I (nI i)), l5, l6] [] g σ' τ' cu' su' mc ms lE_) : pm_Y b (d + 31 + 1) km_L_law 320 true [some (pm_S), some (pm_R 0), some (pm_R 48), some (pm_R 60), some (pm_I (nI i)), l5, l6] [] g σ τ cu su mc ms lE_ := by
  refine pm_aload_n d_L_law_320 rfl ?_
  refine pm_aload_s d_L_law_321 rfl ?_
  refine pm_iload d_L_law_322 rfl ?_
  refine pm_iconst' (nI 1) d_L_law_324 (by decide) ?_
  refine pm_iaddN d_L_law_325 ?_
  refine pm_sld (i + 1) hB d_L_law_326 rfl (by omega) (by omega) ?_
  refine pm_aload_s d_L_law_327 rfl ?_
  refine pm_iload d_L_law_328 rfl ?_
  refine pm_iconst' (nI 2) d_L_law_330 (by decide) ?_
  refine pm_iaddN d_L_law_331 ?_
  refine pm_sld (i + 2) hB d_L_law_332 rfl (by omega) (by omega) ?_
  refine pm_aload_s d_L_law_333 rfl ?_
  refine pm_iload d_L_law_334 rfl ?_
  refine pm_iconst' (nI 3) d_L_law_336 (by decide) ?_
  refine pm_iaddN d_L_law_337 ?_
  refine pm_sld (i + 3) hB d_L_law_338 rfl (by omega) (by omega) ?_
  refine pm_aload_n d_L_law_339 rfl ?_
  refine pm_callS (rest := []) (vs := [pm_R 0, pm_I (xs_ b (i + 1)), pm_I (xs_ b (i + 2)), pm_I (xs_ b (i + 3)), pm_R 60]) hB d_L_law_340 hs_L_79 (k_L_move hg hB hX hA hC hc) rfl rfl rfl (Nat.le_of_ble_eq_true rfl) (Nat.le_of_ble_eq_true rfl) (by omega) (by omega) (fun v340 σ₁ τ₁ hv340 hq340 => ?_)
  obtain ⟨k, val, n', ch', L', dm', hq1, hq2, rfl, hq3, hq4, hq5, hq6⟩ := hq340
  show pm_Y b _ km_L_law 343 true [some (pm_S), some (pm_R 0), some (pm_R 48), some (pm_R 60), some (pm_I (nI i)), l5, l6] [pm_I (nI k)] g σ₁ τ₁ (cu + 1) (su + 6) mc ms _
  refine pm_istore d_L_law_343 (by decide) ?_
  refine pm_aload_n d_L_law_345 rfl ?_
  refine pm_aload_s d_L_law_346 rfl ?_
  refine pm_iload d_L_law_347 rfl ?_
  refine pm_iconst' (nI 1) d_L_law_349 (by decide) ?_
  refine pm_iaddN d_L_law_350 ?_
  refine pm_sld (i + 1) hB d_L_law_351 rfl (by omega) (by omega) ?_
  refine pm_aload_s d_L_law_352 rfl ?_
  refine pm_iload d_L_law_353 rfl ?_
  refine pm_iconst' (nI 2) d_L_law_355 (by decide) ?_
  refine pm_iaddN d_L_law_356 ?_
  refine pm_sld (i + 2) hB d_L_law_357 rfl (by omega) (by omega) ?_
  refine pm_aload_s d_L_law_358 rfl ?_
  refine pm_iload d_L_law_359 rfl ?_
  refine pm_iconst' (nI 3) d_L_law_361 (by decide) ?_
  refine pm_iaddN d_L_law_362 ?_
  refine pm_sld (i + 3) hB d_L_law_363 rfl (by omega) (by omega) ?_
  refine pm_callWp (i := 48) (ci := 5) (rest := []) [pm_I (xs_ b (i + 1)), pm_I (xs_ b (i + 2)), pm_I (xs_ b (i + 3))] hB d_L_law_364 hc_L_82 (pm_C_up (show 0 + 10 ≤ d + 31 by omega) (q_M_move hg hB hC.w hC.2.2.1 (RI_hfr hR hq6) hq1)) (hg.s rfl) (hg.i (by decide)) rfl rfl rfl rfl (Nat.le_of_ble_eq_true rfl) (Nat.le_of_ble_eq_true rfl) (by omega) (by omega) (fun v364 σ₂ hv364 hq364 => ?_)
  obtain ⟨⟨v2, rfl, m2⟩, m3, m4, m5⟩ := hq364
  show pm_Y b _ km_L_law 367 true [some (pm_S), some (pm_R 0), some (pm_R 48), some (pm_R 60), some (pm_I (nI i)), some (pm_I (nI k)), l6] [pm_I v2] g σ₂ τ₁ (cu + 1) (su + 6) mc ms _
  refine pm_istore d_L_law_367 (by decide) ?_
  refine pm_aload_n d_L_law_369 rfl ?_
  refine pm_callR (i := 48) (ci := 5) (rest := []) [] hB d_L_law_370 hc_L_68 (show pm_C b (d + 31) km_M_thrown [pm_R 48] g σ₂ τ₁ 0 0 (pm_Rd (nI k) σ₂ τ₁) by
    have h9 := k_M_thrown (b := b) (d := d + 31) (σ := σ₂) (τ := τ₁) hg hB
    rw [m3] at h9
    exact h9) (hg.s rfl) (hg.i (by decide)) rfl rfl rfl rfl (Nat.le_of_ble_eq_true rfl) (Nat.le_of_ble_eq_true rfl) (by omega) (by omega) ?_
  refine pm_iload d_L_law_373 rfl ?_
  refine pm_icmp_eq_t 380 d_L_law_375 rfl rfl ?_
  refine pm_iload d_L_law_380 rfl ?_
  refine pm_if_ne 397 d_L_law_382 rfl (fun c382 => ?_) (fun c382 => ?_)
  · refine pm_goto 1086 d_L_law_397 rfl ?_
    -- at 1086: lo=[some (pm_S), some (pm_R 0), some (pm_R 48), some (pm_R 60), some (pm_I (nI i)), some (pm_I (nI k)), some (pm_I v2)] st=[]
    exact K _ _ _ _ _ _ _ _ _ _ (CI_kfr hq4 m5) m4 hq5 (by omega) (by omega)
  · refine pm_aload_n d_L_law_385 rfl ?_
    refine pm_iconst' (nI 0) d_L_law_386 (by decide) ?_
    refine pm_laload 0 d_L_law_387 (hg.s rfl) (hg.i (by decide)) rfl (by decide) (by decide) ?_
    refine pm_iload d_L_law_388 rfl ?_
    refine pm_i2l d_L_law_390 ?_
    refine pm_lcmp d_L_law_391 ?_
    refine pm_if_eq_t 397 d_L_law_392 rfl (by
      have hk0 : k = 0 := (nI_eq (show k < 2 ^ 31 by omega) (show 0 < 2 ^ 31 by decide)).mp c382
      rw [hq3 hk0, m2 hk0]
      exact lg_self _) ?_
    refine pm_goto 1086 d_L_law_397 rfl ?_
    -- at 1086: lo=[some (pm_S), some (pm_R 0), some (pm_R 48), some (pm_R 60), some (pm_I (nI i)), some (pm_I (nI k)), some (pm_I v2)] st=[]
    exact K _ _ _ _ _ _ _ _ _ _ (CI_kfr hq4 m5) m4 hq5 (by omega) (by omega)
theorem w_at (hg : pm_gok 61 g) (hB : pm_base b) (hX : pm_baseX b) (hA : pm_asg b) (hC : CI_ n ch L dm σ) (hR : RI_ n L dm σ) (hc : ch < 2 ^ 31) (hi : i + 4 ≤ xl_ b) (hl : xl_ b ≤ 2048) (hcu : cu + 1 ≤ mc) (hsu : su + 6 ≤ ms) (K : ∀ (n' ch' : Nat) (L' : Nat → List Nat) (dm' : Nat → Nat) (σ' : pI) (τ' : pJ) (cu' su' : Nat) (l5 l6 : Option pV), CI_ n' ch' L' dm' σ' → RI_ n' L' dm' σ' → ch' ≤ ch + 1 → cu' ≤ cu + 1 → su' ≤ su + 6 → pm_Y b (d + 31 + 1) km_L_law 1086 true [some (pm_S), some (pm_R 0), some (pm_R 48), some (pm_R 60), some (pm_I (nI i)), l5, l6] [] g σ' τ' cu' su' mc ms lE_) : pm_Y b (d + 31 + 1) km_L_law 400 true [some (pm_S), some (pm_R 0), some (pm_R 48), some (pm_R 60), some (pm_I (nI i)), l5, l6] [] g σ τ cu su mc ms lE_ := by
  refine pm_aload_n d_L_law_400 rfl ?_
  refine pm_aload_s d_L_law_401 rfl ?_
  refine pm_iload d_L_law_402 rfl ?_
  refine pm_iconst' (nI 1) d_L_law_404 (by decide) ?_
  refine pm_iaddN d_L_law_405 ?_
  refine pm_sld (i + 1) hB d_L_law_406 rfl (by omega) (by omega) ?_
  refine pm_aload_s d_L_law_407 rfl ?_
  refine pm_iload d_L_law_408 rfl ?_
  refine pm_iconst' (nI 2) d_L_law_410 (by decide) ?_
  refine pm_iaddN d_L_law_411 ?_
  refine pm_sld (i + 2) hB d_L_law_412 rfl (by omega) (by omega) ?_
  refine pm_aload_n d_L_law_413 rfl ?_
  refine pm_callS (rest := []) (vs := [pm_R 0, pm_I (xs_ b (i + 1)), pm_I (xs_ b (i + 2)), pm_R 60]) hB d_L_law_414 hs_L_83 (k_L_at hg hB hX hA hC hc) rfl rfl rfl (Nat.le_of_ble_eq_true rfl) (Nat.le_of_ble_eq_true rfl) (by omega) (by omega) (fun v414 σ₁ τ₁ hv414 hq414 => ?_)
  obtain ⟨k, val, n', ch', L', dm', hq1, hq2, rfl, hq3, hq4, hq5, hq6⟩ := hq414
  show pm_Y b _ km_L_law 417 true [some (pm_S), some (pm_R 0), some (pm_R 48), some (pm_R 60), some (pm_I (nI i)), l5, l6] [pm_I (nI k)] g σ₁ τ₁ (cu + 1) (su + 6) mc ms _
  refine pm_istore d_L_law_417 (by decide) ?_
  refine pm_aload_n d_L_law_419 rfl ?_
  refine pm_aload_s d_L_law_420 rfl ?_
  refine pm_iload d_L_law_421 rfl ?_
  refine pm_iconst' (nI 1) d_L_law_423 (by decide) ?_
  refine pm_iaddN d_L_law_424 ?_
  refine pm_sld (i + 1) hB d_L_law_425 rfl (by omega) (by omega) ?_
  refine pm_aload_s d_L_law_426 rfl ?_
  refine pm_iload d_L_law_427 rfl ?_
  refine pm_iconst' (nI 2) d_L_law_429 (by decide) ?_
  refine pm_iaddN d_L_law_430 ?_
  refine pm_sld (i + 2) hB d_L_law_431 rfl (by omega) (by omega) ?_
  refine pm_callWp (i := 48) (ci := 5) (rest := []) [pm_I (xs_ b (i + 1)), pm_I (xs_ b (i + 2))] hB d_L_law_432 hc_L_85 (pm_C_up (show 0 + 10 ≤ d + 31 by omega) (q_M_at hg hB hC.w hC.2.2.1 (RI_hfr hR hq6) hq1)) (hg.s rfl) (hg.i (by decide)) rfl rfl rfl rfl (Nat.le_of_ble_eq_true rfl) (Nat.le_of_ble_eq_true rfl) (by omega) (by omega) (fun v432 σ₂ hv432 hq432 => ?_)
  obtain ⟨⟨v2, rfl, m2⟩, m3, m4, m5⟩ := hq432
  show pm_Y b _ km_L_law 435 true [some (pm_S), some (pm_R 0), some (pm_R 48), some (pm_R 60), some (pm_I (nI i)), some (pm_I (nI k)), l6] [pm_I v2] g σ₂ τ₁ (cu + 1) (su + 6) mc ms _
  refine pm_istore d_L_law_435 (by decide) ?_
  refine pm_aload_n d_L_law_437 rfl ?_
  refine pm_callR (i := 48) (ci := 5) (rest := []) [] hB d_L_law_438 hc_L_68 (show pm_C b (d + 31) km_M_thrown [pm_R 48] g σ₂ τ₁ 0 0 (pm_Rd (nI k) σ₂ τ₁) by
    have h9 := k_M_thrown (b := b) (d := d + 31) (σ := σ₂) (τ := τ₁) hg hB
    rw [m3] at h9
    exact h9) (hg.s rfl) (hg.i (by decide)) rfl rfl rfl rfl (Nat.le_of_ble_eq_true rfl) (Nat.le_of_ble_eq_true rfl) (by omega) (by omega) ?_
  refine pm_iload d_L_law_441 rfl ?_
  refine pm_icmp_eq_t 448 d_L_law_443 rfl rfl ?_
  refine pm_iload d_L_law_448 rfl ?_
  refine pm_if_ne 465 d_L_law_450 rfl (fun c450 => ?_) (fun c450 => ?_)
  · refine pm_goto 1086 d_L_law_465 rfl ?_
    -- at 1086: lo=[some (pm_S), some (pm_R 0), some (pm_R 48), some (pm_R 60), some (pm_I (nI i)), some (pm_I (nI k)), some (pm_I v2)] st=[]
    exact K _ _ _ _ _ _ _ _ _ _ (CI_kfr hq4 m5) m4 hq5 (by omega) (by omega)
  · refine pm_aload_n d_L_law_453 rfl ?_
    refine pm_iconst' (nI 0) d_L_law_454 (by decide) ?_
    refine pm_laload 0 d_L_law_455 (hg.s rfl) (hg.i (by decide)) rfl (by decide) (by decide) ?_
    refine pm_iload d_L_law_456 rfl ?_
    refine pm_i2l d_L_law_458 ?_
    refine pm_lcmp d_L_law_459 ?_
    refine pm_if_eq_t 465 d_L_law_460 rfl (by
      have hk0 : k = 0 := (nI_eq (show k < 2 ^ 31 by omega) (show 0 < 2 ^ 31 by decide)).mp c450
      rw [hq3 hk0, m2 hk0]
      exact lg_self _) ?_
    refine pm_goto 1086 d_L_law_465 rfl ?_
    -- at 1086: lo=[some (pm_S), some (pm_R 0), some (pm_R 48), some (pm_R 60), some (pm_I (nI i)), some (pm_I (nI k)), some (pm_I v2)] st=[]
    exact K _ _ _ _ _ _ _ _ _ _ (CI_kfr hq4 m5) m4 hq5 (by omega) (by omega)
theorem w_place (hg : pm_gok 61 g) (hB : pm_base b) (hX : pm_baseX b) (hA : pm_asg b) (hC : CI_ n ch L dm σ) (hR : RI_ n L dm σ) (hc : ch < 2 ^ 31) (hi : i + 4 ≤ xl_ b) (hl : xl_ b ≤ 2048) (hcu : cu + 1 ≤ mc) (hsu : su + 6 ≤ ms) (K : ∀ (n' ch' : Nat) (L' : Nat → List Nat) (dm' : Nat → Nat) (σ' : pI) (τ' : pJ) (cu' su' : Nat) (l5 l6 : Option pV), CI_ n' ch' L' dm' σ' → RI_ n' L' dm' σ' → ch' ≤ ch + 1 → cu' ≤ cu + 1 → su' ≤ su + 6 → pm_Y b (d + 31 + 1) km_L_law 1086 true [some (pm_S), some (pm_R 0), some (pm_R 48), some (pm_R 60), some (pm_I (nI i)), l5, l6] [] g σ' τ' cu' su' mc ms lE_) : pm_Y b (d + 31 + 1) km_L_law 468 true [some (pm_S), some (pm_R 0), some (pm_R 48), some (pm_R 60), some (pm_I (nI i)), l5, l6] [] g σ τ cu su mc ms lE_ := by
  refine pm_aload_n d_L_law_468 rfl ?_
  refine pm_aload_s d_L_law_469 rfl ?_
  refine pm_iload d_L_law_470 rfl ?_
  refine pm_iconst' (nI 1) d_L_law_472 (by decide) ?_
  refine pm_iaddN d_L_law_473 ?_
  refine pm_sld (i + 1) hB d_L_law_474 rfl (by omega) (by omega) ?_
  refine pm_aload_s d_L_law_475 rfl ?_
  refine pm_iload d_L_law_476 rfl ?_
  refine pm_iconst' (nI 2) d_L_law_478 (by decide) ?_
  refine pm_iaddN d_L_law_479 ?_
  refine pm_sld (i + 2) hB d_L_law_480 rfl (by omega) (by omega) ?_
  refine pm_aload_n d_L_law_481 rfl ?_
  refine pm_callS (rest := []) (vs := [pm_R 0, pm_I (xs_ b (i + 1)), pm_I (xs_ b (i + 2)), pm_R 60]) hB d_L_law_482 hs_L_86 (k_L_place hg hB hX hA hC hc) rfl rfl rfl (Nat.le_of_ble_eq_true rfl) (Nat.le_of_ble_eq_true rfl) (by omega) (by omega) (fun v482 σ₁ τ₁ hv482 hq482 => ?_)
  obtain ⟨k, val, n', ch', L', dm', hq1, hq2, rfl, hq3, hq4, hq5, hq6⟩ := hq482
  show pm_Y b _ km_L_law 485 true [some (pm_S), some (pm_R 0), some (pm_R 48), some (pm_R 60), some (pm_I (nI i)), l5, l6] [pm_I (nI k)] g σ₁ τ₁ (cu + 1) (su + 6) mc ms _
  refine pm_istore d_L_law_485 (by decide) ?_
  refine pm_aload_n d_L_law_487 rfl ?_
  refine pm_aload_s d_L_law_488 rfl ?_
  refine pm_iload d_L_law_489 rfl ?_
  refine pm_iconst' (nI 1) d_L_law_491 (by decide) ?_
  refine pm_iaddN d_L_law_492 ?_
  refine pm_sld (i + 1) hB d_L_law_493 rfl (by omega) (by omega) ?_
  refine pm_aload_s d_L_law_494 rfl ?_
  refine pm_iload d_L_law_495 rfl ?_
  refine pm_iconst' (nI 2) d_L_law_497 (by decide) ?_
  refine pm_iaddN d_L_law_498 ?_
  refine pm_sld (i + 2) hB d_L_law_499 rfl (by omega) (by omega) ?_
  refine pm_callWp (i := 48) (ci := 5) (rest := []) [pm_I (xs_ b (i + 1)), pm_I (xs_ b (i + 2))] hB d_L_law_500 hc_L_88 (pm_C_up (show 0 + 10 ≤ d + 31 by omega) (q_M_place hg hB hC.w hC.2.2.1 (RI_hfr hR hq6) hq1)) (hg.s rfl) (hg.i (by decide)) rfl rfl rfl rfl (Nat.le_of_ble_eq_true rfl) (Nat.le_of_ble_eq_true rfl) (by omega) (by omega) (fun v500 σ₂ hv500 hq500 => ?_)
  obtain ⟨⟨v2, rfl, m2⟩, m3, m4, m5⟩ := hq500
  show pm_Y b _ km_L_law 503 true [some (pm_S), some (pm_R 0), some (pm_R 48), some (pm_R 60), some (pm_I (nI i)), some (pm_I (nI k)), l6] [pm_I v2] g σ₂ τ₁ (cu + 1) (su + 6) mc ms _
  refine pm_istore d_L_law_503 (by decide) ?_
  refine pm_aload_n d_L_law_505 rfl ?_
  refine pm_callR (i := 48) (ci := 5) (rest := []) [] hB d_L_law_506 hc_L_68 (show pm_C b (d + 31) km_M_thrown [pm_R 48] g σ₂ τ₁ 0 0 (pm_Rd (nI k) σ₂ τ₁) by
    have h9 := k_M_thrown (b := b) (d := d + 31) (σ := σ₂) (τ := τ₁) hg hB
    rw [m3] at h9
    exact h9) (hg.s rfl) (hg.i (by decide)) rfl rfl rfl rfl (Nat.le_of_ble_eq_true rfl) (Nat.le_of_ble_eq_true rfl) (by omega) (by omega) ?_
  refine pm_iload d_L_law_509 rfl ?_
  refine pm_icmp_eq_t 516 d_L_law_511 rfl rfl ?_
  refine pm_iload d_L_law_516 rfl ?_
  refine pm_if_ne 533 d_L_law_518 rfl (fun c518 => ?_) (fun c518 => ?_)
  · refine pm_goto 1086 d_L_law_533 rfl ?_
    -- at 1086: lo=[some (pm_S), some (pm_R 0), some (pm_R 48), some (pm_R 60), some (pm_I (nI i)), some (pm_I (nI k)), some (pm_I v2)] st=[]
    exact K _ _ _ _ _ _ _ _ _ _ (CI_kfr hq4 m5) m4 hq5 (by omega) (by omega)
  · refine pm_aload_n d_L_law_521 rfl ?_
    refine pm_iconst' (nI 0) d_L_law_522 (by decide) ?_
    refine pm_laload 0 d_L_law_523 (hg.s rfl) (hg.i (by decide)) rfl (by decide) (by decide) ?_
    refine pm_iload d_L_law_524 rfl ?_
    refine pm_i2l d_L_law_526 ?_
    refine pm_lcmp d_L_law_527 ?_
    refine pm_if_eq_t 533 d_L_law_528 rfl (by
      have hk0 : k = 0 := (nI_eq (show k < 2 ^ 31 by omega) (show 0 < 2 ^ 31 by decide)).mp c518
      rw [hq3 hk0, m2 hk0]
      exact lg_self _) ?_
    refine pm_goto 1086 d_L_law_533 rfl ?_
    -- at 1086: lo=[some (pm_S), some (pm_R 0), some (pm_R 48), some (pm_R 60), some (pm_I (nI i)), some (pm_I (nI k)), some (pm_I v2)] st=[]
    exact K _ _ _ _ _ _ _ _ _ _ (CI_kfr hq4 m5) m4 hq5 (by omega) (by omega)
theorem w_pair (hg : pm_gok 61 g) (hB : pm_base b) (hX : pm_baseX b) (hA : pm_asg b) (hC : CI_ n ch L dm σ) (hR : RI_ n L dm σ) (hc : ch < 2 ^ 31) (hi : i + 4 ≤ xl_ b) (hl : xl_ b ≤ 2048) (hcu : cu + 1 ≤ mc) (hsu : su + 6 ≤ ms) (K : ∀ (n' ch' : Nat) (L' : Nat → List Nat) (dm' : Nat → Nat) (σ' : pI) (τ' : pJ) (cu' su' : Nat) (l5 l6 : Option pV), CI_ n' ch' L' dm' σ' → RI_ n' L' dm' σ' → ch' ≤ ch + 1 → cu' ≤ cu + 1 → su' ≤ su + 6 → pm_Y b (d + 31 + 1) km_L_law 1086 true [some (pm_S), some (pm_R 0), some (pm_R 48), some (pm_R 60), some (pm_I (nI i)), l5, l6] [] g σ' τ' cu' su' mc ms lE_) : pm_Y b (d + 31 + 1) km_L_law 536 true [some (pm_S), some (pm_R 0), some (pm_R 48), some (pm_R 60), some (pm_I (nI i)), l5, l6] [] g σ τ cu su mc ms lE_ := by
  refine pm_aload_n d_L_law_536 rfl ?_
  refine pm_aload_s d_L_law_537 rfl ?_
  refine pm_iload d_L_law_538 rfl ?_
  refine pm_iconst' (nI 1) d_L_law_540 (by decide) ?_
  refine pm_iaddN d_L_law_541 ?_
  refine pm_sld (i + 1) hB d_L_law_542 rfl (by omega) (by omega) ?_
  refine pm_aload_s d_L_law_543 rfl ?_
  refine pm_iload d_L_law_544 rfl ?_
  refine pm_iconst' (nI 2) d_L_law_546 (by decide) ?_
  refine pm_iaddN d_L_law_547 ?_
  refine pm_sld (i + 2) hB d_L_law_548 rfl (by omega) (by omega) ?_
  refine pm_aload_n d_L_law_549 rfl ?_
  refine pm_callS (rest := []) (vs := [pm_R 0, pm_I (xs_ b (i + 1)), pm_I (xs_ b (i + 2)), pm_R 60]) hB d_L_law_550 hs_L_89 (k_L_pair hg hB hX hA hC hc) rfl rfl rfl (Nat.le_of_ble_eq_true rfl) (Nat.le_of_ble_eq_true rfl) (by omega) (by omega) (fun v550 σ₁ τ₁ hv550 hq550 => ?_)
  obtain ⟨k, val, n', ch', L', dm', hq1, hq2, rfl, hq3, hq4, hq5, hq6⟩ := hq550
  show pm_Y b _ km_L_law 553 true [some (pm_S), some (pm_R 0), some (pm_R 48), some (pm_R 60), some (pm_I (nI i)), l5, l6] [pm_I (nI k)] g σ₁ τ₁ (cu + 1) (su + 6) mc ms _
  refine pm_istore d_L_law_553 (by decide) ?_
  refine pm_aload_n d_L_law_555 rfl ?_
  refine pm_aload_s d_L_law_556 rfl ?_
  refine pm_iload d_L_law_557 rfl ?_
  refine pm_iconst' (nI 1) d_L_law_559 (by decide) ?_
  refine pm_iaddN d_L_law_560 ?_
  refine pm_sld (i + 1) hB d_L_law_561 rfl (by omega) (by omega) ?_
  refine pm_aload_s d_L_law_562 rfl ?_
  refine pm_iload d_L_law_563 rfl ?_
  refine pm_iconst' (nI 2) d_L_law_565 (by decide) ?_
  refine pm_iaddN d_L_law_566 ?_
  refine pm_sld (i + 2) hB d_L_law_567 rfl (by omega) (by omega) ?_
  refine pm_callWp (i := 48) (ci := 5) (rest := []) [pm_I (xs_ b (i + 1)), pm_I (xs_ b (i + 2))] hB d_L_law_568 hc_L_91 (pm_C_up (show 0 + 10 ≤ d + 31 by omega) (q_M_pair hg hB hC.w hC.2.2.1 (RI_hfr hR hq6) hq1)) (hg.s rfl) (hg.i (by decide)) rfl rfl rfl rfl (Nat.le_of_ble_eq_true rfl) (Nat.le_of_ble_eq_true rfl) (by omega) (by omega) (fun v568 σ₂ hv568 hq568 => ?_)
  obtain ⟨⟨v2, rfl, m2⟩, m3, m4, m5⟩ := hq568
  show pm_Y b _ km_L_law 571 true [some (pm_S), some (pm_R 0), some (pm_R 48), some (pm_R 60), some (pm_I (nI i)), some (pm_I (nI k)), l6] [pm_I v2] g σ₂ τ₁ (cu + 1) (su + 6) mc ms _
  refine pm_istore d_L_law_571 (by decide) ?_
  refine pm_aload_n d_L_law_573 rfl ?_
  refine pm_callR (i := 48) (ci := 5) (rest := []) [] hB d_L_law_574 hc_L_68 (show pm_C b (d + 31) km_M_thrown [pm_R 48] g σ₂ τ₁ 0 0 (pm_Rd (nI k) σ₂ τ₁) by
    have h9 := k_M_thrown (b := b) (d := d + 31) (σ := σ₂) (τ := τ₁) hg hB
    rw [m3] at h9
    exact h9) (hg.s rfl) (hg.i (by decide)) rfl rfl rfl rfl (Nat.le_of_ble_eq_true rfl) (Nat.le_of_ble_eq_true rfl) (by omega) (by omega) ?_
  refine pm_iload d_L_law_577 rfl ?_
  refine pm_icmp_eq_t 584 d_L_law_579 rfl rfl ?_
  refine pm_iload d_L_law_584 rfl ?_
  refine pm_if_ne 601 d_L_law_586 rfl (fun c586 => ?_) (fun c586 => ?_)
  · refine pm_goto 1086 d_L_law_601 rfl ?_
    -- at 1086: lo=[some (pm_S), some (pm_R 0), some (pm_R 48), some (pm_R 60), some (pm_I (nI i)), some (pm_I (nI k)), some (pm_I v2)] st=[]
    exact K _ _ _ _ _ _ _ _ _ _ (CI_kfr hq4 m5) m4 hq5 (by omega) (by omega)
  · refine pm_aload_n d_L_law_589 rfl ?_
    refine pm_iconst' (nI 0) d_L_law_590 (by decide) ?_
    refine pm_laload 0 d_L_law_591 (hg.s rfl) (hg.i (by decide)) rfl (by decide) (by decide) ?_
    refine pm_iload d_L_law_592 rfl ?_
    refine pm_i2l d_L_law_594 ?_
    refine pm_lcmp d_L_law_595 ?_
    refine pm_if_eq_t 601 d_L_law_596 rfl (by
      have hk0 : k = 0 := (nI_eq (show k < 2 ^ 31 by omega) (show 0 < 2 ^ 31 by decide)).mp c586
      rw [hq3 hk0, m2 hk0]
      exact lg_self _) ?_
    refine pm_goto 1086 d_L_law_601 rfl ?_
    -- at 1086: lo=[some (pm_S), some (pm_R 0), some (pm_R 48), some (pm_R 60), some (pm_I (nI i)), some (pm_I (nI k)), some (pm_I v2)] st=[]
    exact K _ _ _ _ _ _ _ _ _ _ (CI_kfr hq4 m5) m4 hq5 (by omega) (by omega)
theorem w_partner (hg : pm_gok 61 g) (hB : pm_base b) (hX : pm_baseX b) (hA : pm_asg b) (hC : CI_ n ch L dm σ) (hR : RI_ n L dm σ) (hc : ch < 2 ^ 31) (hi : i + 4 ≤ xl_ b) (hl : xl_ b ≤ 2048) (hcu : cu + 1 ≤ mc) (hsu : su + 6 ≤ ms) (K : ∀ (n' ch' : Nat) (L' : Nat → List Nat) (dm' : Nat → Nat) (σ' : pI) (τ' : pJ) (cu' su' : Nat) (l5 l6 : Option pV), CI_ n' ch' L' dm' σ' → RI_ n' L' dm' σ' → ch' ≤ ch + 1 → cu' ≤ cu + 1 → su' ≤ su + 6 → pm_Y b (d + 31 + 1) km_L_law 1086 true [some (pm_S), some (pm_R 0), some (pm_R 48), some (pm_R 60), some (pm_I (nI i)), l5, l6] [] g σ' τ' cu' su' mc ms lE_) : pm_Y b (d + 31 + 1) km_L_law 604 true [some (pm_S), some (pm_R 0), some (pm_R 48), some (pm_R 60), some (pm_I (nI i)), l5, l6] [] g σ τ cu su mc ms lE_ := by
  refine pm_aload_n d_L_law_604 rfl ?_
  refine pm_aload_s d_L_law_605 rfl ?_
  refine pm_iload d_L_law_606 rfl ?_
  refine pm_iconst' (nI 1) d_L_law_608 (by decide) ?_
  refine pm_iaddN d_L_law_609 ?_
  refine pm_sld (i + 1) hB d_L_law_610 rfl (by omega) (by omega) ?_
  refine pm_aload_n d_L_law_611 rfl ?_
  refine pm_callS (rest := []) (vs := [pm_R 0, pm_I (xs_ b (i + 1)), pm_R 60]) hB d_L_law_612 hs_L_92 (k_L_partner hg hB hX hA hC hc) rfl rfl rfl (Nat.le_of_ble_eq_true rfl) (Nat.le_of_ble_eq_true rfl) (by omega) (by omega) (fun v612 σ₁ τ₁ hv612 hq612 => ?_)
  obtain ⟨k, val, n', ch', L', dm', hq1, hq2, rfl, hq3, hq4, hq5, hq6⟩ := hq612
  show pm_Y b _ km_L_law 615 true [some (pm_S), some (pm_R 0), some (pm_R 48), some (pm_R 60), some (pm_I (nI i)), l5, l6] [pm_I (nI k)] g σ₁ τ₁ (cu + 1) (su + 6) mc ms _
  refine pm_istore d_L_law_615 (by decide) ?_
  refine pm_aload_n d_L_law_617 rfl ?_
  refine pm_aload_s d_L_law_618 rfl ?_
  refine pm_iload d_L_law_619 rfl ?_
  refine pm_iconst' (nI 1) d_L_law_621 (by decide) ?_
  refine pm_iaddN d_L_law_622 ?_
  refine pm_sld (i + 1) hB d_L_law_623 rfl (by omega) (by omega) ?_
  refine pm_callWp (i := 48) (ci := 5) (rest := []) [pm_I (xs_ b (i + 1))] hB d_L_law_624 hc_L_94 (pm_C_up (show 0 + 10 ≤ d + 31 by omega) (q_M_partner hg hB hC.w hC.2.2.1 (RI_hfr hR hq6) hq1)) (hg.s rfl) (hg.i (by decide)) rfl rfl rfl rfl (Nat.le_of_ble_eq_true rfl) (Nat.le_of_ble_eq_true rfl) (by omega) (by omega) (fun v624 σ₂ hv624 hq624 => ?_)
  obtain ⟨⟨v2, rfl, m2⟩, m3, m4, m5⟩ := hq624
  show pm_Y b _ km_L_law 627 true [some (pm_S), some (pm_R 0), some (pm_R 48), some (pm_R 60), some (pm_I (nI i)), some (pm_I (nI k)), l6] [pm_I v2] g σ₂ τ₁ (cu + 1) (su + 6) mc ms _
  refine pm_istore d_L_law_627 (by decide) ?_
  refine pm_aload_n d_L_law_629 rfl ?_
  refine pm_callR (i := 48) (ci := 5) (rest := []) [] hB d_L_law_630 hc_L_68 (show pm_C b (d + 31) km_M_thrown [pm_R 48] g σ₂ τ₁ 0 0 (pm_Rd (nI k) σ₂ τ₁) by
    have h9 := k_M_thrown (b := b) (d := d + 31) (σ := σ₂) (τ := τ₁) hg hB
    rw [m3] at h9
    exact h9) (hg.s rfl) (hg.i (by decide)) rfl rfl rfl rfl (Nat.le_of_ble_eq_true rfl) (Nat.le_of_ble_eq_true rfl) (by omega) (by omega) ?_
  refine pm_iload d_L_law_633 rfl ?_
  refine pm_icmp_eq_t 640 d_L_law_635 rfl rfl ?_
  refine pm_iload d_L_law_640 rfl ?_
  refine pm_if_ne 657 d_L_law_642 rfl (fun c642 => ?_) (fun c642 => ?_)
  · refine pm_goto 1086 d_L_law_657 rfl ?_
    -- at 1086: lo=[some (pm_S), some (pm_R 0), some (pm_R 48), some (pm_R 60), some (pm_I (nI i)), some (pm_I (nI k)), some (pm_I v2)] st=[]
    exact K _ _ _ _ _ _ _ _ _ _ (CI_kfr hq4 m5) m4 hq5 (by omega) (by omega)
  · refine pm_aload_n d_L_law_645 rfl ?_
    refine pm_iconst' (nI 0) d_L_law_646 (by decide) ?_
    refine pm_laload 0 d_L_law_647 (hg.s rfl) (hg.i (by decide)) rfl (by decide) (by decide) ?_
    refine pm_iload d_L_law_648 rfl ?_
    refine pm_i2l d_L_law_650 ?_
    refine pm_lcmp d_L_law_651 ?_
    refine pm_if_eq_t 657 d_L_law_652 rfl (by
      have hk0 : k = 0 := (nI_eq (show k < 2 ^ 31 by omega) (show 0 < 2 ^ 31 by decide)).mp c642
      rw [hq3 hk0, m2 hk0]
      exact lg_self _) ?_
    refine pm_goto 1086 d_L_law_657 rfl ?_
    -- at 1086: lo=[some (pm_S), some (pm_R 0), some (pm_R 48), some (pm_R 60), some (pm_I (nI i)), some (pm_I (nI k)), some (pm_I v2)] st=[]
    exact K _ _ _ _ _ _ _ _ _ _ (CI_kfr hq4 m5) m4 hq5 (by omega) (by omega)
theorem w_matched (hg : pm_gok 61 g) (hB : pm_base b) (hX : pm_baseX b) (hA : pm_asg b) (hC : CI_ n ch L dm σ) (hR : RI_ n L dm σ) (hc : ch < 2 ^ 31) (hi : i + 4 ≤ xl_ b) (hl : xl_ b ≤ 2048) (hcu : cu + 1 ≤ mc) (hsu : su + 6 ≤ ms) (K : ∀ (n' ch' : Nat) (L' : Nat → List Nat) (dm' : Nat → Nat) (σ' : pI) (τ' : pJ) (cu' su' : Nat) (l5 l6 : Option pV), CI_ n' ch' L' dm' σ' → RI_ n' L' dm' σ' → ch' ≤ ch + 1 → cu' ≤ cu + 1 → su' ≤ su + 6 → pm_Y b (d + 31 + 1) km_L_law 1086 true [some (pm_S), some (pm_R 0), some (pm_R 48), some (pm_R 60), some (pm_I (nI i)), l5, l6] [] g σ' τ' cu' su' mc ms lE_) : pm_Y b (d + 31 + 1) km_L_law 699 true [some (pm_S), some (pm_R 0), some (pm_R 48), some (pm_R 60), some (pm_I (nI i)), l5, l6] [] g σ τ cu su mc ms lE_ := by
  refine pm_aload_n d_L_law_699 rfl ?_
  refine pm_aload_s d_L_law_700 rfl ?_
  refine pm_iload d_L_law_701 rfl ?_
  refine pm_iconst' (nI 1) d_L_law_703 (by decide) ?_
  refine pm_iaddN d_L_law_704 ?_
  refine pm_sld (i + 1) hB d_L_law_705 rfl (by omega) (by omega) ?_
  refine pm_aload_n d_L_law_706 rfl ?_
  refine pm_callS (rest := []) (vs := [pm_R 0, pm_I (xs_ b (i + 1)), pm_R 60]) hB d_L_law_707 hs_L_107 (k_L_matched hg hB hX hA hC hc) rfl rfl rfl (Nat.le_of_ble_eq_true rfl) (Nat.le_of_ble_eq_true rfl) (by omega) (by omega) (fun v707 σ₁ τ₁ hv707 hq707 => ?_)
  obtain ⟨k, val, n', ch', L', dm', hq1, hq2, rfl, hq3, hq4, hq5, hq6⟩ := hq707
  show pm_Y b _ km_L_law 710 true [some (pm_S), some (pm_R 0), some (pm_R 48), some (pm_R 60), some (pm_I (nI i)), l5, l6] [pm_I (nI k)] g σ₁ τ₁ (cu + 1) (su + 6) mc ms _
  refine pm_istore d_L_law_710 (by decide) ?_
  refine pm_aload_n d_L_law_712 rfl ?_
  refine pm_aload_s d_L_law_713 rfl ?_
  refine pm_iload d_L_law_714 rfl ?_
  refine pm_iconst' (nI 1) d_L_law_716 (by decide) ?_
  refine pm_iaddN d_L_law_717 ?_
  refine pm_sld (i + 1) hB d_L_law_718 rfl (by omega) (by omega) ?_
  refine pm_callWp (i := 48) (ci := 5) (rest := []) [pm_I (xs_ b (i + 1))] hB d_L_law_719 hc_L_109 (pm_C_up (show 0 + 10 ≤ d + 31 by omega) (q_M_matched hg hB hC.w hC.2.2.1 (RI_hfr hR hq6) hq1)) (hg.s rfl) (hg.i (by decide)) rfl rfl rfl rfl (Nat.le_of_ble_eq_true rfl) (Nat.le_of_ble_eq_true rfl) (by omega) (by omega) (fun v719 σ₂ hv719 hq719 => ?_)
  obtain ⟨⟨v2, rfl, m2⟩, m3, m4, m5⟩ := hq719
  show pm_Y b _ km_L_law 722 true [some (pm_S), some (pm_R 0), some (pm_R 48), some (pm_R 60), some (pm_I (nI i)), some (pm_I (nI k)), l6] [pm_I v2] g σ₂ τ₁ (cu + 1) (su + 6) mc ms _
  refine pm_istore d_L_law_722 (by decide) ?_
  refine pm_aload_n d_L_law_724 rfl ?_
  refine pm_callR (i := 48) (ci := 5) (rest := []) [] hB d_L_law_725 hc_L_68 (show pm_C b (d + 31) km_M_thrown [pm_R 48] g σ₂ τ₁ 0 0 (pm_Rd (nI k) σ₂ τ₁) by
    have h9 := k_M_thrown (b := b) (d := d + 31) (σ := σ₂) (τ := τ₁) hg hB
    rw [m3] at h9
    exact h9) (hg.s rfl) (hg.i (by decide)) rfl rfl rfl rfl (Nat.le_of_ble_eq_true rfl) (Nat.le_of_ble_eq_true rfl) (by omega) (by omega) ?_
  refine pm_iload d_L_law_728 rfl ?_
  refine pm_icmp_eq_t 735 d_L_law_730 rfl rfl ?_
  refine pm_iload d_L_law_735 rfl ?_
  refine pm_if_ne 752 d_L_law_737 rfl (fun c737 => ?_) (fun c737 => ?_)
  · refine pm_goto 1086 d_L_law_752 rfl ?_
    -- at 1086: lo=[some (pm_S), some (pm_R 0), some (pm_R 48), some (pm_R 60), some (pm_I (nI i)), some (pm_I (nI k)), some (pm_I v2)] st=[]
    exact K _ _ _ _ _ _ _ _ _ _ (CI_kfr hq4 m5) m4 hq5 (by omega) (by omega)
  · refine pm_aload_n d_L_law_740 rfl ?_
    refine pm_iconst' (nI 0) d_L_law_741 (by decide) ?_
    refine pm_laload 0 d_L_law_742 (hg.s rfl) (hg.i (by decide)) rfl (by decide) (by decide) ?_
    refine pm_iload d_L_law_743 rfl ?_
    refine pm_i2l d_L_law_745 ?_
    refine pm_lcmp d_L_law_746 ?_
    refine pm_if_eq_t 752 d_L_law_747 rfl (by
      have hk0 : k = 0 := (nI_eq (show k < 2 ^ 31 by omega) (show 0 < 2 ^ 31 by decide)).mp c737
      rw [hq3 hk0, m2 hk0]
      exact lg_self _) ?_
    refine pm_goto 1086 d_L_law_752 rfl ?_
    -- at 1086: lo=[some (pm_S), some (pm_R 0), some (pm_R 48), some (pm_R 60), some (pm_I (nI i)), some (pm_I (nI k)), some (pm_I v2)] st=[]
    exact K _ _ _ _ _ _ _ _ _ _ (CI_kfr hq4 m5) m4 hq5 (by omega) (by omega)
theorem w_together (hg : pm_gok 61 g) (hB : pm_base b) (hX : pm_baseX b) (hA : pm_asg b) (hC : CI_ n ch L dm σ) (hR : RI_ n L dm σ) (hc : ch < 2 ^ 31) (hi : i + 4 ≤ xl_ b) (hl : xl_ b ≤ 2048) (hcu : cu + 1 ≤ mc) (hsu : su + 6 ≤ ms) (K : ∀ (n' ch' : Nat) (L' : Nat → List Nat) (dm' : Nat → Nat) (σ' : pI) (τ' : pJ) (cu' su' : Nat) (l5 l6 : Option pV), CI_ n' ch' L' dm' σ' → RI_ n' L' dm' σ' → ch' ≤ ch + 1 → cu' ≤ cu + 1 → su' ≤ su + 6 → pm_Y b (d + 31 + 1) km_L_law 1086 true [some (pm_S), some (pm_R 0), some (pm_R 48), some (pm_R 60), some (pm_I (nI i)), l5, l6] [] g σ' τ' cu' su' mc ms lE_) : pm_Y b (d + 31 + 1) km_L_law 839 true [some (pm_S), some (pm_R 0), some (pm_R 48), some (pm_R 60), some (pm_I (nI i)), l5, l6] [] g σ τ cu su mc ms lE_ := by
  refine pm_aload_n d_L_law_839 rfl ?_
  refine pm_aload_s d_L_law_840 rfl ?_
  refine pm_iload d_L_law_841 rfl ?_
  refine pm_iconst' (nI 1) d_L_law_843 (by decide) ?_
  refine pm_iaddN d_L_law_844 ?_
  refine pm_sld (i + 1) hB d_L_law_845 rfl (by omega) (by omega) ?_
  refine pm_aload_s d_L_law_846 rfl ?_
  refine pm_iload d_L_law_847 rfl ?_
  refine pm_iconst' (nI 2) d_L_law_849 (by decide) ?_
  refine pm_iaddN d_L_law_850 ?_
  refine pm_sld (i + 2) hB d_L_law_851 rfl (by omega) (by omega) ?_
  refine pm_aload_n d_L_law_852 rfl ?_
  refine pm_callS (rest := []) (vs := [pm_R 0, pm_I (xs_ b (i + 1)), pm_I (xs_ b (i + 2)), pm_R 60]) hB d_L_law_853 hs_L_114 (k_L_together hg hB hX hA hC hc) rfl rfl rfl (Nat.le_of_ble_eq_true rfl) (Nat.le_of_ble_eq_true rfl) (by omega) (by omega) (fun v853 σ₁ τ₁ hv853 hq853 => ?_)
  obtain ⟨k, val, n', ch', L', dm', hq1, hq2, rfl, hq3, hq4, hq5, hq6⟩ := hq853
  show pm_Y b _ km_L_law 856 true [some (pm_S), some (pm_R 0), some (pm_R 48), some (pm_R 60), some (pm_I (nI i)), l5, l6] [pm_I (nI k)] g σ₁ τ₁ (cu + 1) (su + 6) mc ms _
  refine pm_istore d_L_law_856 (by decide) ?_
  refine pm_aload_n d_L_law_858 rfl ?_
  refine pm_aload_s d_L_law_859 rfl ?_
  refine pm_iload d_L_law_860 rfl ?_
  refine pm_iconst' (nI 1) d_L_law_862 (by decide) ?_
  refine pm_iaddN d_L_law_863 ?_
  refine pm_sld (i + 1) hB d_L_law_864 rfl (by omega) (by omega) ?_
  refine pm_aload_s d_L_law_865 rfl ?_
  refine pm_iload d_L_law_866 rfl ?_
  refine pm_iconst' (nI 2) d_L_law_868 (by decide) ?_
  refine pm_iaddN d_L_law_869 ?_
  refine pm_sld (i + 2) hB d_L_law_870 rfl (by omega) (by omega) ?_
  refine pm_callWp (i := 48) (ci := 5) (rest := []) [pm_I (xs_ b (i + 1)), pm_I (xs_ b (i + 2))] hB d_L_law_871 hc_L_116 (pm_C_up (show 0 + 10 ≤ d + 31 by omega) (q_M_together hg hB hC.w hC.2.2.1 (RI_hfr hR hq6) hq1)) (hg.s rfl) (hg.i (by decide)) rfl rfl rfl rfl (Nat.le_of_ble_eq_true rfl) (Nat.le_of_ble_eq_true rfl) (by omega) (by omega) (fun v871 σ₂ hv871 hq871 => ?_)
  obtain ⟨⟨v2, rfl, m2⟩, m3, m4, m5⟩ := hq871
  show pm_Y b _ km_L_law 874 true [some (pm_S), some (pm_R 0), some (pm_R 48), some (pm_R 60), some (pm_I (nI i)), some (pm_I (nI k)), l6] [pm_I v2] g σ₂ τ₁ (cu + 1) (su + 6) mc ms _
  refine pm_istore d_L_law_874 (by decide) ?_
  refine pm_aload_n d_L_law_876 rfl ?_
  refine pm_callR (i := 48) (ci := 5) (rest := []) [] hB d_L_law_877 hc_L_68 (show pm_C b (d + 31) km_M_thrown [pm_R 48] g σ₂ τ₁ 0 0 (pm_Rd (nI k) σ₂ τ₁) by
    have h9 := k_M_thrown (b := b) (d := d + 31) (σ := σ₂) (τ := τ₁) hg hB
    rw [m3] at h9
    exact h9) (hg.s rfl) (hg.i (by decide)) rfl rfl rfl rfl (Nat.le_of_ble_eq_true rfl) (Nat.le_of_ble_eq_true rfl) (by omega) (by omega) ?_
  refine pm_iload d_L_law_880 rfl ?_
  refine pm_icmp_eq_t 887 d_L_law_882 rfl rfl ?_
  refine pm_iload d_L_law_887 rfl ?_
  refine pm_if_ne 904 d_L_law_889 rfl (fun c889 => ?_) (fun c889 => ?_)
  · refine pm_goto 1086 d_L_law_904 rfl ?_
    -- at 1086: lo=[some (pm_S), some (pm_R 0), some (pm_R 48), some (pm_R 60), some (pm_I (nI i)), some (pm_I (nI k)), some (pm_I v2)] st=[]
    exact K _ _ _ _ _ _ _ _ _ _ (CI_kfr hq4 m5) m4 hq5 (by omega) (by omega)
  · refine pm_aload_n d_L_law_892 rfl ?_
    refine pm_iconst' (nI 0) d_L_law_893 (by decide) ?_
    refine pm_laload 0 d_L_law_894 (hg.s rfl) (hg.i (by decide)) rfl (by decide) (by decide) ?_
    refine pm_iload d_L_law_895 rfl ?_
    refine pm_i2l d_L_law_897 ?_
    refine pm_lcmp d_L_law_898 ?_
    refine pm_if_eq_t 904 d_L_law_899 rfl (by
      have hk0 : k = 0 := (nI_eq (show k < 2 ^ 31 by omega) (show 0 < 2 ^ 31 by decide)).mp c889
      rw [hq3 hk0, m2 hk0]
      exact lg_self _) ?_
    refine pm_goto 1086 d_L_law_904 rfl ?_
    -- at 1086: lo=[some (pm_S), some (pm_R 0), some (pm_R 48), some (pm_R 60), some (pm_I (nI i)), some (pm_I (nI k)), some (pm_I v2)] st=[]
    exact K _ _ _ _ _ _ _ _ _ _ (CI_kfr hq4 m5) m4 hq5 (by omega) (by omega)
theorem w_party (hg : pm_gok 61 g) (hB : pm_base b) (hX : pm_baseX b) (hA : pm_asg b) (hC : CI_ n ch L dm σ) (hR : RI_ n L dm σ) (hc : ch < 2 ^ 31) (hi : i + 4 ≤ xl_ b) (hl : xl_ b ≤ 2048) (hcu : cu + 1 ≤ mc) (hsu : su + 6 ≤ ms) (K : ∀ (n' ch' : Nat) (L' : Nat → List Nat) (dm' : Nat → Nat) (σ' : pI) (τ' : pJ) (cu' su' : Nat) (l5 l6 : Option pV), CI_ n' ch' L' dm' σ' → RI_ n' L' dm' σ' → ch' ≤ ch + 1 → cu' ≤ cu + 1 → su' ≤ su + 6 → pm_Y b (d + 31 + 1) km_L_law 1086 true [some (pm_S), some (pm_R 0), some (pm_R 48), some (pm_R 60), some (pm_I (nI i)), l5, l6] [] g σ' τ' cu' su' mc ms lE_) : pm_Y b (d + 31 + 1) km_L_law 907 true [some (pm_S), some (pm_R 0), some (pm_R 48), some (pm_R 60), some (pm_I (nI i)), l5, l6] [] g σ τ cu su mc ms lE_ := by
  refine pm_aload_n d_L_law_907 rfl ?_
  refine pm_aload_s d_L_law_908 rfl ?_
  refine pm_iload d_L_law_909 rfl ?_
  refine pm_iconst' (nI 1) d_L_law_911 (by decide) ?_
  refine pm_iaddN d_L_law_912 ?_
  refine pm_sld (i + 1) hB d_L_law_913 rfl (by omega) (by omega) ?_
  refine pm_aload_n d_L_law_914 rfl ?_
  refine pm_callS (rest := []) (vs := [pm_R 0, pm_I (xs_ b (i + 1)), pm_R 60]) hB d_L_law_915 hs_L_117 (k_L_party hg hB hX hA hC hc) rfl rfl rfl (Nat.le_of_ble_eq_true rfl) (Nat.le_of_ble_eq_true rfl) (by omega) (by omega) (fun v915 σ₁ τ₁ hv915 hq915 => ?_)
  obtain ⟨k, val, n', ch', L', dm', hq1, hq2, rfl, hq3, hq4, hq5, hq6⟩ := hq915
  show pm_Y b _ km_L_law 918 true [some (pm_S), some (pm_R 0), some (pm_R 48), some (pm_R 60), some (pm_I (nI i)), l5, l6] [pm_I (nI k)] g σ₁ τ₁ (cu + 1) (su + 6) mc ms _
  refine pm_istore d_L_law_918 (by decide) ?_
  refine pm_aload_n d_L_law_920 rfl ?_
  refine pm_aload_s d_L_law_921 rfl ?_
  refine pm_iload d_L_law_922 rfl ?_
  refine pm_iconst' (nI 1) d_L_law_924 (by decide) ?_
  refine pm_iaddN d_L_law_925 ?_
  refine pm_sld (i + 1) hB d_L_law_926 rfl (by omega) (by omega) ?_
  refine pm_callWp (i := 48) (ci := 5) (rest := []) [pm_I (xs_ b (i + 1))] hB d_L_law_927 hc_L_119 (pm_C_up (show 0 + 10 ≤ d + 31 by omega) (q_M_party hg hB hC.w hC.2.2.1 (RI_hfr hR hq6) hq1)) (hg.s rfl) (hg.i (by decide)) rfl rfl rfl rfl (Nat.le_of_ble_eq_true rfl) (Nat.le_of_ble_eq_true rfl) (by omega) (by omega) (fun v927 σ₂ hv927 hq927 => ?_)
  obtain ⟨⟨v2, rfl, m2⟩, m3, m4, m5⟩ := hq927
  show pm_Y b _ km_L_law 930 true [some (pm_S), some (pm_R 0), some (pm_R 48), some (pm_R 60), some (pm_I (nI i)), some (pm_I (nI k)), l6] [pm_I v2] g σ₂ τ₁ (cu + 1) (su + 6) mc ms _
  refine pm_istore d_L_law_930 (by decide) ?_
  refine pm_aload_n d_L_law_932 rfl ?_
  refine pm_callR (i := 48) (ci := 5) (rest := []) [] hB d_L_law_933 hc_L_68 (show pm_C b (d + 31) km_M_thrown [pm_R 48] g σ₂ τ₁ 0 0 (pm_Rd (nI k) σ₂ τ₁) by
    have h9 := k_M_thrown (b := b) (d := d + 31) (σ := σ₂) (τ := τ₁) hg hB
    rw [m3] at h9
    exact h9) (hg.s rfl) (hg.i (by decide)) rfl rfl rfl rfl (Nat.le_of_ble_eq_true rfl) (Nat.le_of_ble_eq_true rfl) (by omega) (by omega) ?_
  refine pm_iload d_L_law_936 rfl ?_
  refine pm_icmp_eq_t 943 d_L_law_938 rfl rfl ?_
  refine pm_iload d_L_law_943 rfl ?_
  refine pm_if_ne 960 d_L_law_945 rfl (fun c945 => ?_) (fun c945 => ?_)
  · refine pm_goto 1086 d_L_law_960 rfl ?_
    -- at 1086: lo=[some (pm_S), some (pm_R 0), some (pm_R 48), some (pm_R 60), some (pm_I (nI i)), some (pm_I (nI k)), some (pm_I v2)] st=[]
    exact K _ _ _ _ _ _ _ _ _ _ (CI_kfr hq4 m5) m4 hq5 (by omega) (by omega)
  · refine pm_aload_n d_L_law_948 rfl ?_
    refine pm_iconst' (nI 0) d_L_law_949 (by decide) ?_
    refine pm_laload 0 d_L_law_950 (hg.s rfl) (hg.i (by decide)) rfl (by decide) (by decide) ?_
    refine pm_iload d_L_law_951 rfl ?_
    refine pm_i2l d_L_law_953 ?_
    refine pm_lcmp d_L_law_954 ?_
    refine pm_if_eq_t 960 d_L_law_955 rfl (by
      have hk0 : k = 0 := (nI_eq (show k < 2 ^ 31 by omega) (show 0 < 2 ^ 31 by decide)).mp c945
      rw [hq3 hk0, m2 hk0]
      exact lg_self _) ?_
    refine pm_goto 1086 d_L_law_960 rfl ?_
    -- at 1086: lo=[some (pm_S), some (pm_R 0), some (pm_R 48), some (pm_R 60), some (pm_I (nI i)), some (pm_I (nI k)), some (pm_I v2)] st=[]
    exact K _ _ _ _ _ _ _ _ _ _ (CI_kfr hq4 m5) m4 hq5 (by omega) (by omega)
theorem w_next (hg : pm_gok 61 g) (hB : pm_base b) (hX : pm_baseX b) (hA : pm_asg b) (hC : CI_ n ch L dm σ) (hR : RI_ n L dm σ) (hc : ch < 2 ^ 31) (hi : i + 4 ≤ xl_ b) (hl : xl_ b ≤ 2048) (hcu : cu + 1 ≤ mc) (hsu : su + 6 ≤ ms) (K : ∀ (n' ch' : Nat) (L' : Nat → List Nat) (dm' : Nat → Nat) (σ' : pI) (τ' : pJ) (cu' su' : Nat) (l5 l6 : Option pV), CI_ n' ch' L' dm' σ' → RI_ n' L' dm' σ' → ch' ≤ ch + 1 → cu' ≤ cu + 1 → su' ≤ su + 6 → pm_Y b (d + 31 + 1) km_L_law 1086 true [some (pm_S), some (pm_R 0), some (pm_R 48), some (pm_R 60), some (pm_I (nI i)), l5, l6] [] g σ' τ' cu' su' mc ms lE_) : pm_Y b (d + 31 + 1) km_L_law 963 true [some (pm_S), some (pm_R 0), some (pm_R 48), some (pm_R 60), some (pm_I (nI i)), l5, l6] [] g σ τ cu su mc ms lE_ := by
  refine pm_aload_n d_L_law_963 rfl ?_
  refine pm_aload_s d_L_law_964 rfl ?_
  refine pm_iload d_L_law_965 rfl ?_
  refine pm_iconst' (nI 1) d_L_law_967 (by decide) ?_
  refine pm_iaddN d_L_law_968 ?_
  refine pm_sld (i + 1) hB d_L_law_969 rfl (by omega) (by omega) ?_
  refine pm_aload_n d_L_law_970 rfl ?_
  refine pm_callS (rest := []) (vs := [pm_R 0, pm_I (xs_ b (i + 1)), pm_R 60]) hB d_L_law_971 hs_L_120 (k_L_next hg hB hX hA hC hc) rfl rfl rfl (Nat.le_of_ble_eq_true rfl) (Nat.le_of_ble_eq_true rfl) (by omega) (by omega) (fun v971 σ₁ τ₁ hv971 hq971 => ?_)
  obtain ⟨k, val, n', ch', L', dm', hq1, hq2, rfl, hq3, hq4, hq5, hq6⟩ := hq971
  show pm_Y b _ km_L_law 974 true [some (pm_S), some (pm_R 0), some (pm_R 48), some (pm_R 60), some (pm_I (nI i)), l5, l6] [pm_I (nI k)] g σ₁ τ₁ (cu + 1) (su + 6) mc ms _
  refine pm_istore d_L_law_974 (by decide) ?_
  refine pm_aload_n d_L_law_976 rfl ?_
  refine pm_aload_s d_L_law_977 rfl ?_
  refine pm_iload d_L_law_978 rfl ?_
  refine pm_iconst' (nI 1) d_L_law_980 (by decide) ?_
  refine pm_iaddN d_L_law_981 ?_
  refine pm_sld (i + 1) hB d_L_law_982 rfl (by omega) (by omega) ?_
  refine pm_callWp (i := 48) (ci := 5) (rest := []) [pm_I (xs_ b (i + 1))] hB d_L_law_983 hc_L_122 (pm_C_up (show 0 + 10 ≤ d + 31 by omega) (q_M_next hg hB hC.w hC.2.2.1 (RI_hfr hR hq6) hq1)) (hg.s rfl) (hg.i (by decide)) rfl rfl rfl rfl (Nat.le_of_ble_eq_true rfl) (Nat.le_of_ble_eq_true rfl) (by omega) (by omega) (fun v983 σ₂ hv983 hq983 => ?_)
  obtain ⟨⟨v2, rfl, m2⟩, m3, m4, m5⟩ := hq983
  show pm_Y b _ km_L_law 986 true [some (pm_S), some (pm_R 0), some (pm_R 48), some (pm_R 60), some (pm_I (nI i)), some (pm_I (nI k)), l6] [pm_I v2] g σ₂ τ₁ (cu + 1) (su + 6) mc ms _
  refine pm_istore d_L_law_986 (by decide) ?_
  refine pm_aload_n d_L_law_988 rfl ?_
  refine pm_callR (i := 48) (ci := 5) (rest := []) [] hB d_L_law_989 hc_L_68 (show pm_C b (d + 31) km_M_thrown [pm_R 48] g σ₂ τ₁ 0 0 (pm_Rd (nI k) σ₂ τ₁) by
    have h9 := k_M_thrown (b := b) (d := d + 31) (σ := σ₂) (τ := τ₁) hg hB
    rw [m3] at h9
    exact h9) (hg.s rfl) (hg.i (by decide)) rfl rfl rfl rfl (Nat.le_of_ble_eq_true rfl) (Nat.le_of_ble_eq_true rfl) (by omega) (by omega) ?_
  refine pm_iload d_L_law_992 rfl ?_
  refine pm_icmp_eq_t 999 d_L_law_994 rfl rfl ?_
  refine pm_iload d_L_law_999 rfl ?_
  refine pm_if_ne 1016 d_L_law_1001 rfl (fun c1001 => ?_) (fun c1001 => ?_)
  · refine pm_goto 1086 d_L_law_1016 rfl ?_
    -- at 1086: lo=[some (pm_S), some (pm_R 0), some (pm_R 48), some (pm_R 60), some (pm_I (nI i)), some (pm_I (nI k)), some (pm_I v2)] st=[]
    exact K _ _ _ _ _ _ _ _ _ _ (CI_kfr hq4 m5) m4 hq5 (by omega) (by omega)
  · refine pm_aload_n d_L_law_1004 rfl ?_
    refine pm_iconst' (nI 0) d_L_law_1005 (by decide) ?_
    refine pm_laload 0 d_L_law_1006 (hg.s rfl) (hg.i (by decide)) rfl (by decide) (by decide) ?_
    refine pm_iload d_L_law_1007 rfl ?_
    refine pm_i2l d_L_law_1009 ?_
    refine pm_lcmp d_L_law_1010 ?_
    refine pm_if_eq_t 1016 d_L_law_1011 rfl (by
      have hk0 : k = 0 := (nI_eq (show k < 2 ^ 31 by omega) (show 0 < 2 ^ 31 by decide)).mp c1001
      rw [hq3 hk0, m2 hk0]
      exact lg_self _) ?_
    refine pm_goto 1086 d_L_law_1016 rfl ?_
    -- at 1086: lo=[some (pm_S), some (pm_R 0), some (pm_R 48), some (pm_R 60), some (pm_I (nI i)), some (pm_I (nI k)), some (pm_I v2)] st=[]
    exact K _ _ _ _ _ _ _ _ _ _ (CI_kfr hq4 m5) m4 hq5 (by omega) (by omega)
theorem w_extreme (hg : pm_gok 61 g) (hB : pm_base b) (hX : pm_baseX b) (hA : pm_asg b) (hC : CI_ n ch L dm σ) (hR : RI_ n L dm σ) (hc : ch < 2 ^ 31) (hi : i + 4 ≤ xl_ b) (hl : xl_ b ≤ 2048) (hcu : cu + 1 ≤ mc) (hsu : su + 6 ≤ ms) (K : ∀ (n' ch' : Nat) (L' : Nat → List Nat) (dm' : Nat → Nat) (σ' : pI) (τ' : pJ) (cu' su' : Nat) (l5 l6 : Option pV), CI_ n' ch' L' dm' σ' → RI_ n' L' dm' σ' → ch' ≤ ch + 1 → cu' ≤ cu + 1 → su' ≤ su + 6 → pm_Y b (d + 31 + 1) km_L_law 1086 true [some (pm_S), some (pm_R 0), some (pm_R 48), some (pm_R 60), some (pm_I (nI i)), l5, l6] [] g σ' τ' cu' su' mc ms lE_) : pm_Y b (d + 31 + 1) km_L_law 755 true [some (pm_S), some (pm_R 0), some (pm_R 48), some (pm_R 60), some (pm_I (nI i)), l5, l6] [] g σ τ cu su mc ms lE_ := by
  by_cases ex : xs_ b (i + 2) = 0
  · skip
    refine pm_aload_n d_L_law_755 rfl ?_
    refine pm_aload_s d_L_law_756 rfl ?_
    refine pm_iload d_L_law_757 rfl ?_
    refine pm_iconst' (nI 1) d_L_law_759 (by decide) ?_
    refine pm_iaddN d_L_law_760 ?_
    refine pm_sld (i + 1) hB d_L_law_761 rfl (by omega) (by omega) ?_
    refine pm_aload_s d_L_law_762 rfl ?_
    refine pm_iload d_L_law_763 rfl ?_
    refine pm_iconst' (nI 2) d_L_law_765 (by decide) ?_
    refine pm_iaddN d_L_law_766 ?_
    refine pm_sld (i + 2) hB d_L_law_767 rfl (by omega) (by omega) ?_
    refine pm_if_eq_t 775 d_L_law_768 rfl ex ?_
    refine pm_iconst' (nI 0) d_L_law_775 (by decide) ?_
    refine pm_aload_n d_L_law_776 rfl ?_
    refine pm_callS (rest := []) (vs := [pm_R 0, pm_I (xs_ b (i + 1)), pm_I (nI 0), pm_R 60]) hB d_L_law_777 hs_L_110 (k_L_extreme hg hB hX hA hC hc) rfl rfl rfl (Nat.le_of_ble_eq_true rfl) (Nat.le_of_ble_eq_true rfl) (by omega) (by omega) (fun v777 σ₁ τ₁ hv777 hq777 => ?_)
    obtain ⟨k, val, n', ch', L', dm', hq1, hq2, rfl, hq3, hq4, hq5, hq6⟩ := hq777
    show pm_Y b _ km_L_law 780 true [some (pm_S), some (pm_R 0), some (pm_R 48), some (pm_R 60), some (pm_I (nI i)), l5, l6] [pm_I (nI k)] g σ₁ τ₁ (cu + 1) (su + 6) mc ms _
    refine pm_istore d_L_law_780 (by decide) ?_
    refine pm_aload_n d_L_law_782 rfl ?_
    refine pm_aload_s d_L_law_783 rfl ?_
    refine pm_iload d_L_law_784 rfl ?_
    refine pm_iconst' (nI 1) d_L_law_786 (by decide) ?_
    refine pm_iaddN d_L_law_787 ?_
    refine pm_sld (i + 1) hB d_L_law_788 rfl (by omega) (by omega) ?_
    refine pm_aload_s d_L_law_789 rfl ?_
    refine pm_iload d_L_law_790 rfl ?_
    refine pm_iconst' (nI 2) d_L_law_792 (by decide) ?_
    refine pm_iaddN d_L_law_793 ?_
    refine pm_sld (i + 2) hB d_L_law_794 rfl (by omega) (by omega) ?_
    refine pm_if_eq_t 802 d_L_law_795 rfl ex ?_
    refine pm_iconst' (nI 0) d_L_law_802 (by decide) ?_
    refine pm_callWp (i := 48) (ci := 5) (rest := []) [pm_I (xs_ b (i + 1)), pm_I (nI 0)] hB d_L_law_803 hc_L_113 (pm_C_up (show 0 + 10 ≤ d + 31 by omega) (q_M_extreme hg hB hC.w hC.2.2.1 (RI_hfr hR hq6) (by first | exact Or.inl rfl | exact Or.inr rfl) hq1)) (hg.s rfl) (hg.i (by decide)) rfl rfl rfl rfl (Nat.le_of_ble_eq_true rfl) (Nat.le_of_ble_eq_true rfl) (by omega) (by omega) (fun v803 σ₂ hv803 hq803 => ?_)
    obtain ⟨⟨v2, rfl, m2⟩, m3, m4, m5⟩ := hq803
    show pm_Y b _ km_L_law 806 true [some (pm_S), some (pm_R 0), some (pm_R 48), some (pm_R 60), some (pm_I (nI i)), some (pm_I (nI k)), l6] [pm_I v2] g σ₂ τ₁ (cu + 1) (su + 6) mc ms _
    refine pm_istore d_L_law_806 (by decide) ?_
    refine pm_aload_n d_L_law_808 rfl ?_
    refine pm_callR (i := 48) (ci := 5) (rest := []) [] hB d_L_law_809 hc_L_68 (show pm_C b (d + 31) km_M_thrown [pm_R 48] g σ₂ τ₁ 0 0 (pm_Rd (nI k) σ₂ τ₁) by
      have h9 := k_M_thrown (b := b) (d := d + 31) (σ := σ₂) (τ := τ₁) hg hB
      rw [m3] at h9
      exact h9) (hg.s rfl) (hg.i (by decide)) rfl rfl rfl rfl (Nat.le_of_ble_eq_true rfl) (Nat.le_of_ble_eq_true rfl) (by omega) (by omega) ?_
    refine pm_iload d_L_law_812 rfl ?_
    refine pm_icmp_eq_t 819 d_L_law_814 rfl rfl ?_
    refine pm_iload d_L_law_819 rfl ?_
    refine pm_if_ne 836 d_L_law_821 rfl (fun c821 => ?_) (fun c821 => ?_)
    · refine pm_goto 1086 d_L_law_836 rfl ?_
      -- at 1086: lo=[some (pm_S), some (pm_R 0), some (pm_R 48), some (pm_R 60), some (pm_I (nI i)), some (pm_I (nI k)), some (pm_I v2)] st=[]
      exact K _ _ _ _ _ _ _ _ _ _ (CI_kfr hq4 m5) m4 hq5 (by omega) (by omega)
    · refine pm_aload_n d_L_law_824 rfl ?_
      refine pm_iconst' (nI 0) d_L_law_825 (by decide) ?_
      refine pm_laload 0 d_L_law_826 (hg.s rfl) (hg.i (by decide)) rfl (by decide) (by decide) ?_
      refine pm_iload d_L_law_827 rfl ?_
      refine pm_i2l d_L_law_829 ?_
      refine pm_lcmp d_L_law_830 ?_
      refine pm_if_eq_t 836 d_L_law_831 rfl (by
        have hk0 : k = 0 := (nI_eq (show k < 2 ^ 31 by omega) (show 0 < 2 ^ 31 by decide)).mp c821
        rw [hq3 hk0, m2 hk0]
        exact lg_self _) ?_
      refine pm_goto 1086 d_L_law_836 rfl ?_
      -- at 1086: lo=[some (pm_S), some (pm_R 0), some (pm_R 48), some (pm_R 60), some (pm_I (nI i)), some (pm_I (nI k)), some (pm_I v2)] st=[]
      exact K _ _ _ _ _ _ _ _ _ _ (CI_kfr hq4 m5) m4 hq5 (by omega) (by omega)
  · skip
    refine pm_aload_n d_L_law_755 rfl ?_
    refine pm_aload_s d_L_law_756 rfl ?_
    refine pm_iload d_L_law_757 rfl ?_
    refine pm_iconst' (nI 1) d_L_law_759 (by decide) ?_
    refine pm_iaddN d_L_law_760 ?_
    refine pm_sld (i + 1) hB d_L_law_761 rfl (by omega) (by omega) ?_
    refine pm_aload_s d_L_law_762 rfl ?_
    refine pm_iload d_L_law_763 rfl ?_
    refine pm_iconst' (nI 2) d_L_law_765 (by decide) ?_
    refine pm_iaddN d_L_law_766 ?_
    refine pm_sld (i + 2) hB d_L_law_767 rfl (by omega) (by omega) ?_
    refine pm_if_eq_f 775 d_L_law_768 rfl ex ?_
    refine pm_iconst' (nI 1) d_L_law_771 (by decide) ?_
    refine pm_goto 776 d_L_law_772 rfl ?_
    refine pm_aload_n d_L_law_776 rfl ?_
    refine pm_callS (rest := []) (vs := [pm_R 0, pm_I (xs_ b (i + 1)), pm_I (nI 1), pm_R 60]) hB d_L_law_777 hs_L_110 (k_L_extreme hg hB hX hA hC hc) rfl rfl rfl (Nat.le_of_ble_eq_true rfl) (Nat.le_of_ble_eq_true rfl) (by omega) (by omega) (fun v777 σ₁ τ₁ hv777 hq777 => ?_)
    obtain ⟨k, val, n', ch', L', dm', hq1, hq2, rfl, hq3, hq4, hq5, hq6⟩ := hq777
    show pm_Y b _ km_L_law 780 true [some (pm_S), some (pm_R 0), some (pm_R 48), some (pm_R 60), some (pm_I (nI i)), l5, l6] [pm_I (nI k)] g σ₁ τ₁ (cu + 1) (su + 6) mc ms _
    refine pm_istore d_L_law_780 (by decide) ?_
    refine pm_aload_n d_L_law_782 rfl ?_
    refine pm_aload_s d_L_law_783 rfl ?_
    refine pm_iload d_L_law_784 rfl ?_
    refine pm_iconst' (nI 1) d_L_law_786 (by decide) ?_
    refine pm_iaddN d_L_law_787 ?_
    refine pm_sld (i + 1) hB d_L_law_788 rfl (by omega) (by omega) ?_
    refine pm_aload_s d_L_law_789 rfl ?_
    refine pm_iload d_L_law_790 rfl ?_
    refine pm_iconst' (nI 2) d_L_law_792 (by decide) ?_
    refine pm_iaddN d_L_law_793 ?_
    refine pm_sld (i + 2) hB d_L_law_794 rfl (by omega) (by omega) ?_
    refine pm_if_eq_f 802 d_L_law_795 rfl ex ?_
    refine pm_iconst' (nI 1) d_L_law_798 (by decide) ?_
    refine pm_goto 803 d_L_law_799 rfl ?_
    refine pm_callWp (i := 48) (ci := 5) (rest := []) [pm_I (xs_ b (i + 1)), pm_I (nI 1)] hB d_L_law_803 hc_L_113 (pm_C_up (show 0 + 10 ≤ d + 31 by omega) (q_M_extreme hg hB hC.w hC.2.2.1 (RI_hfr hR hq6) (by first | exact Or.inl rfl | exact Or.inr rfl) hq1)) (hg.s rfl) (hg.i (by decide)) rfl rfl rfl rfl (Nat.le_of_ble_eq_true rfl) (Nat.le_of_ble_eq_true rfl) (by omega) (by omega) (fun v803 σ₂ hv803 hq803 => ?_)
    obtain ⟨⟨v2, rfl, m2⟩, m3, m4, m5⟩ := hq803
    show pm_Y b _ km_L_law 806 true [some (pm_S), some (pm_R 0), some (pm_R 48), some (pm_R 60), some (pm_I (nI i)), some (pm_I (nI k)), l6] [pm_I v2] g σ₂ τ₁ (cu + 1) (su + 6) mc ms _
    refine pm_istore d_L_law_806 (by decide) ?_
    refine pm_aload_n d_L_law_808 rfl ?_
    refine pm_callR (i := 48) (ci := 5) (rest := []) [] hB d_L_law_809 hc_L_68 (show pm_C b (d + 31) km_M_thrown [pm_R 48] g σ₂ τ₁ 0 0 (pm_Rd (nI k) σ₂ τ₁) by
      have h9 := k_M_thrown (b := b) (d := d + 31) (σ := σ₂) (τ := τ₁) hg hB
      rw [m3] at h9
      exact h9) (hg.s rfl) (hg.i (by decide)) rfl rfl rfl rfl (Nat.le_of_ble_eq_true rfl) (Nat.le_of_ble_eq_true rfl) (by omega) (by omega) ?_
    refine pm_iload d_L_law_812 rfl ?_
    refine pm_icmp_eq_t 819 d_L_law_814 rfl rfl ?_
    refine pm_iload d_L_law_819 rfl ?_
    refine pm_if_ne 836 d_L_law_821 rfl (fun c821 => ?_) (fun c821 => ?_)
    · refine pm_goto 1086 d_L_law_836 rfl ?_
      -- at 1086: lo=[some (pm_S), some (pm_R 0), some (pm_R 48), some (pm_R 60), some (pm_I (nI i)), some (pm_I (nI k)), some (pm_I v2)] st=[]
      exact K _ _ _ _ _ _ _ _ _ _ (CI_kfr hq4 m5) m4 hq5 (by omega) (by omega)
    · refine pm_aload_n d_L_law_824 rfl ?_
      refine pm_iconst' (nI 0) d_L_law_825 (by decide) ?_
      refine pm_laload 0 d_L_law_826 (hg.s rfl) (hg.i (by decide)) rfl (by decide) (by decide) ?_
      refine pm_iload d_L_law_827 rfl ?_
      refine pm_i2l d_L_law_829 ?_
      refine pm_lcmp d_L_law_830 ?_
      refine pm_if_eq_t 836 d_L_law_831 rfl (by
        have hk0 : k = 0 := (nI_eq (show k < 2 ^ 31 by omega) (show 0 < 2 ^ 31 by decide)).mp c821
        rw [hq3 hk0, m2 hk0]
        exact lg_self _) ?_
      refine pm_goto 1086 d_L_law_836 rfl ?_
      -- at 1086: lo=[some (pm_S), some (pm_R 0), some (pm_R 48), some (pm_R 60), some (pm_I (nI i)), some (pm_I (nI k)), some (pm_I v2)] st=[]
      exact K _ _ _ _ _ _ _ _ _ _ (CI_kfr hq4 m5) m4 hq5 (by omega) (by omega)
theorem w_blocking (hg : pm_gok 61 g) (hB : pm_base b) (hX : pm_baseX b) (hA : pm_asg b) (hC : CI_ n ch L dm σ) (hR : RI_ n L dm σ) (hc : ch < 2 ^ 31) (hi : i + 4 ≤ xl_ b) (hl : xl_ b ≤ 2048) (hcu : cu + 1 ≤ mc) (hsu : su + 6 ≤ ms) (K : ∀ (n' ch' : Nat) (L' : Nat → List Nat) (dm' : Nat → Nat) (σ' : pI) (τ' : pJ) (cu' su' : Nat) (l5 l6 : Option pV), CI_ n' ch' L' dm' σ' → RI_ n' L' dm' σ' → ch' ≤ ch + 1 → cu' ≤ cu + 1 → su' ≤ su + 6 → pm_Y b (d + 31 + 1) km_L_law 1086 true [some (pm_S), some (pm_R 0), some (pm_R 48), some (pm_R 60), some (pm_I (nI i)), l5, l6] [] g σ' τ' cu' su' mc ms lE_) : pm_Y b (d + 31 + 1) km_L_law 660 true [some (pm_S), some (pm_R 0), some (pm_R 48), some (pm_R 60), some (pm_I (nI i)), l5, l6] [] g σ τ cu su mc ms lE_ := by
  refine pm_aload_n d_L_law_660 rfl ?_
  refine pm_callR (i := 0) (ci := 0) (rest := []) [] hB d_L_law_661 hc_L_95 (pm_C_up (show 0 + 30 ≤ d + 31 by omega) (k_H_blocking (hg.le (by decide)) hB hC)) (hg.s rfl) (hg.i (by decide)) rfl rfl rfl rfl (Nat.le_of_ble_eq_true rfl) (Nat.le_of_ble_eq_true rfl) (by omega) (by omega) ?_
  refine pm_aload_n d_L_law_664 rfl ?_
  refine pm_callWp (i := 48) (ci := 5) (rest := [pm_I (nI (cb_ (fun l h => wb_ L l h (dm l) (dm h)) n n))]) [] hB d_L_law_665 hc_L_98 (pm_C_up (show 0 + 10 ≤ d + 31 by omega) (k_M_blocking hg hB hC.w hC.2.2.1 hR)) (hg.s rfl) (hg.i (by decide)) rfl rfl rfl rfl (Nat.le_of_ble_eq_true rfl) (Nat.le_of_ble_eq_true rfl) (by omega) (by omega) (fun v665 σ₂ hv665 hq665 => ?_)
  obtain ⟨⟨v2, rfl, m2⟩, m3, m4, m5⟩ := hq665
  show pm_Y b _ km_L_law 668 true [some (pm_S), some (pm_R 0), some (pm_R 48), some (pm_R 60), some (pm_I (nI i)), l5, l6] [pm_I v2, pm_I (nI (cb_ (fun l h => wb_ L l h (dm l) (dm h)) n n))] g σ₂ τ cu su mc ms _
  refine pm_icmp_eq_t 1086 d_L_law_668 rfl (m2 rfl).symm ?_
  -- at 1086: lo=[some (pm_S), some (pm_R 0), some (pm_R 48), some (pm_R 60), some (pm_I (nI i)), l5, l6] st=[]
  exact K _ _ _ _ _ _ _ _ _ _ (CI_kfr hC m5) m4 (Nat.le_succ ch) (by omega) (by omega)
theorem w_size (hg : pm_gok 61 g) (hB : pm_base b) (hX : pm_baseX b) (hA : pm_asg b) (hC : CI_ n ch L dm σ) (hR : RI_ n L dm σ) (hc : ch < 2 ^ 31) (hi : i + 4 ≤ xl_ b) (hl : xl_ b ≤ 2048) (hcu : cu + 1 ≤ mc) (hsu : su + 6 ≤ ms) (K : ∀ (n' ch' : Nat) (L' : Nat → List Nat) (dm' : Nat → Nat) (σ' : pI) (τ' : pJ) (cu' su' : Nat) (l5 l6 : Option pV), CI_ n' ch' L' dm' σ' → RI_ n' L' dm' σ' → ch' ≤ ch + 1 → cu' ≤ cu + 1 → su' ≤ su + 6 → pm_Y b (d + 31 + 1) km_L_law 1086 true [some (pm_S), some (pm_R 0), some (pm_R 48), some (pm_R 60), some (pm_I (nI i)), l5, l6] [] g σ' τ' cu' su' mc ms lE_) : pm_Y b (d + 31 + 1) km_L_law 1060 true [some (pm_S), some (pm_R 0), some (pm_R 48), some (pm_R 60), some (pm_I (nI i)), l5, l6] [] g σ τ cu su mc ms lE_ := by
  refine pm_aload_n d_L_law_1060 rfl ?_
  refine pm_callR (i := 0) (ci := 0) (rest := []) [] hB d_L_law_1061 hc_L_128 (pm_C_up (show 0 + 30 ≤ d + 31 by omega) (k_H_size (hg.le (by decide)) hB hC)) (hg.s rfl) (hg.i (by decide)) rfl rfl rfl rfl (Nat.le_of_ble_eq_true rfl) (Nat.le_of_ble_eq_true rfl) (by omega) (by omega) ?_
  refine pm_aload_n d_L_law_1064 rfl ?_
  refine pm_callWp (i := 48) (ci := 5) (rest := [pm_I (nI n)]) [] hB d_L_law_1065 hc_L_131 (pm_C_up (show 0 + 10 ≤ d + 31 by omega) (k_M_size hg hB hC.w hC.2.2.1 hR)) (hg.s rfl) (hg.i (by decide)) rfl rfl rfl rfl (Nat.le_of_ble_eq_true rfl) (Nat.le_of_ble_eq_true rfl) (by omega) (by omega) (fun v1065 σ₂ hv1065 hq1065 => ?_)
  obtain ⟨⟨v2, rfl, m2⟩, m3, m4, m5⟩ := hq1065
  show pm_Y b _ km_L_law 1068 true [some (pm_S), some (pm_R 0), some (pm_R 48), some (pm_R 60), some (pm_I (nI i)), l5, l6] [pm_I v2, pm_I (nI n)] g σ₂ τ cu su mc ms _
  refine pm_icmp_eq_t 1086 d_L_law_1068 rfl (m2 rfl).symm ?_
  -- at 1086: lo=[some (pm_S), some (pm_R 0), some (pm_R 48), some (pm_R 60), some (pm_I (nI i)), l5, l6] st=[]
  exact K _ _ _ _ _ _ _ _ _ _ (CI_kfr hC m5) m4 (Nat.le_succ ch) (by omega) (by omega)
theorem w_astray (hg : pm_gok 61 g) (hB : pm_base b) (hX : pm_baseX b) (hA : pm_asg b) (hC : CI_ n ch L dm σ) (hR : RI_ n L dm σ) (hc : ch < 2 ^ 31) (hi : i + 4 ≤ xl_ b) (hl : xl_ b ≤ 2048) (hcu : cu + 1 ≤ mc) (hsu : su + 6 ≤ ms) (K : ∀ (n' ch' : Nat) (L' : Nat → List Nat) (dm' : Nat → Nat) (σ' : pI) (τ' : pJ) (cu' su' : Nat) (l5 l6 : Option pV), CI_ n' ch' L' dm' σ' → RI_ n' L' dm' σ' → ch' ≤ ch + 1 → cu' ≤ cu + 1 → su' ≤ su + 6 → pm_Y b (d + 31 + 1) km_L_law 1086 true [some (pm_S), some (pm_R 0), some (pm_R 48), some (pm_R 60), some (pm_I (nI i)), l5, l6] [] g σ' τ' cu' su' mc ms lE_) : pm_Y b (d + 31 + 1) km_L_law 1073 true [some (pm_S), some (pm_R 0), some (pm_R 48), some (pm_R 60), some (pm_I (nI i)), l5, l6] [] g σ τ cu su mc ms lE_ := by
  refine pm_aload_n d_L_law_1073 rfl ?_
  refine pm_callR (i := 0) (ci := 0) (rest := []) [] hB d_L_law_1074 hc_L_132 (pm_C_up (show 0 + 30 ≤ d + 31 by omega) (k_H_astray (hg.le (by decide)) hB hC)) (hg.s rfl) (hg.i (by decide)) rfl rfl rfl rfl (Nat.le_of_ble_eq_true rfl) (Nat.le_of_ble_eq_true rfl) (by omega) (by omega) ?_
  refine pm_aload_n d_L_law_1077 rfl ?_
  refine pm_callWp (i := 48) (ci := 5) (rest := [pm_I (nI 0)]) [] hB d_L_law_1078 hc_L_135 (pm_C_up (show 0 + 10 ≤ d + 31 by omega) (k_M_astray hg hB hC.w hC.2.2.1 hR)) (hg.s rfl) (hg.i (by decide)) rfl rfl rfl rfl (Nat.le_of_ble_eq_true rfl) (Nat.le_of_ble_eq_true rfl) (by omega) (by omega) (fun v1078 σ₂ hv1078 hq1078 => ?_)
  obtain ⟨⟨v2, rfl, m2⟩, m3, m4, m5⟩ := hq1078
  show pm_Y b _ km_L_law 1081 true [some (pm_S), some (pm_R 0), some (pm_R 48), some (pm_R 60), some (pm_I (nI i)), l5, l6] [pm_I v2, pm_I (nI 0)] g σ₂ τ cu su mc ms _
  refine pm_icmp_eq_t 1086 d_L_law_1081 rfl (m2 rfl).symm ?_
  -- at 1086: lo=[some (pm_S), some (pm_R 0), some (pm_R 48), some (pm_R 60), some (pm_I (nI i)), l5, l6] st=[]
  exact K _ _ _ _ _ _ _ _ _ _ (CI_kfr hC m5) m4 (Nat.le_succ ch) (by omega) (by omega)
theorem w_matchings (hg : pm_gok 61 g) (hB : pm_base b) (hX : pm_baseX b) (hA : pm_asg b) (hC : CI_ n ch L dm σ) (hR : RI_ n L dm σ) (hc : ch < 2 ^ 31) (hi : i + 4 ≤ xl_ b) (hl : xl_ b ≤ 2048) (hcu : cu + 1 ≤ mc) (hsu : su + 6 ≤ ms) (K : ∀ (n' ch' : Nat) (L' : Nat → List Nat) (dm' : Nat → Nat) (σ' : pI) (τ' : pJ) (cu' su' : Nat) (l5 l6 : Option pV), CI_ n' ch' L' dm' σ' → RI_ n' L' dm' σ' → ch' ≤ ch + 1 → cu' ≤ cu + 1 → su' ≤ su + 6 → pm_Y b (d + 31 + 1) km_L_law 1086 true [some (pm_S), some (pm_R 0), some (pm_R 48), some (pm_R 60), some (pm_I (nI i)), l5, l6] [] g σ' τ' cu' su' mc ms lE_) : pm_Y b (d + 31 + 1) km_L_law 686 true [some (pm_S), some (pm_R 0), some (pm_R 48), some (pm_R 60), some (pm_I (nI i)), l5, l6] [] g σ τ cu su mc ms lE_ := by
  refine pm_aload_n d_L_law_686 rfl ?_
  refine pm_callWp (i := 0) (ci := 0) (rest := []) [] hB d_L_law_687 hc_L_103 (pm_C_up (show 0 + 30 ≤ d + 31 by omega) (k_H_matchings (hg.le (by decide)) hB hC hc)) (hg.s rfl) (hg.i (by decide)) rfl rfl rfl rfl (Nat.le_of_ble_eq_true rfl) (Nat.le_of_ble_eq_true rfl) (by omega) (by omega) (fun v687 σ₁ hv687 hq687 => ?_)
  obtain ⟨rfl, h1, h2⟩ := hq687
  show pm_Y b _ km_L_law 690 true [some (pm_S), some (pm_R 0), some (pm_R 48), some (pm_R 60), some (pm_I (nI i)), l5, l6] [pm_I (nI (SA_ n L).1)] g σ₁ τ cu su mc ms _
  refine pm_aload_n d_L_law_690 rfl ?_
  refine pm_callWp (i := 48) (ci := 5) (rest := [pm_I (nI (SA_ n L).1)]) [] hB d_L_law_691 hc_L_106 (pm_C_up (show 0 + 10 ≤ d + 31 by omega) (k_M_matchings hg hB hC.w hC.2.2.1 (RI_hfr hR h2))) (hg.s rfl) (hg.i (by decide)) rfl rfl rfl rfl (Nat.le_of_ble_eq_true rfl) (Nat.le_of_ble_eq_true rfl) (by omega) (by omega) (fun v691 σ₂ hv691 hq691 => ?_)
  obtain ⟨⟨v2, rfl, m2⟩, m3, m4, m5⟩ := hq691
  show pm_Y b _ km_L_law 694 true [some (pm_S), some (pm_R 0), some (pm_R 48), some (pm_R 60), some (pm_I (nI i)), l5, l6] [pm_I v2, pm_I (nI (SA_ n L).1)] g σ₂ τ cu su mc ms _
  refine pm_icmp_eq_t 1086 d_L_law_694 rfl (m2 rfl).symm ?_
  -- at 1086: lo=[some (pm_S), some (pm_R 0), some (pm_R 48), some (pm_R 60), some (pm_I (nI i)), l5, l6] st=[]
  exact K _ _ _ _ _ _ _ _ _ _ (CI_kfr h1 m5) m4 (Nat.le_succ ch) (by omega) (by omega)
theorem w_parties (hg : pm_gok 61 g) (hB : pm_base b) (hX : pm_baseX b) (hA : pm_asg b) (hC : CI_ n ch L dm σ) (hR : RI_ n L dm σ) (hc : ch < 2 ^ 31) (hi : i + 4 ≤ xl_ b) (hl : xl_ b ≤ 2048) (hcu : cu + 1 ≤ mc) (hsu : su + 6 ≤ ms) (K : ∀ (n' ch' : Nat) (L' : Nat → List Nat) (dm' : Nat → Nat) (σ' : pI) (τ' : pJ) (cu' su' : Nat) (l5 l6 : Option pV), CI_ n' ch' L' dm' σ' → RI_ n' L' dm' σ' → ch' ≤ ch + 1 → cu' ≤ cu + 1 → su' ≤ su + 6 → pm_Y b (d + 31 + 1) km_L_law 1086 true [some (pm_S), some (pm_R 0), some (pm_R 48), some (pm_R 60), some (pm_I (nI i)), l5, l6] [] g σ' τ' cu' su' mc ms lE_) : pm_Y b (d + 31 + 1) km_L_law 1019 true [some (pm_S), some (pm_R 0), some (pm_R 48), some (pm_R 60), some (pm_I (nI i)), l5, l6] [] g σ τ cu su mc ms lE_ := by
  by_cases ex : xs_ b (i + 1) = 0
  · skip
    refine pm_aload_n d_L_law_1019 rfl ?_
    refine pm_aload_s d_L_law_1020 rfl ?_
    refine pm_iload d_L_law_1021 rfl ?_
    refine pm_iconst' (nI 1) d_L_law_1023 (by decide) ?_
    refine pm_iaddN d_L_law_1024 ?_
    refine pm_sld (i + 1) hB d_L_law_1025 rfl (by omega) (by omega) ?_
    refine pm_if_eq_t 1033 d_L_law_1026 rfl ex ?_
    refine pm_iconst' (nI 0) d_L_law_1033 (by decide) ?_
    refine pm_callWp (i := 0) (ci := 0) (rest := []) [pm_I (nI 0)] hB d_L_law_1034 hc_L_123 (pm_C_up (show 0 + 30 ≤ d + 31 by omega) (k_H_parties (hg.le (by decide)) hB hC hc)) (hg.s rfl) (hg.i (by decide)) rfl rfl rfl rfl (Nat.le_of_ble_eq_true rfl) (Nat.le_of_ble_eq_true rfl) (by omega) (by omega) (fun v1034 σ₁ hv1034 hq1034 => ?_)
    obtain ⟨rfl, h1, h2⟩ := hq1034
    show pm_Y b _ km_L_law 1037 true [some (pm_S), some (pm_R 0), some (pm_R 48), some (pm_R 60), some (pm_I (nI i)), l5, l6] [pm_I (if nI 0 = 0 then nI (oc_ n L 1 n) else nI (oc_ n L 3 n))] g σ₁ τ cu su mc ms _
    refine pm_aload_n d_L_law_1037 rfl ?_
    refine pm_aload_s d_L_law_1038 rfl ?_
    refine pm_iload d_L_law_1039 rfl ?_
    refine pm_iconst' (nI 1) d_L_law_1041 (by decide) ?_
    refine pm_iaddN d_L_law_1042 ?_
    refine pm_sld (i + 1) hB d_L_law_1043 rfl (by omega) (by omega) ?_
    refine pm_if_eq_t 1051 d_L_law_1044 rfl ex ?_
    refine pm_iconst' (nI 0) d_L_law_1051 (by decide) ?_
    refine pm_callWp (i := 48) (ci := 5) (rest := [pm_I (if nI 0 = 0 then nI (oc_ n L 1 n) else nI (oc_ n L 3 n))]) [pm_I (nI 0)] hB d_L_law_1052 hc_L_127 (pm_C_up (show 0 + 10 ≤ d + 31 by omega) (k_M_parties hg hB hC.w hC.2.2.1 (RI_hfr hR h2))) (hg.s rfl) (hg.i (by decide)) rfl rfl rfl rfl (Nat.le_of_ble_eq_true rfl) (Nat.le_of_ble_eq_true rfl) (by omega) (by omega) (fun v1052 σ₂ hv1052 hq1052 => ?_)
    obtain ⟨⟨v2, rfl, m2⟩, m3, m4, m5⟩ := hq1052
    show pm_Y b _ km_L_law 1055 true [some (pm_S), some (pm_R 0), some (pm_R 48), some (pm_R 60), some (pm_I (nI i)), l5, l6] [pm_I v2, pm_I (if nI 0 = 0 then nI (oc_ n L 1 n) else nI (oc_ n L 3 n))] g σ₂ τ cu su mc ms _
    refine pm_icmp_eq_t 1086 d_L_law_1055 rfl (m2 rfl).symm ?_
    -- at 1086: lo=[some (pm_S), some (pm_R 0), some (pm_R 48), some (pm_R 60), some (pm_I (nI i)), l5, l6] st=[]
    exact K _ _ _ _ _ _ _ _ _ _ (CI_kfr h1 m5) m4 (Nat.le_succ ch) (by omega) (by omega)
  · skip
    refine pm_aload_n d_L_law_1019 rfl ?_
    refine pm_aload_s d_L_law_1020 rfl ?_
    refine pm_iload d_L_law_1021 rfl ?_
    refine pm_iconst' (nI 1) d_L_law_1023 (by decide) ?_
    refine pm_iaddN d_L_law_1024 ?_
    refine pm_sld (i + 1) hB d_L_law_1025 rfl (by omega) (by omega) ?_
    refine pm_if_eq_f 1033 d_L_law_1026 rfl ex ?_
    refine pm_iconst' (nI 1) d_L_law_1029 (by decide) ?_
    refine pm_goto 1034 d_L_law_1030 rfl ?_
    refine pm_callWp (i := 0) (ci := 0) (rest := []) [pm_I (nI 1)] hB d_L_law_1034 hc_L_123 (pm_C_up (show 0 + 30 ≤ d + 31 by omega) (k_H_parties (hg.le (by decide)) hB hC hc)) (hg.s rfl) (hg.i (by decide)) rfl rfl rfl rfl (Nat.le_of_ble_eq_true rfl) (Nat.le_of_ble_eq_true rfl) (by omega) (by omega) (fun v1034 σ₁ hv1034 hq1034 => ?_)
    obtain ⟨rfl, h1, h2⟩ := hq1034
    show pm_Y b _ km_L_law 1037 true [some (pm_S), some (pm_R 0), some (pm_R 48), some (pm_R 60), some (pm_I (nI i)), l5, l6] [pm_I (if nI 1 = 0 then nI (oc_ n L 1 n) else nI (oc_ n L 3 n))] g σ₁ τ cu su mc ms _
    refine pm_aload_n d_L_law_1037 rfl ?_
    refine pm_aload_s d_L_law_1038 rfl ?_
    refine pm_iload d_L_law_1039 rfl ?_
    refine pm_iconst' (nI 1) d_L_law_1041 (by decide) ?_
    refine pm_iaddN d_L_law_1042 ?_
    refine pm_sld (i + 1) hB d_L_law_1043 rfl (by omega) (by omega) ?_
    refine pm_if_eq_f 1051 d_L_law_1044 rfl ex ?_
    refine pm_iconst' (nI 1) d_L_law_1047 (by decide) ?_
    refine pm_goto 1052 d_L_law_1048 rfl ?_
    refine pm_callWp (i := 48) (ci := 5) (rest := [pm_I (if nI 1 = 0 then nI (oc_ n L 1 n) else nI (oc_ n L 3 n))]) [pm_I (nI 1)] hB d_L_law_1052 hc_L_127 (pm_C_up (show 0 + 10 ≤ d + 31 by omega) (k_M_parties hg hB hC.w hC.2.2.1 (RI_hfr hR h2))) (hg.s rfl) (hg.i (by decide)) rfl rfl rfl rfl (Nat.le_of_ble_eq_true rfl) (Nat.le_of_ble_eq_true rfl) (by omega) (by omega) (fun v1052 σ₂ hv1052 hq1052 => ?_)
    obtain ⟨⟨v2, rfl, m2⟩, m3, m4, m5⟩ := hq1052
    show pm_Y b _ km_L_law 1055 true [some (pm_S), some (pm_R 0), some (pm_R 48), some (pm_R 60), some (pm_I (nI i)), l5, l6] [pm_I v2, pm_I (if nI 1 = 0 then nI (oc_ n L 1 n) else nI (oc_ n L 3 n))] g σ₂ τ cu su mc ms _
    refine pm_icmp_eq_t 1086 d_L_law_1055 rfl (m2 rfl).symm ?_
    -- at 1086: lo=[some (pm_S), some (pm_R 0), some (pm_R 48), some (pm_R 60), some (pm_I (nI i)), l5, l6] st=[]
    exact K _ _ _ _ _ _ _ _ _ _ (CI_kfr h1 m5) m4 (Nat.le_succ ch) (by omega) (by omega)
theorem w_satisfy (hg : pm_gok 61 g) (hB : pm_base b) (hX : pm_baseX b) (hA : pm_asg b) (hC : CI_ n ch L dm σ) (hR : RI_ n L dm σ) (hc : ch < 2 ^ 31) (hi : i + 4 ≤ xl_ b) (hl : xl_ b ≤ 2048) (hcu : cu + 1 ≤ mc) (hsu : su + 6 ≤ ms) (K : ∀ (n' ch' : Nat) (L' : Nat → List Nat) (dm' : Nat → Nat) (σ' : pI) (τ' : pJ) (cu' su' : Nat) (l5 l6 : Option pV), CI_ n' ch' L' dm' σ' → RI_ n' L' dm' σ' → ch' ≤ ch + 1 → cu' ≤ cu + 1 → su' ≤ su + 6 → pm_Y b (d + 31 + 1) km_L_law 1086 true [some (pm_S), some (pm_R 0), some (pm_R 48), some (pm_R 60), some (pm_I (nI i)), l5, l6] [] g σ' τ' cu' su' mc ms lE_) : pm_Y b (d + 31 + 1) km_L_law 673 true [some (pm_S), some (pm_R 0), some (pm_R 48), some (pm_R 60), some (pm_I (nI i)), l5, l6] [] g σ τ cu su mc ms lE_ := by
  refine pm_aload_n d_L_law_673 rfl ?_
  refine pm_callWp (i := 0) (ci := 0) (rest := []) [] hB d_L_law_674 hc_L_99 (pm_C_up (show 0 + 30 ≤ d + 31 by omega) (k_H_satisfy (hg.le (by decide)) hB hC)) (hg.s rfl) (hg.i (by decide)) rfl rfl rfl rfl (Nat.le_of_ble_eq_true rfl) (Nat.le_of_ble_eq_true rfl) (by omega) (by omega) (fun v674 σ₁ hv674 hq674 => ?_)
  obtain ⟨r, r1, rfl, h1, h2⟩ := hq674
  show pm_Y b _ km_L_law 677 true [some (pm_S), some (pm_R 0), some (pm_R 48), some (pm_R 60), some (pm_I (nI i)), l5, l6] [pm_I (sf_v r)] g σ₁ τ cu su mc ms _
  refine pm_aload_n d_L_law_677 rfl ?_
  refine pm_callWp (i := 48) (ci := 5) (rest := [pm_I (sf_v r)]) [] hB d_L_law_678 hc_L_102 (pm_C_up (show 0 + 10 ≤ d + 31 by omega) (k_M_satisfy hg hB hC.w hC.2.2.1 (RI_hfr hR h2))) (hg.s rfl) (hg.i (by decide)) rfl rfl rfl rfl (Nat.le_of_ble_eq_true rfl) (Nat.le_of_ble_eq_true rfl) (by omega) (by omega) (fun v678 σ₂ hv678 hq678 => ?_)
  obtain ⟨r', r2, rfl, m3, m4, m5⟩ := hq678
  have hrr := fp_one r1 r2
  subst hrr
  show pm_Y b _ km_L_law 681 true [some (pm_S), some (pm_R 0), some (pm_R 48), some (pm_R 60), some (pm_I (nI i)), l5, l6] [pm_I (sf_v r), pm_I (sf_v r)] g σ₂ τ cu su mc ms _
  refine pm_icmp_eq_t 1086 d_L_law_681 rfl rfl ?_
  -- at 1086: lo=[some (pm_S), some (pm_R 0), some (pm_R 48), some (pm_R 60), some (pm_I (nI i)), l5, l6] st=[]
  exact K _ _ _ _ _ _ _ _ _ _ (CI_kfr h1 m5) m4 (Nat.le_succ ch) (by omega) (by omega)
end LW
