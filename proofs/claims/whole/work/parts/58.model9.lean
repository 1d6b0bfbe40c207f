/-! the other side: odd parties are counted; the whole of learning -/
def cn_ (n : Nat) (L : Nat → List Nat) (σ₀ : pI) (i : Nat) (σ : pI) : Prop := σ 48 11 = nI (oc_ n L 1 i) ∧ σ 48 12 = nI (oc_ n L 3 i) ∧ ∀ c x, ¬ (c = 48 ∧ (x = 11 ∨ x = 12)) → σ c x = σ₀ c x
theorem cn_s {n : Nat} {L : Nat → List Nat} {σ₀ σ : pI} {i v1 v3 : Nat} (h : cn_ n L σ₀ i σ) (h1 : ls_ n L 1 i = v1) (h3 : ls_ n L 3 i = v3) : cn_ n L σ₀ (i + 1) (pm_up (pm_up σ 48 11 (nI (oc_ n L 1 i + v1))) 48 12 (nI (oc_ n L 3 i + v3))) := by
  refine ⟨?_, ?_, fun c x hc => by rw [pm_up_ne (by omega), pm_up_ne (by omega)]; exact h.2.2 c x hc⟩
  · rw [pm_up_ne (by omega), pm_up_at, ← h1]; rfl
  · rw [pm_up_at, ← h3]; rfl
section M9
variable {b : pB} {g : pG} {σ : pI} {τ : pJ} {d n i : Nat} {L : Nat → List Nat}
theorem l_M_learn_164 {σ₁ : pI} {E : pE} (hg : pm_gok 61 g) (hw : rh_wf n L) (hW : ∀ r, r < n → σ₁ 56 r = nI (F_ n L r)) (hi : i < n) (K : ∀ a : Bool, (a = true ↔ (od_ n L i ≠ 0 ∧ ∀ k, 1 ≤ k → k < sz_ n L i → i < cy_it (F_ n L) k i)) → pm_Y b (d + 7) km_M_learn 194 true [some (pm_R 48), some (pm_I (nI i)), some (pm_I (bI a)), some (pm_I (nI i))] [] g σ₁ τ 0 0 0 0 E) : ∀ (m j : Nat) (a : Bool), j + m = sz_ n L i → 1 ≤ j → (a = true ↔ (od_ n L i ≠ 0 ∧ ∀ k, 1 ≤ k → k < j → i < cy_it (F_ n L) k i)) → pm_Y b (d + 7) km_M_learn 164 true [some (pm_R 48), some (pm_I (nI i)), some (pm_I (bI a)), some (pm_I (nI (cy_it (F_ n L) j i)))] [] g σ₁ τ 0 0 0 0 E
  | 0, j, a, hm, h0, hI => by
      have hs := (sz_is hw hi).1
      have e : j = sz_ n L i := by omega
      refine pm_iload_n d_M_learn_164 rfl ?_
      refine pm_iload_n d_M_learn_165 rfl ?_
      refine pm_icmp_eq_t 194 d_M_learn_166 rfl (by rw [e, hs.2.1]) ?_
      -- at 194: lo=[some (pm_R 48), some (pm_I (nI i)), some (pm_I (bI a)), some (pm_I (nI (cy_it (F_ n L) j i)))] st=[]
      rw [e, hs.2.1]
      rw [e] at hI
      exact K a hI
  | m + 1, j, a, hm, h0, hI => by
      have h8 := hw.1
      have hs := (sz_is hw hi).1
      have hc := cy_it_lt (F_lt hw) hi j
      refine pm_iload_n d_M_learn_164 rfl ?_
      refine pm_iload_n d_M_learn_165 rfl ?_
      refine pm_icmp_eq_f 194 d_M_learn_166 rfl (fun z => hs.2.2 j h0 (by omega) ((nI_eq (by omega) (by omega)).mp z)) ?_
      refine pm_iload_n d_M_learn_169 rfl ?_
      refine pm_if_eqB 182 d_M_learn_170 rfl (fun c170 => ?_) (fun c170 => ?_)
      · refine pm_iconst' (nI 0) d_M_learn_182 (by decide) ?_
        refine pm_istore_n d_M_learn_183 (by decide) ?_
        refine pm_aload_n d_M_learn_184 rfl ?_
        refine pm_getr d_M_learn_185 hf_M_31 (hg.s rfl) (hg.i (by decide)) rfl (hg.r (by decide) rfl) ?_
        refine pm_iload_n d_M_learn_188 rfl ?_
        refine pm_iaload' (cy_it (F_ n L) j i) (nI (F_ n L (cy_it (F_ n L) j i))) d_M_learn_189 (hg.s rfl) (hg.i (by decide)) rfl (by omega) (by decide) (hW _ (cy_it_lt (F_lt hw) hi j)) ?_
        refine pm_istore_n d_M_learn_190 (by decide) ?_
        refine pm_goto 164 d_M_learn_191 rfl ?_
        -- at 164: lo=[some (pm_R 48), some (pm_I (nI i)), some (pm_I (nI 0)), some (pm_I (nI (F_ n L (cy_it (F_ n L) j i))))] st=[]
        exact l_M_learn_164 hg hw hW hi K m (j + 1) false (by omega) (by omega) ⟨fun z => by (cases z), fun z => by
          have z2 := hI.mpr ⟨z.1, fun k k1 k2 => z.2 k k1 (by omega)⟩
          first
            | (have z3 := z.2 j h0 (Nat.lt_succ_self j)
               omega)
            | (rw [c170] at z2; exact z2)⟩
      · refine pm_iload_n d_M_learn_173 rfl ?_
        refine pm_iload_n d_M_learn_174 rfl ?_
        refine pm_icmp_leN 182 d_M_learn_175 rfl (by omega) (by omega) (fun c175 => ?_) (fun c175 => ?_)
        · refine pm_iconst' (nI 0) d_M_learn_182 (by decide) ?_
          refine pm_istore_n d_M_learn_183 (by decide) ?_
          refine pm_aload_n d_M_learn_184 rfl ?_
          refine pm_getr d_M_learn_185 hf_M_31 (hg.s rfl) (hg.i (by decide)) rfl (hg.r (by decide) rfl) ?_
          refine pm_iload_n d_M_learn_188 rfl ?_
          refine pm_iaload' (cy_it (F_ n L) j i) (nI (F_ n L (cy_it (F_ n L) j i))) d_M_learn_189 (hg.s rfl) (hg.i (by decide)) rfl (by omega) (by decide) (hW _ (cy_it_lt (F_lt hw) hi j)) ?_
          refine pm_istore_n d_M_learn_190 (by decide) ?_
          refine pm_goto 164 d_M_learn_191 rfl ?_
          -- at 164: lo=[some (pm_R 48), some (pm_I (nI i)), some (pm_I (nI 0)), some (pm_I (nI (F_ n L (cy_it (F_ n L) j i))))] st=[]
          exact l_M_learn_164 hg hw hW hi K m (j + 1) false (by omega) (by omega) ⟨fun z => by (cases z), fun z => by
            have z2 := hI.mpr ⟨z.1, fun k k1 k2 => z.2 k k1 (by omega)⟩
            first
              | (have z3 := z.2 j h0 (Nat.lt_succ_self j)
                 omega)
              | (rw [c170] at z2; exact z2)⟩
        · refine pm_iconst' (nI 1) d_M_learn_178 (by decide) ?_
          refine pm_goto 183 d_M_learn_179 rfl ?_
          refine pm_istore_n d_M_learn_183 (by decide) ?_
          refine pm_aload_n d_M_learn_184 rfl ?_
          refine pm_getr d_M_learn_185 hf_M_31 (hg.s rfl) (hg.i (by decide)) rfl (hg.r (by decide) rfl) ?_
          refine pm_iload_n d_M_learn_188 rfl ?_
          refine pm_iaload' (cy_it (F_ n L) j i) (nI (F_ n L (cy_it (F_ n L) j i))) d_M_learn_189 (hg.s rfl) (hg.i (by decide)) rfl (by omega) (by decide) (hW _ (cy_it_lt (F_lt hw) hi j)) ?_
          refine pm_istore_n d_M_learn_190 (by decide) ?_
          refine pm_goto 164 d_M_learn_191 rfl ?_
          -- at 164: lo=[some (pm_R 48), some (pm_I (nI i)), some (pm_I (nI 1)), some (pm_I (nI (F_ n L (cy_it (F_ n L) j i))))] st=[]
          exact l_M_learn_164 hg hw hW hi K m (j + 1) true (by omega) (by omega) ⟨fun _ => ⟨(hI.mp c170).1, fun k k1 k2 => by
            by_cases ek : k = j
            · rw [ek]; exact c175
            · exact (hI.mp c170).2 k k1 (by omega)⟩, fun _ => rfl⟩
theorem nI_gt0 {k : Nat} (h0 : 0 < k) (h : k < 2 ^ 31) : ¬ nI k ≤ 0 := fun z => by
  have z2 : nI k ≤ nI 0 := z
  have := (nI_leI h (show 0 < 2 ^ 31 by decide)).mp z2
  omega
theorem l_M_learn_134 {σ₀ : pI} (hg : pm_gok 61 g) (hw : rh_wf n L) (h1 : σ 48 1 = nI n) (hW : ∀ r, r < n → σ 56 r = nI (F_ n L r)) (ho : ∀ p, p < n → σ 55 p = nI (od_ n L p)) (hc1 : σ 48 11 = nI 0) (hc3 : σ 48 12 = nI 0) (hK : ∀ σ₁, cn_ n L σ n σ₁ → (none = (none : Option Int32) ∧ ml_ n L σ₁ ∧ σ₁ 48 5 = nI 1 ∧ lfr_ σ₀ σ₁) ∧ τ = τ) {l2 l3 : Option pV} : pm_Y b (d + 7) km_M_learn 134 true [some (pm_R 48), some (pm_I (nI 0)), l2, l3] [] g σ τ 0 0 0 0 (pm_Wp (fun v σ' => v = none ∧ ml_ n L σ' ∧ σ' 48 5 = nI 1 ∧ lfr_ σ₀ σ') τ) := by
  have h8 := hw.1
  refine pm_for n (fun i σ₁ => ∀ l2 l3 : Option pV, pm_Y b (d + 7) km_M_learn 134 true [some (pm_R 48), some (pm_I (nI i)), l2, l3] [] g σ₁ τ 0 0 0 0 (pm_Wp (fun v σ' => v = none ∧ ml_ n L σ' ∧ σ' 48 5 = nI 1 ∧ lfr_ σ₀ σ') τ)) (cn_ n L σ) (fun i σ₁ hi hI ih l2 l3 => ?_) (fun σ₁ hI l2 l3 => ?_) n 0 σ (by omega) ⟨hc1, hc3, fun _ _ _ => rfl⟩ l2 l3
  · have hsz := sz_is hw hi
    have hfl := F_lt hw i hi
    have hodn : od_ n L i ≤ n := by
      have := hsz.2
      unfold od_
      split <;> omega
    have K : ∀ a : Bool, (a = true ↔ (od_ n L i ≠ 0 ∧ ∀ k, 1 ≤ k → k < sz_ n L i → i < cy_it (F_ n L) k i)) → pm_Y b (d + 7) km_M_learn 194 true [some (pm_R 48), some (pm_I (nI i)), some (pm_I (bI a)), some (pm_I (nI i))] [] g σ₁ τ 0 0 0 0 (pm_Wp (fun v σ' => v = none ∧ ml_ n L σ' ∧ σ' 48 5 = nI 1 ∧ lfr_ σ₀ σ') τ) := by
      intro a ha
      cases a with
      | false =>
        have hno : sz_ n L i % 2 = 1 → ¬ cy_least (F_ n L) i (sz_ n L i) := fun z1 z2 => by
          have := ha.mpr ⟨fun z => (od_0 hw hi).mp z z1, z2⟩
          cases this
        show pm_Y b (d + 7) km_M_learn 194 true [some (pm_R 48), some (pm_I (nI i)), some (pm_I (nI 0)), some (pm_I (nI i))] [] g σ₁ τ 0 0 0 0 (pm_Wp (fun v σ' => v = none ∧ ml_ n L σ' ∧ σ' 48 5 = nI 1 ∧ lfr_ σ₀ σ') τ)
        refine pm_aload_n d_M_learn_194 rfl ?_
        refine pm_dup d_M_learn_195 rfl ?_
        refine pm_geti' (nI (oc_ n L 1 i)) d_M_learn_196 hf_M_131 (hg.s rfl) (hg.i (by decide)) rfl hI.1 ?_
        refine pm_iload_n d_M_learn_199 rfl ?_
        refine pm_if_eq_t 207 d_M_learn_200 rfl (by decide) ?_
        refine pm_iconst' (nI 0) d_M_learn_207 (by decide) ?_
        refine pm_iaddN d_M_learn_208 ?_
        refine pm_puti d_M_learn_209 hp_M_131 (hg.s rfl) (hg.i (by decide)) rfl ?_
        refine pm_aload_n d_M_learn_212 rfl ?_
        refine pm_dup d_M_learn_213 rfl ?_
        refine pm_geti' (nI (oc_ n L 3 i)) d_M_learn_214 hf_M_134 (hg.s rfl) (hg.i (by decide)) rfl (by rw [pm_up_ne (by omega)]; exact hI.2.1) ?_
        refine pm_iload_n d_M_learn_217 rfl ?_
        refine pm_if_eq_t 235 d_M_learn_218 rfl (by decide) ?_
        refine pm_iconst' (nI 0) d_M_learn_235 (by decide) ?_
        refine pm_iaddN d_M_learn_236 ?_
        refine pm_puti d_M_learn_237 hp_M_134 (hg.s rfl) (hg.i (by decide)) rfl ?_
        refine pm_iinc' (nI (i + 1)) d_M_learn_240 (by decide) rfl (pm_inc _) ?_
        refine pm_goto 134 d_M_learn_243 rfl ?_
        -- at 134: lo=[some (pm_R 48), some (pm_I (nI (i + 1))), some (pm_I (nI 0)), some (pm_I (nI i))] st=[]
        exact ih _ (cn_s hI (ls_0 (fun z => hno z.1 z.2.1)) (ls_0 (fun z => hno z.1 z.2.1))) _ _
      | true =>
        have hy := ha.mp rfl
        have hyes : sz_ n L i % 2 = 1 ∧ cy_least (F_ n L) i (sz_ n L i) := ⟨Classical.byContradiction fun z => hy.1 ((od_0 hw hi).mpr z), hy.2⟩
        have hod : od_ n L i = sz_ n L i := if_pos hyes.1
        show pm_Y b (d + 7) km_M_learn 194 true [some (pm_R 48), some (pm_I (nI i)), some (pm_I (nI 1)), some (pm_I (nI i))] [] g σ₁ τ 0 0 0 0 (pm_Wp (fun v σ' => v = none ∧ ml_ n L σ' ∧ σ' 48 5 = nI 1 ∧ lfr_ σ₀ σ') τ)
        by_cases e1 : od_ n L i ≤ 1
        · skip
          refine pm_aload_n d_M_learn_194 rfl ?_
          refine pm_dup d_M_learn_195 rfl ?_
          refine pm_geti' (nI (oc_ n L 1 i)) d_M_learn_196 hf_M_131 (hg.s rfl) (hg.i (by decide)) rfl hI.1 ?_
          refine pm_iload_n d_M_learn_199 rfl ?_
          refine pm_if_eq_f 207 d_M_learn_200 rfl (by decide) ?_
          refine pm_iconst' (nI 1) d_M_learn_203 (by decide) ?_
          refine pm_goto 208 d_M_learn_204 rfl ?_
          refine pm_iaddN d_M_learn_208 ?_
          refine pm_puti d_M_learn_209 hp_M_131 (hg.s rfl) (hg.i (by decide)) rfl ?_
          refine pm_aload_n d_M_learn_212 rfl ?_
          refine pm_dup d_M_learn_213 rfl ?_
          refine pm_geti' (nI (oc_ n L 3 i)) d_M_learn_214 hf_M_134 (hg.s rfl) (hg.i (by decide)) rfl (by rw [pm_up_ne (by omega)]; exact hI.2.1) ?_
          refine pm_iload_n d_M_learn_217 rfl ?_
          refine pm_if_eq_f 235 d_M_learn_218 rfl (by decide) ?_
          refine pm_aload_n d_M_learn_221 rfl ?_
          refine pm_getr d_M_learn_222 hf_M_28 (hg.s rfl) (hg.i (by decide)) rfl (hg.r (by decide) rfl) ?_
          refine pm_iload_n d_M_learn_225 rfl ?_
          refine pm_iaload' i (nI (od_ n L i)) d_M_learn_226 (hg.s rfl) (hg.i (by decide)) rfl (by omega) (by decide) (by rw [pm_up_ne (by omega), hI.2.2 55 i (by omega)]; exact ho i hi) ?_
          refine pm_iconst' (nI 1) d_M_learn_227 (by decide) ?_
          refine pm_icmp_le_t 235 d_M_learn_228 rfl ((nI_leI (by omega) (by omega)).mpr e1) ?_
          refine pm_iconst' (nI 0) d_M_learn_235 (by decide) ?_
          refine pm_iaddN d_M_learn_236 ?_
          refine pm_puti d_M_learn_237 hp_M_134 (hg.s rfl) (hg.i (by decide)) rfl ?_
          refine pm_iinc' (nI (i + 1)) d_M_learn_240 (by decide) rfl (pm_inc _) ?_
          refine pm_goto 134 d_M_learn_243 rfl ?_
          -- at 134: lo=[some (pm_R 48), some (pm_I (nI (i + 1))), some (pm_I (nI 1)), some (pm_I (nI i))] st=[]
          exact ih _ (cn_s hI (ls_1 ⟨hyes.1, hyes.2, (sz_is hw hi).1.1⟩) (ls_0 (fun z => by have := z.2.2; omega))) _ _
        · skip
          refine pm_aload_n d_M_learn_194 rfl ?_
          refine pm_dup d_M_learn_195 rfl ?_
          refine pm_geti' (nI (oc_ n L 1 i)) d_M_learn_196 hf_M_131 (hg.s rfl) (hg.i (by decide)) rfl hI.1 ?_
          refine pm_iload_n d_M_learn_199 rfl ?_
          refine pm_if_eq_f 207 d_M_learn_200 rfl (by decide) ?_
          refine pm_iconst' (nI 1) d_M_learn_203 (by decide) ?_
          refine pm_goto 208 d_M_learn_204 rfl ?_
          refine pm_iaddN d_M_learn_208 ?_
          refine pm_puti d_M_learn_209 hp_M_131 (hg.s rfl) (hg.i (by decide)) rfl ?_
          refine pm_aload_n d_M_learn_212 rfl ?_
          refine pm_dup d_M_learn_213 rfl ?_
          refine pm_geti' (nI (oc_ n L 3 i)) d_M_learn_214 hf_M_134 (hg.s rfl) (hg.i (by decide)) rfl (by rw [pm_up_ne (by omega)]; exact hI.2.1) ?_
          refine pm_iload_n d_M_learn_217 rfl ?_
          refine pm_if_eq_f 235 d_M_learn_218 rfl (by decide) ?_
          refine pm_aload_n d_M_learn_221 rfl ?_
          refine pm_getr d_M_learn_222 hf_M_28 (hg.s rfl) (hg.i (by decide)) rfl (hg.r (by decide) rfl) ?_
          refine pm_iload_n d_M_learn_225 rfl ?_
          refine pm_iaload' i (nI (od_ n L i)) d_M_learn_226 (hg.s rfl) (hg.i (by decide)) rfl (by omega) (by decide) (by rw [pm_up_ne (by omega), hI.2.2 55 i (by omega)]; exact ho i hi) ?_
          refine pm_iconst' (nI 1) d_M_learn_227 (by decide) ?_
          refine pm_icmp_le_f 235 d_M_learn_228 rfl (fun z => e1 ((nI_leI (by omega) (by omega)).mp z)) ?_
          refine pm_iconst' (nI 1) d_M_learn_231 (by decide) ?_
          refine pm_goto 236 d_M_learn_232 rfl ?_
          refine pm_iaddN d_M_learn_236 ?_
          refine pm_puti d_M_learn_237 hp_M_134 (hg.s rfl) (hg.i (by decide)) rfl ?_
          refine pm_iinc' (nI (i + 1)) d_M_learn_240 (by decide) rfl (pm_inc _) ?_
          refine pm_goto 134 d_M_learn_243 rfl ?_
          -- at 134: lo=[some (pm_R 48), some (pm_I (nI (i + 1))), some (pm_I (nI 1)), some (pm_I (nI i))] st=[]
          exact ih _ (cn_s hI (ls_1 ⟨hyes.1, hyes.2, (sz_is hw hi).1.1⟩) (ls_1 ⟨hyes.1, hyes.2, by omega⟩)) _ _
    by_cases e : od_ n L i = 0
    · skip
      refine pm_iload_n d_M_learn_134 rfl ?_
      refine pm_aload_n d_M_learn_135 rfl ?_
      refine pm_geti' (nI n) d_M_learn_136 hf_M_47 (hg.s rfl) (hg.i (by decide)) rfl ((hI.2.2 48 1 (by omega)).trans h1) ?_
      refine pm_icmp_ge_f 246 d_M_learn_139 rfl (by rw [nI_leI (by omega) (by omega)]; omega) ?_
      refine pm_aload_n d_M_learn_142 rfl ?_
      refine pm_getr d_M_learn_143 hf_M_28 (hg.s rfl) (hg.i (by decide)) rfl (hg.r (by decide) rfl) ?_
      refine pm_iload_n d_M_learn_146 rfl ?_
      refine pm_iaload' i (nI (od_ n L i)) d_M_learn_147 (hg.s rfl) (hg.i (by decide)) rfl (by omega) (by decide) ((hI.2.2 55 i (by omega)).trans (ho i hi)) ?_
      refine pm_if_le_t 155 d_M_learn_148 rfl (by rw [e]; decide) ?_
      refine pm_iconst' (nI 0) d_M_learn_155 (by decide) ?_
      refine pm_istore_n d_M_learn_156 (by decide) ?_
      refine pm_aload_n d_M_learn_157 rfl ?_
      refine pm_getr d_M_learn_158 hf_M_31 (hg.s rfl) (hg.i (by decide)) rfl (hg.r (by decide) rfl) ?_
      refine pm_iload_n d_M_learn_161 rfl ?_
      refine pm_iaload' i (nI (F_ n L i)) d_M_learn_162 (hg.s rfl) (hg.i (by decide)) rfl (by omega) (by decide) ((hI.2.2 56 i (by omega)).trans (hW i hi)) ?_
      refine pm_istore_n d_M_learn_163 (by decide) ?_
      -- at 164: lo=[some (pm_R 48), some (pm_I (nI i)), some (pm_I (nI 0)), some (pm_I (nI (F_ n L i)))] st=[]
      exact l_M_learn_164 (i := i) hg hw (fun r hr => (hI.2.2 56 r (by omega)).trans (hW r hr)) hi K (sz_ n L i - 1) 1 false (by have := (sz_is hw hi).1.1; omega) (Nat.le_refl 1) ⟨fun z => by (cases z), fun z => absurd e z.1⟩
    · skip
      refine pm_iload_n d_M_learn_134 rfl ?_
      refine pm_aload_n d_M_learn_135 rfl ?_
      refine pm_geti' (nI n) d_M_learn_136 hf_M_47 (hg.s rfl) (hg.i (by decide)) rfl ((hI.2.2 48 1 (by omega)).trans h1) ?_
      refine pm_icmp_ge_f 246 d_M_learn_139 rfl (by rw [nI_leI (by omega) (by omega)]; omega) ?_
      refine pm_aload_n d_M_learn_142 rfl ?_
      refine pm_getr d_M_learn_143 hf_M_28 (hg.s rfl) (hg.i (by decide)) rfl (hg.r (by decide) rfl) ?_
      refine pm_iload_n d_M_learn_146 rfl ?_
      refine pm_iaload' i (nI (od_ n L i)) d_M_learn_147 (hg.s rfl) (hg.i (by decide)) rfl (by omega) (by decide) ((hI.2.2 55 i (by omega)).trans (ho i hi)) ?_
      refine pm_if_le_f 155 d_M_learn_148 rfl (nI_gt0 (by omega) (by omega)) ?_
      refine pm_iconst' (nI 1) d_M_learn_151 (by decide) ?_
      refine pm_goto 156 d_M_learn_152 rfl ?_
      refine pm_istore_n d_M_learn_156 (by decide) ?_
      refine pm_aload_n d_M_learn_157 rfl ?_
      refine pm_getr d_M_learn_158 hf_M_31 (hg.s rfl) (hg.i (by decide)) rfl (hg.r (by decide) rfl) ?_
      refine pm_iload_n d_M_learn_161 rfl ?_
      refine pm_iaload' i (nI (F_ n L i)) d_M_learn_162 (hg.s rfl) (hg.i (by decide)) rfl (by omega) (by decide) ((hI.2.2 56 i (by omega)).trans (hW i hi)) ?_
      refine pm_istore_n d_M_learn_163 (by decide) ?_
      -- at 164: lo=[some (pm_R 48), some (pm_I (nI i)), some (pm_I (nI 1)), some (pm_I (nI (F_ n L i)))] st=[]
      exact l_M_learn_164 (i := i) hg hw (fun r hr => (hI.2.2 56 r (by omega)).trans (hW r hr)) hi K (sz_ n L i - 1) 1 true (by have := (sz_is hw hi).1.1; omega) (Nat.le_refl 1) ⟨fun _ => ⟨e, fun k k1 k2 => absurd k2 (by omega)⟩, fun _ => rfl⟩
  · skip
    refine pm_iload_n d_M_learn_134 rfl ?_
    refine pm_aload_n d_M_learn_135 rfl ?_
    refine pm_geti' (nI n) d_M_learn_136 hf_M_47 (hg.s rfl) (hg.i (by decide)) rfl ((hI.2.2 48 1 (by omega)).trans h1) ?_
    refine pm_icmp_ge_t 246 d_M_learn_139 rfl (by rw [nI_leI (by omega) (by omega)]; omega) ?_
    exact pm_return d_M_learn_246 rfl (fun _ => rfl) (Nat.le_refl _) (Nat.le_refl _) (hK σ₁ hI)
theorem k_M_learn (hg : pm_gok 61 g) (hB : pm_base b) (hw : rh_wf n L) (hM : mi_ n L σ) (hk : σ 48 5 = nI 0 ∨ (σ 48 5 = nI 1 ∧ ml_ n L σ)) : pm_C b (d + 7) km_M_learn [pm_R 48] g σ τ 0 0 (pm_Wp (fun v σ' => v = none ∧ ml_ n L σ' ∧ σ' 48 5 = nI 1 ∧ lfr_ σ σ') τ) := by
  have h8 := hw.1
  show pm_Y b (d + 6 + 1) km_M_learn 0 false [some (pm_R 48), none, none, none] [] g σ τ 0 0 0 0 _
  rcases hk with hk | hk
  · skip
    refine pm_aload_n d_M_learn_0 rfl ?_
    refine pm_geti' (nI 0) d_M_learn_1 hf_M_58 (hg.s rfl) (hg.i (by decide)) rfl hk ?_
    refine pm_if_eq_t 8 d_M_learn_4 rfl (by decide) ?_
    refine pm_aload_n d_M_learn_8 rfl ?_
    refine pm_iconst' (nI 1) d_M_learn_9 (by decide) ?_
    refine pm_putz d_M_learn_10 hp_M_58 (hg.s rfl) (hg.i (by decide)) rfl (Or.inr rfl) ?_
    refine pm_iconst' (nI 0) d_M_learn_13 (by decide) ?_
    refine pm_istore_n d_M_learn_14 (by decide) ?_
    -- at 15: lo=[some (pm_R 48), some (pm_I (nI 0)), none, none] st=[]
    refine l_M_learn_15 (L := L) hg hB hw (mi_of hM (pm_up_ne (by omega)) (fun c x hc => pm_up_ne (by omega))) (fun σ₁ hr l2 l3 => ?_)
    refine pm_aload_n d_M_learn_86 rfl ?_
    refine pm_iconst' (nI 0) d_M_learn_87 (by decide) ?_
    refine pm_puti d_M_learn_88 hp_M_124 (hg.s rfl) (hg.i (by decide)) rfl ?_
    refine pm_iconst' (nI 0) d_M_learn_91 (by decide) ?_
    refine pm_istore_n d_M_learn_92 (by decide) ?_
    -- at 93: lo=[some (pm_R 48), some (pm_I (nI 0)), l2, l3] st=[]
    refine l_M_learn_93 hg (fun σ₂ ht => ?_)
    have hM2 : mi_ n L σ₂ := mi_of hM (by rw [ht.2 48 1 (by omega), pm_up_ne (by omega), hr.2 48 1 (by omega), pm_up_ne (by omega)]) (fun c x hc => by rw [ht.2 c x (by omega), pm_up_ne (by omega), hr.2 c x (by omega), pm_up_ne (by omega)])
    have hR2 : mr_ n L σ₂ := fun p q hp hq => by rw [ht.2 59 _ (by omega), pm_up_ne (by omega)]; exact hr.1 p q hp hq
    have hA2 : mA_ n A0_ σ₂ := ⟨by rw [ht.2 48 6 (by omega), pm_up_at]; rfl, fun p q hp hq => ht.1 _ (by omega), fun z => absurd z (Nat.lt_irrefl 0)⟩
    refine pm_aload_n d_M_learn_112 rfl ?_
    refine pm_iconst' (nI 1) d_M_learn_113 (by decide) ?_
    refine pm_callWp (i := 48) (ci := 5) (rest := []) [pm_I (nI 1)] hB d_M_learn_114 hc_M_127 (pm_C_up (show 0 + 6 ≤ d + 6 by omega) (k_M_goThrough_1 hg hB hw hM2 hR2 hA2)) (hg.s rfl) (hg.i (by decide)) rfl rfl rfl rfl (Nat.le_of_ble_eq_true rfl) (Nat.le_of_ble_eq_true rfl) (by omega) (by omega) (fun v114 σ₃ hv114 hq114 => ?_)
    obtain ⟨rfl, g1, g2⟩ := hq114
    show pm_Y b _ km_M_learn 117 true [some (pm_R 48), some (pm_I (nI 64)), l2, l3] [] g σ₃ τ 0 0 0 0 _
    refine pm_aload_n d_M_learn_117 rfl ?_
    refine pm_iconst' (nI 0) d_M_learn_118 (by decide) ?_
    refine pm_callWp (i := 48) (ci := 5) (rest := []) [pm_I (nI 0)] hB d_M_learn_119 hc_M_127 (pm_C_up (show 0 + 6 ≤ d + 6 by omega) (k_M_goThrough_0 hg hB hw (mi_of hM2 (g2 48 1 (by omega) (by omega) (by omega) (by omega) (by omega) (by omega)) (fun c x hc => g2 c x (by omega) (by omega) (by omega) (by omega) (by omega) (by omega))) (fun p q hp hq => (g2 59 _ (by omega) (by omega) (by omega) (by omega) (by omega) (by omega)).trans (hR2 p q hp hq)))) (hg.s rfl) (hg.i (by decide)) rfl rfl rfl rfl (Nat.le_of_ble_eq_true rfl) (Nat.le_of_ble_eq_true rfl) (by omega) (by omega) (fun v119 σ₄ hv119 hq119 => ?_)
    obtain ⟨rfl, g3, g4, g5⟩ := hq119
    show pm_Y b _ km_M_learn 122 true [some (pm_R 48), some (pm_I (nI 64)), l2, l3] [] g σ₄ τ 0 0 0 0 _
    refine pm_aload_n d_M_learn_122 rfl ?_
    refine pm_iconst' (nI 0) d_M_learn_123 (by decide) ?_
    refine pm_puti d_M_learn_124 hp_M_131 (hg.s rfl) (hg.i (by decide)) rfl ?_
    refine pm_aload_n d_M_learn_127 rfl ?_
    refine pm_iconst' (nI 0) d_M_learn_128 (by decide) ?_
    refine pm_puti d_M_learn_129 hp_M_134 (hg.s rfl) (hg.i (by decide)) rfl ?_
    refine pm_iconst' (nI 0) d_M_learn_132 (by decide) ?_
    refine pm_istore_n d_M_learn_133 (by decide) ?_
    -- at 134: lo=[some (pm_R 48), some (pm_I (nI 0)), l2, l3] st=[]
    have g9 := tp_od hw g4
    refine l_M_learn_134 hg hw (by rw [pm_up_ne (by omega), pm_up_ne (by omega), g5 48 1 (by omega) (by omega) (by omega) (by omega) (by omega) , g2 48 1 (by omega) (by omega) (by omega) (by omega) (by omega) (by omega) ]; exact hM2.1) (fun r hr => by rw [pm_up_ne (by omega), pm_up_ne (by omega)]; exact g3 r hr) (fun r hr => by rw [pm_up_ne (by omega), pm_up_ne (by omega)]; exact g9.1 r hr) (by rw [pm_up_ne (by omega), pm_up_at]) pm_up_at (fun σ₅ hn => ⟨⟨rfl, ⟨⟨?_, fun p q hp hq => ?_, fun z p hp => ?_⟩, fun p hp => ?_, fun p hp => ?_, hn.1, hn.2.1⟩, ?_, fun c x hc => ?_⟩, rfl⟩)
    · rw [hn.2.2 48 6 (by omega), pm_up_ne (by omega), pm_up_ne (by omega), g5 48 6 (by omega) (by omega) (by omega) (by omega) (by omega) ]; exact g1.1
    · rw [hn.2.2 52 _ (by omega), pm_up_ne (by omega), pm_up_ne (by omega), g5 52 _ (by omega) (by omega) (by omega) (by omega) (by omega) ]; exact g1.2.1 p q hp hq
    · rw [hn.2.2 53 p (by omega), pm_up_ne (by omega), pm_up_ne (by omega), g5 53 p (by omega) (by omega) (by omega) (by omega) (by omega) ]; exact g1.2.2 z p hp
    · rw [hn.2.2 55 p (by omega), pm_up_ne (by omega), pm_up_ne (by omega)]; exact g9.1 p hp
    · rw [hn.2.2 54 p (by omega), pm_up_ne (by omega), pm_up_ne (by omega)]; exact g9.2 p hp
    · rw [hn.2.2 48 5 (by omega), pm_up_ne (by omega), pm_up_ne (by omega), g5 48 5 (by omega) (by omega) (by omega) (by omega) (by omega) , g2 48 5 (by omega) (by omega) (by omega) (by omega) (by omega) (by omega) , ht.2 48 5 (by omega), pm_up_ne (by omega), hr.2 48 5 (by omega), pm_up_at]
    · rw [hn.2.2 c x (by omega), pm_up_ne (by omega), pm_up_ne (by omega), g5 c x (by omega) (by omega) (by omega) (by omega) (by omega) , g2 c x (by omega) (by omega) (by omega) (by omega) (by omega) (by omega) , ht.2 c x (by omega), pm_up_ne (by omega), hr.2 c x (by omega), pm_up_ne (by omega)]
  · skip
    refine pm_aload_n d_M_learn_0 rfl ?_
    refine pm_geti' (nI 1) d_M_learn_1 hf_M_58 (hg.s rfl) (hg.i (by decide)) rfl hk.1 ?_
    refine pm_if_eq_f 8 d_M_learn_4 rfl (by decide) ?_
    exact pm_return d_M_learn_7 rfl (fun _ => rfl) (Nat.le_refl _) (Nat.le_refl _) ⟨⟨rfl, hk.2, hk.1, fun _ _ _ => rfl⟩, rfl⟩
end M9
