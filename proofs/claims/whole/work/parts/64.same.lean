/-! the other side comes to the same -/
section Q1
variable {b : pB} {g : pG} {σ : pI} {τ : pJ} {d n p q i j m k n' : Nat} {x y z v₀ : Int32} {L L' : Nat → List Nat} {dm dm' : Nat → Nat}
theorem q_M_people (hg : pm_gok 61 g) (hB : pm_base b) (hw : rh_wf n L) (hm : md_ n L dm) (hI : RI_ n L dm σ) (h : st_people n L dm x k v₀ n' L' dm') : pm_C b (d + 10) km_M_people [pm_R 48, pm_I x] g σ τ 0 0 (pm_Wp (fun v σ' => an_ k v₀ v ∧ σ' 48 0 = nI k ∧ RI_ n' L' dm' σ' ∧ kfr_ σ σ') τ) := by
  rcases h with ⟨h1, rfl, rfl, rfl, rfl⟩ | ⟨m, h1, rfl, rfl, rfl, rfl, rfl, rfl⟩
  · exact x_M_people hg hB hw hm hI h1
  · exact k_M_people hg hB hw hm hI h1
theorem q_M_partner (hg : pm_gok 61 g) (hB : pm_base b) (hw : rh_wf n L) (hm : md_ n L dm) (hI : RI_ n L dm σ) (h : st_1 n L dm (fun p => nI (dm p)) x k v₀ n' L' dm') : pm_C b (d + 10) km_M_partner [pm_R 48, pm_I x] g σ τ 0 0 (pm_Wp (fun v σ' => an_ k v₀ v ∧ σ' 48 0 = nI k ∧ RI_ n' L' dm' σ' ∧ kfr_ σ σ') τ) := by
  rcases h with ⟨h1, rfl, rfl, rfl, rfl⟩ | ⟨p, h1, rfl, rfl, rfl, rfl, rfl, rfl⟩
  · exact x_M_partner hg hB hw hm hI h1
  · exact k_M_partner hg hB hw hm hI h1
theorem q_M_matched (hg : pm_gok 61 g) (hB : pm_base b) (hw : rh_wf n L) (hm : md_ n L dm) (hI : RI_ n L dm σ) (h : st_1 n L dm (fun p => if (SA_ n L).1 = 0 then -1 else nI ((SA_ n L).2.2 p)) x k v₀ n' L' dm') : pm_C b (d + 10) km_M_matched [pm_R 48, pm_I x] g σ τ 0 0 (pm_Wp (fun v σ' => an_ k v₀ v ∧ σ' 48 0 = nI k ∧ RI_ n' L' dm' σ' ∧ kfr_ σ σ') τ) := by
  rcases h with ⟨h1, rfl, rfl, rfl, rfl⟩ | ⟨p, h1, rfl, rfl, rfl, rfl, rfl, rfl⟩
  · exact x_M_matched hg hB hw hm hI h1
  · exact k_M_matched hg hB hw hm hI h1
theorem q_M_party (hg : pm_gok 61 g) (hB : pm_base b) (hw : rh_wf n L) (hm : md_ n L dm) (hI : RI_ n L dm σ) (h : st_1 n L dm (fun p => nI (od_ n L p)) x k v₀ n' L' dm') : pm_C b (d + 10) km_M_party [pm_R 48, pm_I x] g σ τ 0 0 (pm_Wp (fun v σ' => an_ k v₀ v ∧ σ' 48 0 = nI k ∧ RI_ n' L' dm' σ' ∧ kfr_ σ σ') τ) := by
  rcases h with ⟨h1, rfl, rfl, rfl, rfl⟩ | ⟨p, h1, rfl, rfl, rfl, rfl, rfl, rfl⟩
  · exact x_M_party hg hB hw hm hI h1
  · exact k_M_party hg hB hw hm hI h1
theorem q_M_next (hg : pm_gok 61 g) (hB : pm_base b) (hw : rh_wf n L) (hm : md_ n L dm) (hI : RI_ n L dm σ) (h : st_1 n L dm (fun p => if od_ n L p = 0 then -1 else nI (F_ n L p)) x k v₀ n' L' dm') : pm_C b (d + 10) km_M_next [pm_R 48, pm_I x] g σ τ 0 0 (pm_Wp (fun v σ' => an_ k v₀ v ∧ σ' 48 0 = nI k ∧ RI_ n' L' dm' σ' ∧ kfr_ σ σ') τ) := by
  rcases h with ⟨h1, rfl, rfl, rfl, rfl⟩ | ⟨p, h1, rfl, rfl, rfl, rfl, rfl, rfl⟩
  · exact x_M_next hg hB hw hm hI h1
  · exact k_M_next hg hB hw hm hI h1
theorem q_M_extreme (hg : pm_gok 61 g) (hB : pm_base b) (hw : rh_wf n L) (hm : md_ n L dm) (hI : RI_ n L dm σ) (hy : y = nI 0 ∨ y = nI 1) (h : st_1 n L dm (fun p => if y = 0 then oI (best_ n L p) else oI (worst_ n L p)) x k v₀ n' L' dm') : pm_C b (d + 10) km_M_extreme [pm_R 48, pm_I x, pm_I y] g σ τ 0 0 (pm_Wp (fun v σ' => an_ k v₀ v ∧ σ' 48 0 = nI k ∧ RI_ n' L' dm' σ' ∧ kfr_ σ σ') τ) := by
  rcases h with ⟨h1, rfl, rfl, rfl, rfl⟩ | ⟨p, h1, rfl, rfl, rfl, rfl, rfl, rfl⟩
  · exact x_M_extreme hg hB hw hm hI h1
  · rcases hy with rfl | rfl
    · exact k_M_extreme_0 hg hB hw hm hI h1
    · exact k_M_extreme_1 hg hB hw hm hI h1
theorem q_M_place (hg : pm_gok 61 g) (hB : pm_base b) (hw : rh_wf n L) (hm : md_ n L dm) (hI : RI_ n L dm σ) (h : st_2 n L dm (fun p q => pl_ L p q) x y k v₀ n' L' dm') : pm_C b (d + 10) km_M_place [pm_R 48, pm_I x, pm_I y] g σ τ 0 0 (pm_Wp (fun v σ' => an_ k v₀ v ∧ σ' 48 0 = nI k ∧ RI_ n' L' dm' σ' ∧ kfr_ σ σ') τ) := by
  rcases h with ⟨h1, rfl, rfl, rfl, rfl⟩ | ⟨p, q, h1, h2, rfl, rfl, rfl, rfl, rfl, rfl, rfl⟩
  · exact x_M_place hg hB hw hm hI h1
  · exact k_M_place hg hB hw hm hI h1 h2
theorem q_M_together (hg : pm_gok 61 g) (hB : pm_base b) (hw : rh_wf n L) (hm : md_ n L dm) (hI : RI_ n L dm σ) (h : st_2 n L dm (fun p q => nI ((SA_ n L).2.1 p q)) x y k v₀ n' L' dm') : pm_C b (d + 10) km_M_together [pm_R 48, pm_I x, pm_I y] g σ τ 0 0 (pm_Wp (fun v σ' => an_ k v₀ v ∧ σ' 48 0 = nI k ∧ RI_ n' L' dm' σ' ∧ kfr_ σ σ') τ) := by
  rcases h with ⟨h1, rfl, rfl, rfl, rfl⟩ | ⟨p, q, h1, h2, rfl, rfl, rfl, rfl, rfl, rfl, rfl⟩
  · exact x_M_together hg hB hw hm hI h1
  · exact k_M_together hg hB hw hm hI h1 h2
theorem q_M_put (hg : pm_gok 61 g) (hB : pm_base b) (hw : rh_wf n L) (hm : md_ n L dm) (hI : RI_ n L dm σ) (h : st_put n L dm x y k v₀ n' L' dm') : pm_C b (d + 10) km_M_put [pm_R 48, pm_I x, pm_I y] g σ τ 0 0 (pm_Wp (fun v σ' => an_ k v₀ v ∧ σ' 48 0 = nI k ∧ RI_ n' L' dm' σ' ∧ kfr_ σ σ') τ) := by
  rcases h with ⟨h1, rfl, rfl, rfl, rfl⟩ | ⟨p, q, h1, h2, rfl, rfl, ⟨rfl, rfl, rfl, rfl, rfl⟩ | ⟨h3, h4, rfl, rfl, rfl, rfl⟩ | ⟨h3, h4, rfl, rfl, rfl, rfl, rfl⟩⟩
  · exact x_M_put hg hB hw hm hI h1
  · exact x_M_put2 hg hB hw hm hI h1
  · exact x_M_put3 hg hB hw hm hI h1 h2 h3 h4
  · exact k_M_put hg hB hw hm hI h1 h2 h3 h4
theorem q_M_pair (hg : pm_gok 61 g) (hB : pm_base b) (hw : rh_wf n L) (hm : md_ n L dm) (hI : RI_ n L dm σ) (h : st_pair n L dm x y k v₀ n' L' dm') : pm_C b (d + 10) km_M_pair [pm_R 48, pm_I x, pm_I y] g σ τ 0 0 (pm_Wp (fun v σ' => an_ k v₀ v ∧ σ' 48 0 = nI k ∧ RI_ n' L' dm' σ' ∧ kfr_ σ σ') τ) := by
  rcases h with ⟨h1, rfl, rfl, rfl, rfl⟩ | ⟨p, q, h1, h2, rfl, rfl, ⟨rfl, rfl, rfl, rfl, rfl⟩ | ⟨h3, h4, rfl, rfl, rfl, rfl⟩ | ⟨h3, h4, rfl, rfl, rfl, rfl, rfl⟩⟩
  · exact x_M_pair hg hB hw hm hI h1
  · exact x_M_pair2 hg hB hw hm hI h1
  · exact x_M_pair3 hg hB hw hm hI h1 h2 h3 h4
  · exact k_M_pair hg hB hw hm hI h1 h2 h3 h4
theorem q_M_remove (hg : pm_gok 61 g) (hB : pm_base b) (hw : rh_wf n L) (hm : md_ n L dm) (hI : RI_ n L dm σ) (h : st_remove n L dm x y k v₀ n' L' dm') : pm_C b (d + 10) km_M_remove [pm_R 48, pm_I x, pm_I y] g σ τ 0 0 (pm_Wp (fun v σ' => an_ k v₀ v ∧ σ' 48 0 = nI k ∧ RI_ n' L' dm' σ' ∧ kfr_ σ σ') τ) := by
  rcases h with ⟨h1, rfl, rfl, rfl, rfl⟩ | ⟨p, h1, rfl, ⟨h2, rfl, rfl, rfl, rfl⟩ | ⟨i, h2, rfl, rfl, rfl, rfl, rfl, rfl⟩⟩
  · exact x_M_remove hg hB hw hm hI h1
  · exact x_M_remove2 hg hB hw hm hI h1 h2
  · exact k_M_remove hg hB hw hm hI h1 h2
theorem q_M_move (hg : pm_gok 61 g) (hB : pm_base b) (hw : rh_wf n L) (hm : md_ n L dm) (hI : RI_ n L dm σ) (h : st_move n L dm x y z k v₀ n' L' dm') : pm_C b (d + 10) km_M_move [pm_R 48, pm_I x, pm_I y, pm_I z] g σ τ 0 0 (pm_Wp (fun v σ' => an_ k v₀ v ∧ σ' 48 0 = nI k ∧ RI_ n' L' dm' σ' ∧ kfr_ σ σ') τ) := by
  rcases h with ⟨h1, rfl, rfl, rfl, rfl⟩ | ⟨p, h1, rfl, ⟨h2, rfl, rfl, rfl, rfl⟩ | ⟨i, j, h2, h3, rfl, rfl, rfl, rfl, rfl, rfl, rfl⟩⟩
  · exact x_M_move hg hB hw hm hI h1
  · exact x_M_move2 hg hB hw hm hI h1 h2
  · exact k_M_move hg hB hw hm hI h1 h2 h3
theorem q_M_at (hg : pm_gok 61 g) (hB : pm_base b) (hw : rh_wf n L) (hm : md_ n L dm) (hI : RI_ n L dm σ) (h : st_at n L dm x y k v₀ n' L' dm') : pm_C b (d + 10) km_M_at [pm_R 48, pm_I x, pm_I y] g σ τ 0 0 (pm_Wp (fun v σ' => an_ k v₀ v ∧ σ' 48 0 = nI k ∧ RI_ n' L' dm' σ' ∧ kfr_ σ σ') τ) := by
  rcases h with ⟨h1, rfl, rfl, rfl, rfl⟩ | ⟨p, h1, rfl, ⟨h2, rfl, rfl, rfl, rfl⟩ | ⟨i, h2, rfl, rfl, rfl, rfl, rfl, rfl⟩ | ⟨h2, h3, rfl, rfl, rfl, rfl, rfl⟩⟩
  · exact x_M_at hg hB hw hm hI h1
  · exact x_M_at2 hg hB hw hm hI h1 h2
  · exact k_M_at hg hB hw hm hI h1 h2
  · exact k_M_at2 hg hB hw hm hI h1 h2 h3
end Q1
