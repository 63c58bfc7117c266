/-! enter, whole -/
set_option maxHeartbeats 8000000 in
theorem z_enter {S : gs_S} {x y t : Nat} {P L : Nat → Nat} {D : Nat → Nat → Option Nat} {N : Nat} (h : r_R S x y t P L D N) (ht : t < 512) : (f_enter S x).1 = (f_enM (m_0 (f_enter S x).2 y) y).1 ∧ r_X (f_enM (m_0 (f_enter S x).2 y) y).2 x y (t + 1) := by
  have hr := h
  obtain ⟨⟨h1, h2, h3, h4⟩, hb, hP, hC, hL, hD, hA⟩ := h
  have un := z_un hr
  by_cases hp0 : m_prepared S y = 0
  · have e10 : g_r S 2 10 x = none := by
      rcases id hA with ⟨-, z, -⟩ | ⟨z, -⟩
      · exact z
      · omega
    have hre : f_reM (m_0 S y) y = -4 := by
      unfold f_reM
      rw [if_pos (show m_prepared (m_0 S y) y = 0 from by rw [← hp0]; simp [m_programs, m_cells, m_active, m_prepared, m_arguments, m_used, m_preparedAhead, m_within, m_names, m_marks, m_manyFormals, m_activeTimes, m_data, m_owner, m_rank, m_external, m_first, m_how, m_bytes, m_memory, m_callOf, m_baseOf, m_usedAhead, m_placeOf, m_argument, m_argumentBytes, m_q, m_0, x_gs])]
    rw [p_rid S 2 10 x none e10] at un
    unfold f_enter
    rw [e10]
    simp only []
    unfold f_enM
    rw [hre, if_neg (by decide)]
    exact ⟨rfl, P, L, _, N, un⟩
  · obtain ⟨p, hp⟩ : ∃ p, m_prepared S y = p := ⟨_, rfl⟩
    have hpr : ¬ p = 0 := by rw [← hp]; exact hp0
    obtain ⟨p1, p2, hN, a4, a5, a6⟩ : 1 ≤ p ∧ p ≤ m_programs S y ∧ m_active S y + 1 ≤ N ∧ g_r S 2 10 x = some (L (m_active S y + 1)) ∧ g_r S 0 2 (L (m_active S y + 1)) = some (P p) ∧ g_i S 0 4 (L (m_active S y + 1)) = nI (m_arguments S y) := by
      rcases id hA with ⟨z, -⟩ | ⟨a1, a2, a3, a4, a5, a6, -⟩
      · exact absurd z hp0
      · rw [hp] at a1 a2 a5
        exact ⟨a1, a2, a3, a4, a5, a6⟩
    have hn := b_programs h2 h4
    have hag := b_arguments h2 h4
    have hmf := b_manyFormals h2 h4 (i := p) (by omega)
    have emf := (hP.2.2 p p1 p2).2.2.2.2.2.2.2.1
    unfold f_enter
    rw [a4]
    simp only []
    rw [a5]
    simp only []
    rw [fit_p, suf_p]
    have hreS : f_reM S y = if f_r1 S y p (m_manyFormals S y p) 0 (if nI (m_arguments S y) ≤ nI (m_manyFormals S y p) then 0 else 1) = 0 then f_r2 S y p (m_arguments S y) 0 else -7 := by
      unfold f_reM f_reP
      rw [hp, if_neg hpr]
    have hre0 : f_reM (m_0 (p_r S 2 10 x none) y) y = f_reM S y := re_c (by simp [m_programs, m_cells, m_active, m_prepared, m_arguments, m_used, m_preparedAhead, m_within, m_names, m_marks, m_manyFormals, m_activeTimes, m_data, m_owner, m_rank, m_external, m_first, m_how, m_bytes, m_memory, m_callOf, m_baseOf, m_usedAhead, m_placeOf, m_argument, m_argumentBytes, m_q, m_0, x_gs]) (by simp [m_programs, m_cells, m_active, m_prepared, m_arguments, m_used, m_preparedAhead, m_within, m_names, m_marks, m_manyFormals, m_activeTimes, m_data, m_owner, m_rank, m_external, m_first, m_how, m_bytes, m_memory, m_callOf, m_baseOf, m_usedAhead, m_placeOf, m_argument, m_argumentBytes, m_q, m_0, x_gs]) (by funext j; simp [m_programs, m_cells, m_active, m_prepared, m_arguments, m_used, m_preparedAhead, m_within, m_names, m_marks, m_manyFormals, m_activeTimes, m_data, m_owner, m_rank, m_external, m_first, m_how, m_bytes, m_memory, m_callOf, m_baseOf, m_usedAhead, m_placeOf, m_argument, m_argumentBytes, m_q, m_0, x_gs]) (by funext j; simp [m_programs, m_cells, m_active, m_prepared, m_arguments, m_used, m_preparedAhead, m_within, m_names, m_marks, m_manyFormals, m_activeTimes, m_data, m_owner, m_rank, m_external, m_first, m_how, m_bytes, m_memory, m_callOf, m_baseOf, m_usedAhead, m_placeOf, m_argument, m_argumentBytes, m_q, m_0, x_gs]) (by funext j; simp [m_programs, m_cells, m_active, m_prepared, m_arguments, m_used, m_preparedAhead, m_within, m_names, m_marks, m_manyFormals, m_activeTimes, m_data, m_owner, m_rank, m_external, m_first, m_how, m_bytes, m_memory, m_callOf, m_baseOf, m_usedAhead, m_placeOf, m_argument, m_argumentBytes, m_q, m_0, x_gs]) (by funext j; simp [m_programs, m_cells, m_active, m_prepared, m_arguments, m_used, m_preparedAhead, m_within, m_names, m_marks, m_manyFormals, m_activeTimes, m_data, m_owner, m_rank, m_external, m_first, m_how, m_bytes, m_memory, m_callOf, m_baseOf, m_usedAhead, m_placeOf, m_argument, m_argumentBytes, m_q, m_0, x_gs]) (by funext j; simp [m_programs, m_cells, m_active, m_prepared, m_arguments, m_used, m_preparedAhead, m_within, m_names, m_marks, m_manyFormals, m_activeTimes, m_data, m_owner, m_rank, m_external, m_first, m_how, m_bytes, m_memory, m_callOf, m_baseOf, m_usedAhead, m_placeOf, m_argument, m_argumentBytes, m_q, m_0, x_gs])
    have refuse : ∀ v : Int32, ¬ v = 1 → f_reM S y = v → v = (f_enM (m_0 (p_r S 2 10 x none) y) y).1 ∧ r_X (f_enM (m_0 (p_r S 2 10 x none) y) y).2 x y (t + 1) := fun v hv e => by
      unfold f_enM
      rw [hre0, e, if_neg hv]
      exact ⟨rfl, P, L, _, N, un⟩
    have hfit : f_fit S (L (m_active S y + 1)) (P p) = if m_arguments S y ≤ m_manyFormals S y p then f_af S (v_a (g_r S 0 5 (L (m_active S y + 1)))) (v_a (g_r S 1 4 (P p))) (m_manyFormals S y p) 0 else 0 := by
      unfold f_fit
      rw [a6, emf, nI_clamp (by omega)]
      by_cases z : m_arguments S y ≤ m_manyFormals S y p
      · rw [if_pos z, if_pos ((nI_leI (by omega) (by omega)).mpr z)]
      · rw [if_neg z, if_neg (fun u => z ((nI_leI (by omega) (by omega)).mp u))]
    by_cases ham : m_arguments S y ≤ m_manyFormals S y p
    · rw [if_pos ((nI_leI (by omega) (by omega)).mpr ham)] at hreS
      rw [if_pos ham] at hfit
      rcases r_fit1 hA hp0 h2 h4 hD hP p1 p2 (m_manyFormals S y p) 0 (by omega) with ⟨f1, f2⟩ | ⟨f1, f2⟩
      · rw [f1] at hfit
        rw [f2, if_pos rfl] at hreS
        rw [hfit, if_neg (show ¬ (1 : Int32) = 0 by decide)]
        have hsuf : f_suf S (L (m_active S y + 1)) (P p) = f_bs S (v_a (g_r S 0 5 (L (m_active S y + 1)))) (v_a (g_r S 0 7 (L (m_active S y + 1)))) (v_a (g_r S 1 5 (P p))) (m_manyFormals S y p) 0 := by
          unfold f_suf
          rw [emf, nI_clamp (by omega)]
        have s12 := r_suf1 hA hp0 h2 h4 hD hP p1 p2 ham (m_manyFormals S y p) 0 (by omega)
        rw [Nat.sub_zero] at s12
        rcases s12 with ⟨s1, s2⟩ | ⟨s1, s2⟩
        · rw [hsuf, s1, if_neg (show ¬ (1 : Int32) = 0 by decide)]
          rw [s2] at hreS
          obtain ⟨C, eC, wC, c0, c1⟩ := ec_en hr hp hpr ham
          rw [eC]
          simp only []
          have g2 := c0.2.1
          have g7 := c0.2.2.2.2.2.2.1
          have g10 := c0.2.2.2.2.2.2.2.2.2.1
          have q1 : ∀ k : Nat, m_q (m_0 C y) y k = m_q S y k := fun k => by
            have := g2 3 k y (by omega) (by omega) (by omega)
            simp [m_q, m_0, x_gs, this]
          have i1 : ∀ k : Nat, ¬ k = 0 → g_i (m_0 C y) 3 k y = g_i S 3 k y := fun k z => by
            have := g7 3 k y (by omega)
            simp [m_0, x_gs, z, this]
          have j1 : ∀ r a j : Nat, 10 ≤ r → g_ai (m_0 C y) r a j = g_ai S r a j := fun r a j z => by
            have := g10 r a j (by omega)
            simp [m_0, x_gs, this]
          have k1 : m_prepared (m_0 C y) y = m_prepared S y := by unfold m_prepared; rw [i1 23 (by omega)]
          have k2 : m_manyFormals (m_0 C y) y = m_manyFormals S y := by funext j; unfold m_manyFormals; rw [q1, j1 _ _ _ (by omega)]
          have hre1 : f_reM (m_0 C y) y = f_reM S y := re_c k1 (by unfold m_arguments; rw [i1 24 (by omega)]) k2 (by funext j; unfold m_how; rw [q1, j1 _ _ _ (by omega)]) (by funext j; unfold m_argument; rw [q1, j1 _ _ _ (by omega)]) (by funext j; unfold m_bytes; rw [q1, j1 _ _ _ (by omega)]) (by funext j; unfold m_argumentBytes; rw [q1, j1 _ _ _ (by omega)])
          unfold f_enM
          rw [hre1, hreS, if_pos rfl, k1, k2, hp]
          exact ⟨rfl, P, L, _, N, z_en2 hr ht hp hpr ham wC c0 c1⟩
        · rw [hsuf, s1, if_pos rfl]
          rw [s2] at hreS
          exact refuse (-8) (by decide) hreS
      · rw [f1] at hfit
        rw [f2, if_neg (by decide)] at hreS
        rw [hfit, if_pos rfl]
        exact refuse (-7) (by decide) hreS
    · rw [if_neg ham] at hfit
      rw [if_neg (fun u => ham ((nI_leI (by omega) (by omega)).mp u)), r1_1, if_neg (by decide)] at hreS
      rw [hfit, if_pos rfl]
      exact refuse (-7) (by decide) hreS
