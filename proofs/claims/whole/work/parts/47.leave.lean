set_option maxHeartbeats 8000000 in
theorem z_leave {S : gs_S} {x y t : Nat} {P L : Nat → Nat} {D : Nat → Nat → Option Nat} {N : Nat} (h : r_R S x y t P L D N) (v : Int64) : (f_leave S x v).1 = (f_leM (m_0 (f_leave S x v).2 y) y v).1 ∧ r_X (f_leM (m_0 (f_leave S x v).2 y) y v).2 x y (t + 1) := by
  have hr := h
  obtain ⟨⟨h1, h2, h3, h4⟩, hb, hP, hC, hL, hD, hA⟩ := h
  have hac := b_active h2 h4
  have same : r_X (m_0 S y) x y (t + 1) := ⟨P, L, D, N, z_0 hr 0 (by omega)⟩
  obtain ⟨t1, t2, t3⟩ := r_run hL
  unfold f_leave
  rw [t2]
  by_cases c0 : m_active S y = 0
  · have e0 : f_runM S y = 0 := by rw [f_runM, if_pos c0]
    rw [e0, p_f0]
    simp only []
    unfold f_leM
    rw [if_pos (show m_active (m_0 S y) y = 0 from c0)]
    exact ⟨rfl, same⟩
  · obtain ⟨m, hm⟩ : ∃ m, m_active S y = m + 1 := ⟨m_active S y - 1, by omega⟩
    have hp : m_callOf S y m = f_runM S y := by rw [f_runM, if_neg c0, hm]; rfl
    obtain ⟨p1, p2, p3, p4⟩ := hL.2.2.2.2.2.2.2.2.2.2.2.1 m (by omega)
    rw [hp] at p1 p2 p3 p4
    have hbel := (hL.2.2.2.2.2.2.2.2.1 m (by have := hL.2.2.2.1; omega)).2
    rw [p_f1 P p1, t1, hm]
    simp only []
    rw [hbel]
    simp only []
    have hkd : f_keeps (l_1 S (P (f_runM S y)) (L (m + 1))) (P (f_runM S y)) = if f_is S y (f_runM S y) 1 = 0 then (if f_is S y (f_runM S y) 4 = 0 then 1 else 0) else 0 := by
      unfold f_keeps
      rw [show f_has (l_1 S (P (f_runM S y)) (L (m + 1))) (P (f_runM S y)) 1 = f_is S y (f_runM S y) 1 from r_has hP p1 p2 1, show f_has (l_1 S (P (f_runM S y)) (L (m + 1))) (P (f_runM S y)) 4 = f_is S y (f_runM S y) 4 from r_has hP p1 p2 4]
    have e6 : l_6 S x (P (f_runM S y)) (L (m + 1)) (L m) v = p_l (p_r (p_i (p_r (p_i (p_r S 1 8 (P (f_runM S y)) (g_r S 0 3 (L (m + 1)))) 1 7 (P (f_runM S y)) (f_keeps (l_1 S (P (f_runM S y)) (L (m + 1))) (P (f_runM S y)))) 2 8 x (some (L m))) 2 9 x (nI m)) 2 10 x none) 2 11 x v := by
      unfold l_6
      rw [hL.2.2.1, hm, nI_pred]
      rfl
    generalize hkk : f_keeps (l_1 S (P (f_runM S y)) (L (m + 1))) (P (f_runM S y)) = kd at *
    have hz := fun (ld : Int32) (hkl : ld = if m_data S y (f_runM S y) = 0 then 0 else kd) => z_leave1 (v := v) hr hm hp hkl (fun z => by
      rw [hkd, show f_is S y (f_runM S y) 4 = 1 from by rw [f_is, if_neg z]]
      split <;> rfl)
    rw [e6]
    generalize hS1 : p_l (p_r (p_i (p_r (p_i (p_r S 1 8 (P (f_runM S y)) (g_r S 0 3 (L (m + 1)))) 1 7 (P (f_runM S y)) kd) 2 8 x (some (L m))) 2 9 x (nI m)) 2 10 x none) 2 11 x v = S1 at *
    have g02 : g_r S1 0 2 (L m) = g_r S 0 2 (L m) := by rw [← hS1]; simp [m_programs, m_cells, m_active, m_prepared, m_arguments, m_used, m_preparedAhead, m_within, m_names, m_marks, m_manyFormals, m_activeTimes, m_data, m_owner, m_rank, m_external, m_first, m_how, m_bytes, m_memory, m_callOf, m_baseOf, m_usedAhead, m_placeOf, m_argument, m_argumentBytes, m_q, m_0, l_6, l_1, x_gs, un_i, un_r, un_l, un_ai, un_al, un_ar, un_sh]
    have ea0 : m_active (m_0 S1 y) y = m + 1 := by rw [← hm, ← hS1]; simp [m_programs, m_cells, m_active, m_prepared, m_arguments, m_used, m_preparedAhead, m_within, m_names, m_marks, m_manyFormals, m_activeTimes, m_data, m_owner, m_rank, m_external, m_first, m_how, m_bytes, m_memory, m_callOf, m_baseOf, m_usedAhead, m_placeOf, m_argument, m_argumentBytes, m_q, m_0, l_6, l_1, x_gs, un_i, un_r, un_l, un_ai, un_al, un_ar, un_sh]
    unfold f_leM
    rw [ea0, if_neg (by omega)]
    generalize hU : f_un (m_0 S1 y) y = U at *
    have ea : m_active U y = m + 1 := by rw [← hm, ← hU, ← hS1]; simp [m_programs, m_cells, m_active, m_prepared, m_arguments, m_used, m_preparedAhead, m_within, m_names, m_marks, m_manyFormals, m_activeTimes, m_data, m_owner, m_rank, m_external, m_first, m_how, m_bytes, m_memory, m_callOf, m_baseOf, m_usedAhead, m_placeOf, m_argument, m_argumentBytes, m_q, m_0, l_6, l_1, x_gs, un_i, un_r, un_l, un_ai, un_al, un_ar, un_sh]
    have er : f_runM U y = f_runM S y := runM_c (by rw [ea, hm]) (by funext j; rw [← hU, ← hS1]; simp [m_programs, m_cells, m_active, m_prepared, m_arguments, m_used, m_preparedAhead, m_within, m_names, m_marks, m_manyFormals, m_activeTimes, m_data, m_owner, m_rank, m_external, m_first, m_how, m_bytes, m_memory, m_callOf, m_baseOf, m_usedAhead, m_placeOf, m_argument, m_argumentBytes, m_q, m_0, l_6, l_1, x_gs, un_i, un_r, un_l, un_ai, un_al, un_ar, un_sh])
    have emk : m_marks U y = m_marks S y := by funext j; rw [← hU, ← hS1]; simp [m_programs, m_cells, m_active, m_prepared, m_arguments, m_used, m_preparedAhead, m_within, m_names, m_marks, m_manyFormals, m_activeTimes, m_data, m_owner, m_rank, m_external, m_first, m_how, m_bytes, m_memory, m_callOf, m_baseOf, m_usedAhead, m_placeOf, m_argument, m_argumentBytes, m_q, m_0, l_6, l_1, x_gs, un_i, un_r, un_l, un_ai, un_al, un_ar, un_sh]
    have ed : l_d U y = if m_data S y (f_runM S y) = 0 then 0 else kd := by
      unfold l_d
      rw [er, is_c emk, is_c emk, hkd, show m_data U y (f_runM S y) = m_data S y (f_runM S y) from by rw [← hU, ← hS1]; simp [m_programs, m_cells, m_active, m_prepared, m_arguments, m_used, m_preparedAhead, m_within, m_names, m_marks, m_manyFormals, m_activeTimes, m_data, m_owner, m_rank, m_external, m_first, m_how, m_bytes, m_memory, m_callOf, m_baseOf, m_usedAhead, m_placeOf, m_argument, m_argumentBytes, m_q, m_0, l_6, l_1, x_gs, un_i, un_r, un_l, un_ai, un_al, un_ar, un_sh]]
    have e4 : l_4 U y v = p_l (p_ai (p_ai (p_i (p_i U 3 22 y (nI m)) 3 17 y (nI (m_usedAhead S y m))) 14 (m_q S y 6) (f_runM S y) (m_activeTimes S y (f_runM S y) - 1)) 15 (m_q S y 7) (f_runM S y) (l_d U y)) 3 28 y v := by
      unfold l_4 l_3
      rw [ea, er, show m + 1 - 1 = m by omega, show m_usedAhead U y m = m_usedAhead S y m from by rw [← hU, ← hS1]; simp [m_programs, m_cells, m_active, m_prepared, m_arguments, m_used, m_preparedAhead, m_within, m_names, m_marks, m_manyFormals, m_activeTimes, m_data, m_owner, m_rank, m_external, m_first, m_how, m_bytes, m_memory, m_callOf, m_baseOf, m_usedAhead, m_placeOf, m_argument, m_argumentBytes, m_q, m_0, l_6, l_1, x_gs, un_i, un_r, un_l, un_ai, un_al, un_ar, un_sh], show m_q U y 6 = m_q S y 6 from by rw [← hU, ← hS1]; simp [m_programs, m_cells, m_active, m_prepared, m_arguments, m_used, m_preparedAhead, m_within, m_names, m_marks, m_manyFormals, m_activeTimes, m_data, m_owner, m_rank, m_external, m_first, m_how, m_bytes, m_memory, m_callOf, m_baseOf, m_usedAhead, m_placeOf, m_argument, m_argumentBytes, m_q, m_0, l_6, l_1, x_gs, un_i, un_r, un_l, un_ai, un_al, un_ar, un_sh], show m_q U y 7 = m_q S y 7 from by rw [← hU, ← hS1]; simp [m_programs, m_cells, m_active, m_prepared, m_arguments, m_used, m_preparedAhead, m_within, m_names, m_marks, m_manyFormals, m_activeTimes, m_data, m_owner, m_rank, m_external, m_first, m_how, m_bytes, m_memory, m_callOf, m_baseOf, m_usedAhead, m_placeOf, m_argument, m_argumentBytes, m_q, m_0, l_6, l_1, x_gs, un_i, un_r, un_l, un_ai, un_al, un_ar, un_sh], show m_activeTimes U y (f_runM S y) = m_activeTimes S y (f_runM S y) from by rw [← hU, ← hS1]; simp [m_programs, m_cells, m_active, m_prepared, m_arguments, m_used, m_preparedAhead, m_within, m_names, m_marks, m_manyFormals, m_activeTimes, m_data, m_owner, m_rank, m_external, m_first, m_how, m_bytes, m_memory, m_callOf, m_baseOf, m_usedAhead, m_placeOf, m_argument, m_argumentBytes, m_q, m_0, l_6, l_1, x_gs, un_i, un_r, un_l, un_ai, un_al, un_ar, un_sh]]
    have hfin := hz (l_d U y) ed
    rw [← e4] at hfin
    refine ⟨?_, P, L, _, N, hfin⟩
    obtain ⟨s1, s2, s3⟩ := r_run hfin.2.2.2.2.1
    have sno := r_no hfin.2.2.1 s3
    have emm : m_active (l_4 U y v) y = m := by rw [e4]; simp [m_programs, m_cells, m_active, m_prepared, m_arguments, m_used, m_preparedAhead, m_within, m_names, m_marks, m_manyFormals, m_activeTimes, m_data, m_owner, m_rank, m_external, m_first, m_how, m_bytes, m_memory, m_callOf, m_baseOf, m_usedAhead, m_placeOf, m_argument, m_argumentBytes, m_q, m_0, l_6, l_1, x_gs, un_i, un_r, un_l, un_ai, un_al, un_ar, un_sh, nI_clamp (show m < 2 ^ 31 by omega)]
    rw [f_run, s1, emm] at s2
    simp only []
    rw [← sno, ← s2, show g_r (l_4 U y v) 0 2 (L m) = g_r S 0 2 (L m) from by rw [e4, ← hU, ← hS1]; simp [m_programs, m_cells, m_active, m_prepared, m_arguments, m_used, m_preparedAhead, m_within, m_names, m_marks, m_manyFormals, m_activeTimes, m_data, m_owner, m_rank, m_external, m_first, m_how, m_bytes, m_memory, m_callOf, m_baseOf, m_usedAhead, m_placeOf, m_argument, m_argumentBytes, m_q, m_0, l_6, l_1, x_gs, un_i, un_r, un_l, un_ai, un_al, un_ar, un_sh]]
    unfold f_no
    cases g_r S 0 2 (L m) with
    | none => rfl
    | some q =>
      simp only []
      rw [e4, ← hU]
      simp [m_programs, m_cells, m_active, m_prepared, m_arguments, m_used, m_preparedAhead, m_within, m_names, m_marks, m_manyFormals, m_activeTimes, m_data, m_owner, m_rank, m_external, m_first, m_how, m_bytes, m_memory, m_callOf, m_baseOf, m_usedAhead, m_placeOf, m_argument, m_argumentBytes, m_q, m_0, l_6, l_1, x_gs, un_i, un_r, un_l, un_ai, un_al, un_ar, un_sh]
