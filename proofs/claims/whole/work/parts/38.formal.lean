/-! formal -/
set_option maxHeartbeats 4000000 in
theorem z_formal {S : gs_S} {x y t : Nat} {P L : Nat → Nat} {D : Nat → Nat → Option Nat} {N : Nat} (h : r_R S x y t P L D N) (p how size : Int32) : (f_formal S x p how size).1 = (f_foM (m_0 (f_formal S x p how size).2 y) y p how size).1 ∧ r_X (f_foM (m_0 (f_formal S x p how size).2 y) y p how size).2 x y (t + 1) := by
  have hr := h
  obtain ⟨⟨h1, h2, h3, h4⟩, hb, hP, hC, hL, hD, hA⟩ := h
  have hn := b_programs h2 h4
  have ha := b_active h2 h4
  have same : r_X (m_0 S y) x y (t + 1) := ⟨P, L, D, N, z_0 hr 0 (by omega)⟩
  unfold f_formal
  rcases r_pOf hP hn p with ⟨a1, a2⟩ | ⟨i, i1, i2, rfl, a3, a4⟩
  · rw [a2]
    simp only []
    unfold f_foM
    rw [if_pos (show f_isP (m_0 S y) y p = 0 from a1)]
    exact ⟨rfl, same⟩
  · rw [a4]
    simp only []
    have hisp : ¬ f_isP (m_0 S y) y (nI i) = 0 := fun z => absurd (a3.symm.trans z) (by decide)
    by_cases c1 : how < 0
    · rw [if_pos c1]; unfold f_foM; rw [if_neg hisp, if_pos c1]; exact ⟨rfl, same⟩
    · rw [if_neg c1]
      by_cases c2 : 3 < how
      · rw [if_pos c2]; unfold f_foM; rw [if_neg hisp, if_neg c1, if_pos c2]; exact ⟨rfl, same⟩
      · rw [if_neg c2]
        by_cases c3 : size < 1
        · rw [if_pos c3]; unfold f_foM; rw [if_neg hisp, if_neg c1, if_neg c2, if_pos c3]; exact ⟨rfl, same⟩
        · rw [if_neg c3]
          by_cases c4 : size ≤ 8
          · rw [if_pos c4, hL.2.2.1]
            by_cases c5 : m_active S y = 0
            · have c5' : nI (m_active S y) ≤ 0 := by rw [c5]; decide
              rw [if_pos c5']
              obtain ⟨q1, q2, q3, q4, q5, q6, q7, q8, q9⟩ := hP.2.2 i i1 i2
              have hmf := b_manyFormals h2 h4 (i := i) (by omega)
              rw [q8, nI_clamp (by omega), nI_1]
              by_cases c6 : m_manyFormals S y i < 16
              · rw [if_pos (show nI (m_manyFormals S y i) < 16 from (nI_ltI (b := 16) (by omega) (by omega)).mpr c6)]
                simp only []
                obtain ⟨hw, hw3, rfl⟩ : ∃ w : Nat, w ≤ 3 ∧ how = nI w := nI_of2 (M := 3) (by decide) c1 (by rw [Int32.le_iff_toInt_le]; rw [Int32.lt_iff_toInt_lt] at c2; omega)
                obtain ⟨sw, sw8, rfl⟩ : ∃ w : Nat, w ≤ 8 ∧ size = nI w := nI_of2 (M := 8) (by decide) (fun z => c3 (by rw [Int32.lt_iff_toInt_lt] at z ⊢; have e1 : (1 : Int32).toInt = 1 := (by decide); have e0 : (0 : Int32).toInt = 0 := (by decide); omega)) c4
                have sw1 : 1 ≤ sw := by
                  rcases Nat.eq_zero_or_pos sw with rfl | z
                  · exact absurd (by decide) c3
                  · exact z
                generalize hT : m_0 (p_i (p_ai (p_ai S 4 (v_a (g_r S 1 4 (P i))) (m_manyFormals S y i) (nI hw)) 5 (v_a (g_r S 1 5 (P i))) (m_manyFormals S y i) (nI sw)) 1 6 (P i) (nI (m_manyFormals S y i + 1))) y = T
                have hmT : m_manyFormals T y i = m_manyFormals S y i := by rw [← hT]; simp [m_programs, m_cells, m_active, m_prepared, m_arguments, m_used, m_preparedAhead, m_within, m_names, m_marks, m_manyFormals, m_activeTimes, m_data, m_owner, m_rank, m_external, m_first, m_how, m_bytes, m_memory, m_callOf, m_baseOf, m_usedAhead, m_placeOf, m_argument, m_argumentBytes, m_q, m_0, x_gs]
                unfold f_foM
                rw [if_neg (show ¬ f_isP T y (nI i) = 0 from fun z => absurd (a3.symm.trans ((show f_isP S y (nI i) = f_isP T y (nI i) from by unfold f_isP; rw [show m_programs T y = m_programs S y from by rw [← hT]; simp [m_programs, m_cells, m_active, m_prepared, m_arguments, m_used, m_preparedAhead, m_within, m_names, m_marks, m_manyFormals, m_activeTimes, m_data, m_owner, m_rank, m_external, m_first, m_how, m_bytes, m_memory, m_callOf, m_baseOf, m_usedAhead, m_placeOf, m_argument, m_argumentBytes, m_q, m_0, x_gs]]).trans z)) (by decide)), if_neg c1, if_neg c2, if_neg c3, if_pos c4, if_pos (show nI (m_active T y) ≤ 0 from by rw [show m_active T y = m_active S y from by rw [← hT]; simp [m_programs, m_cells, m_active, m_prepared, m_arguments, m_used, m_preparedAhead, m_within, m_names, m_marks, m_manyFormals, m_activeTimes, m_data, m_owner, m_rank, m_external, m_first, m_how, m_bytes, m_memory, m_callOf, m_baseOf, m_usedAhead, m_placeOf, m_argument, m_argumentBytes, m_q, m_0, x_gs]]; exact c5'), nI_clamp (show i < 2 ^ 31 by omega), hmT, if_neg (fun z => by have := (nI_eq (b := 16) (by omega) (by omega)).mp z; omega)]
                refine ⟨rfl, P, L, D, N, ?_⟩
                simp only []
                rw [show m_q T y 14 = m_q S y 14 from by rw [← hT]; simp [m_programs, m_cells, m_active, m_prepared, m_arguments, m_used, m_preparedAhead, m_within, m_names, m_marks, m_manyFormals, m_activeTimes, m_data, m_owner, m_rank, m_external, m_first, m_how, m_bytes, m_memory, m_callOf, m_baseOf, m_usedAhead, m_placeOf, m_argument, m_argumentBytes, m_q, m_0, x_gs], show m_q T y 15 = m_q S y 15 from by rw [← hT]; simp [m_programs, m_cells, m_active, m_prepared, m_arguments, m_used, m_preparedAhead, m_within, m_names, m_marks, m_manyFormals, m_activeTimes, m_data, m_owner, m_rank, m_external, m_first, m_how, m_bytes, m_memory, m_callOf, m_baseOf, m_usedAhead, m_placeOf, m_argument, m_argumentBytes, m_q, m_0, x_gs], show m_q T y 5 = m_q S y 5 from by rw [← hT]; simp [m_programs, m_cells, m_active, m_prepared, m_arguments, m_used, m_preparedAhead, m_within, m_names, m_marks, m_manyFormals, m_activeTimes, m_data, m_owner, m_rank, m_external, m_first, m_how, m_bytes, m_memory, m_callOf, m_baseOf, m_usedAhead, m_placeOf, m_argument, m_argumentBytes, m_q, m_0, x_gs], ← hT]
                have hP1 := hP.2.1
                generalize hmm : m_manyFormals S y i = mf at *
                generalize h2S : p_ai (p_ai (p_ai (m_0 (p_i (p_ai (p_ai S 4 (v_a (g_r S 1 4 (P i))) mf (nI hw)) 5 (v_a (g_r S 1 5 (P i))) mf (nI sw)) 1 6 (P i) (nI (mf + 1))) y) 20 (m_q S y 14) (16 * (i - 1) + mf) (nI hw)) 21 (m_q S y 15) (16 * (i - 1) + mf) (nI sw)) 13 (m_q S y 5) i (nI (mf + 1)) = S2
                have emf : ∀ k : Nat, m_manyFormals S2 y k = if k = i then mf + 1 else m_manyFormals S y k := fun k => by
                  rw [← h2S]
                  by_cases z : k = i
                  · rw [if_pos z, z]; simp [m_programs, m_cells, m_active, m_prepared, m_arguments, m_used, m_preparedAhead, m_within, m_names, m_marks, m_manyFormals, m_activeTimes, m_data, m_owner, m_rank, m_external, m_first, m_how, m_bytes, m_memory, m_callOf, m_baseOf, m_usedAhead, m_placeOf, m_argument, m_argumentBytes, m_q, m_0, x_gs, nI_clamp (show mf + 1 < 2 ^ 31 by omega)]
                  · rw [if_neg z]; simp [m_programs, m_cells, m_active, m_prepared, m_arguments, m_used, m_preparedAhead, m_within, m_names, m_marks, m_manyFormals, m_activeTimes, m_data, m_owner, m_rank, m_external, m_first, m_how, m_bytes, m_memory, m_callOf, m_baseOf, m_usedAhead, m_placeOf, m_argument, m_argumentBytes, m_q, m_0, x_gs, z]
                have ehow : ∀ k : Nat, m_how S2 y k = if k = 16 * (i - 1) + mf then nI hw else m_how S y k := fun k => by
                  rw [← h2S]
                  by_cases z : k = 16 * (i - 1) + mf
                  · rw [if_pos z, z]; simp [m_programs, m_cells, m_active, m_prepared, m_arguments, m_used, m_preparedAhead, m_within, m_names, m_marks, m_manyFormals, m_activeTimes, m_data, m_owner, m_rank, m_external, m_first, m_how, m_bytes, m_memory, m_callOf, m_baseOf, m_usedAhead, m_placeOf, m_argument, m_argumentBytes, m_q, m_0, x_gs]
                  · rw [if_neg z]; simp [m_programs, m_cells, m_active, m_prepared, m_arguments, m_used, m_preparedAhead, m_within, m_names, m_marks, m_manyFormals, m_activeTimes, m_data, m_owner, m_rank, m_external, m_first, m_how, m_bytes, m_memory, m_callOf, m_baseOf, m_usedAhead, m_placeOf, m_argument, m_argumentBytes, m_q, m_0, x_gs, z]
                have eby : ∀ k : Nat, m_bytes S2 y k = if k = 16 * (i - 1) + mf then nI sw else m_bytes S y k := fun k => by
                  rw [← h2S]
                  by_cases z : k = 16 * (i - 1) + mf
                  · rw [if_pos z, z]; simp [m_programs, m_cells, m_active, m_prepared, m_arguments, m_used, m_preparedAhead, m_within, m_names, m_marks, m_manyFormals, m_activeTimes, m_data, m_owner, m_rank, m_external, m_first, m_how, m_bytes, m_memory, m_callOf, m_baseOf, m_usedAhead, m_placeOf, m_argument, m_argumentBytes, m_q, m_0, x_gs]
                  · rw [if_neg z]; simp [m_programs, m_cells, m_active, m_prepared, m_arguments, m_used, m_preparedAhead, m_within, m_names, m_marks, m_manyFormals, m_activeTimes, m_data, m_owner, m_rank, m_external, m_first, m_how, m_bytes, m_memory, m_callOf, m_baseOf, m_usedAhead, m_placeOf, m_argument, m_argumentBytes, m_q, m_0, x_gs, z]
                refine ⟨⟨?_, ?_, ?_, ?_⟩, ?_, ?_, ?_, ?_, ?_, ?_⟩
                · rw [← h2S]; exact wt_pai (wt_pai (wt_pai (wt_pi0 (wt_pi (wt_pai (wt_pai h1 (fun z => absurd z (by decide))) (fun z => absurd z (by decide))) (fun z => absurd z (by decide)) (fun _ _ => ⟨mf + 1, by omega, rfl⟩) (fun z => absurd z.2 (by decide)) (fun z => absurd z (by decide)) (fun z => absurd z (by decide))) (by decide)) (fun z => absurd z (by decide))) (fun z => absurd z (by decide))) (fun z => absurd z (by decide))
                · rw [← h2S]; exact mt_pai (mt_pai (mt_pai (mt_pi0 (mt_pi (mt_pai (mt_pai h2 (fun z => absurd z (by decide))) (fun z => absurd z (by decide))) (fun z => absurd z (by decide))) (by decide)) (fun _ => True.intro)) (fun _ => True.intro)) (fun _ => ⟨mf + 1, rfl, by omega⟩)
                · rw [← h2S]; simpa [m_programs, m_cells, m_active, m_prepared, m_arguments, m_used, m_preparedAhead, m_within, m_names, m_marks, m_manyFormals, m_activeTimes, m_data, m_owner, m_rank, m_external, m_first, m_how, m_bytes, m_memory, m_callOf, m_baseOf, m_usedAhead, m_placeOf, m_argument, m_argumentBytes, m_q, m_0, x_gs] using h3
                · rw [← h2S]; simpa [m_programs, m_cells, m_active, m_prepared, m_arguments, m_used, m_preparedAhead, m_within, m_names, m_marks, m_manyFormals, m_activeTimes, m_data, m_owner, m_rank, m_external, m_first, m_how, m_bytes, m_memory, m_callOf, m_baseOf, m_usedAhead, m_placeOf, m_argument, m_argumentBytes, m_q, m_0, x_gs] using h4
                · rw [show m_cells S2 y = m_cells S y from (by rw [← h2S]; simp [m_programs, m_cells, m_active, m_prepared, m_arguments, m_used, m_preparedAhead, m_within, m_names, m_marks, m_manyFormals, m_activeTimes, m_data, m_owner, m_rank, m_external, m_first, m_how, m_bytes, m_memory, m_callOf, m_baseOf, m_usedAhead, m_placeOf, m_argument, m_argumentBytes, m_q, m_0, x_gs]), show m_active S2 y = m_active S y from (by rw [← h2S]; simp [m_programs, m_cells, m_active, m_prepared, m_arguments, m_used, m_preparedAhead, m_within, m_names, m_marks, m_manyFormals, m_activeTimes, m_data, m_owner, m_rank, m_external, m_first, m_how, m_bytes, m_memory, m_callOf, m_baseOf, m_usedAhead, m_placeOf, m_argument, m_argumentBytes, m_q, m_0, x_gs]), show m_prepared S2 y = m_prepared S y from (by rw [← h2S]; simp [m_programs, m_cells, m_active, m_prepared, m_arguments, m_used, m_preparedAhead, m_within, m_names, m_marks, m_manyFormals, m_activeTimes, m_data, m_owner, m_rank, m_external, m_first, m_how, m_bytes, m_memory, m_callOf, m_baseOf, m_usedAhead, m_placeOf, m_argument, m_argumentBytes, m_q, m_0, x_gs])]; omega
                · have ePr : m_programs S2 y = m_programs S y := (by rw [← h2S]; simp [m_programs, m_cells, m_active, m_prepared, m_arguments, m_used, m_preparedAhead, m_within, m_names, m_marks, m_manyFormals, m_activeTimes, m_data, m_owner, m_rank, m_external, m_first, m_how, m_bytes, m_memory, m_callOf, m_baseOf, m_usedAhead, m_placeOf, m_argument, m_argumentBytes, m_q, m_0, x_gs])
                  refine ⟨?_, ?_, fun k k1 k2 => ?_⟩
                  · rw [ePr]; rw [← h2S]; simpa [m_programs, m_cells, m_active, m_prepared, m_arguments, m_used, m_preparedAhead, m_within, m_names, m_marks, m_manyFormals, m_activeTimes, m_data, m_owner, m_rank, m_external, m_first, m_how, m_bytes, m_memory, m_callOf, m_baseOf, m_usedAhead, m_placeOf, m_argument, m_argumentBytes, m_q, m_0, x_gs] using hP.1
                  · intro k k' w1 w2 w3 w4 w5
                    rw [ePr] at w2 w4
                    refine hP1 k k' w1 w2 w3 w4 ?_
                    rw [← h2S] at w5
                    simpa [m_programs, m_cells, m_active, m_prepared, m_arguments, m_used, m_preparedAhead, m_within, m_names, m_marks, m_manyFormals, m_activeTimes, m_data, m_owner, m_rank, m_external, m_first, m_how, m_bytes, m_memory, m_callOf, m_baseOf, m_usedAhead, m_placeOf, m_argument, m_argumentBytes, m_q, m_0, x_gs] using w5
                  · rw [ePr] at k2
                    obtain ⟨u1, u2, u3, u4, u5, u6, u7, u8, u9⟩ := hP.2.2 k k1 k2
                    have hmk := b_manyFormals h2 h4 (i := k) (by omega)
                    have e1 : g_ar S2 0 (v_a (g_r S2 2 1 x)) k = g_ar S 0 (v_a (g_r S 2 1 x)) k := (by rw [← h2S]; simp [m_programs, m_cells, m_active, m_prepared, m_arguments, m_used, m_preparedAhead, m_within, m_names, m_marks, m_manyFormals, m_activeTimes, m_data, m_owner, m_rank, m_external, m_first, m_how, m_bytes, m_memory, m_callOf, m_baseOf, m_usedAhead, m_placeOf, m_argument, m_argumentBytes, m_q, m_0, x_gs])
                    have e2 : g_sh S2 (P k) = g_sh S (P k) := (by rw [← h2S]; simp [m_programs, m_cells, m_active, m_prepared, m_arguments, m_used, m_preparedAhead, m_within, m_names, m_marks, m_manyFormals, m_activeTimes, m_data, m_owner, m_rank, m_external, m_first, m_how, m_bytes, m_memory, m_callOf, m_baseOf, m_usedAhead, m_placeOf, m_argument, m_argumentBytes, m_q, m_0, x_gs])
                    have e3 : g_i S2 1 1 (P k) = g_i S 1 1 (P k) := (by rw [← h2S]; simp [m_programs, m_cells, m_active, m_prepared, m_arguments, m_used, m_preparedAhead, m_within, m_names, m_marks, m_manyFormals, m_activeTimes, m_data, m_owner, m_rank, m_external, m_first, m_how, m_bytes, m_memory, m_callOf, m_baseOf, m_usedAhead, m_placeOf, m_argument, m_argumentBytes, m_q, m_0, x_gs])
                    have e4 : m_within S2 y k = m_within S y k := (by rw [← h2S]; simp [m_programs, m_cells, m_active, m_prepared, m_arguments, m_used, m_preparedAhead, m_within, m_names, m_marks, m_manyFormals, m_activeTimes, m_data, m_owner, m_rank, m_external, m_first, m_how, m_bytes, m_memory, m_callOf, m_baseOf, m_usedAhead, m_placeOf, m_argument, m_argumentBytes, m_q, m_0, x_gs])
                    have e5 : g_r S2 1 0 (P k) = g_r S 1 0 (P k) := (by rw [← h2S]; simp [m_programs, m_cells, m_active, m_prepared, m_arguments, m_used, m_preparedAhead, m_within, m_names, m_marks, m_manyFormals, m_activeTimes, m_data, m_owner, m_rank, m_external, m_first, m_how, m_bytes, m_memory, m_callOf, m_baseOf, m_usedAhead, m_placeOf, m_argument, m_argumentBytes, m_q, m_0, x_gs])
                    have e6 : g_i S2 1 2 (P k) = g_i S 1 2 (P k) ∧ m_names S2 y k = m_names S y k ∧ g_i S2 1 3 (P k) = g_i S 1 3 (P k) ∧ m_marks S2 y k = m_marks S y k := by rw [← h2S]; simp [m_programs, m_cells, m_active, m_prepared, m_arguments, m_used, m_preparedAhead, m_within, m_names, m_marks, m_manyFormals, m_activeTimes, m_data, m_owner, m_rank, m_external, m_first, m_how, m_bytes, m_memory, m_callOf, m_baseOf, m_usedAhead, m_placeOf, m_argument, m_argumentBytes, m_q, m_0, x_gs]
                    rw [e1, e2, e3, e4, e5, e6.1, e6.2.1, e6.2.2.1, e6.2.2.2, emf]
                    refine ⟨u1, u2, u3, u4, u5, u6, u7, ?_⟩
                    by_cases z : k = i
                    · subst z
                      rw [if_pos rfl]
                      refine ⟨by rw [← h2S]; simp [m_programs, m_cells, m_active, m_prepared, m_arguments, m_used, m_preparedAhead, m_within, m_names, m_marks, m_manyFormals, m_activeTimes, m_data, m_owner, m_rank, m_external, m_first, m_how, m_bytes, m_memory, m_callOf, m_baseOf, m_usedAhead, m_placeOf, m_argument, m_argumentBytes, m_q, m_0, x_gs], fun j hj => ?_⟩
                      have f4 : g_ai S2 4 (v_a (g_r S2 1 4 (P k))) j = if j = mf then nI hw else g_ai S 4 (v_a (g_r S 1 4 (P k))) j := by rw [← h2S]; simp [m_programs, m_cells, m_active, m_prepared, m_arguments, m_used, m_preparedAhead, m_within, m_names, m_marks, m_manyFormals, m_activeTimes, m_data, m_owner, m_rank, m_external, m_first, m_how, m_bytes, m_memory, m_callOf, m_baseOf, m_usedAhead, m_placeOf, m_argument, m_argumentBytes, m_q, m_0, x_gs]
                      have f5 : g_ai S2 5 (v_a (g_r S2 1 5 (P k))) j = if j = mf then nI sw else g_ai S 5 (v_a (g_r S 1 5 (P k))) j := by rw [← h2S]; simp [m_programs, m_cells, m_active, m_prepared, m_arguments, m_used, m_preparedAhead, m_within, m_names, m_marks, m_manyFormals, m_activeTimes, m_data, m_owner, m_rank, m_external, m_first, m_how, m_bytes, m_memory, m_callOf, m_baseOf, m_usedAhead, m_placeOf, m_argument, m_argumentBytes, m_q, m_0, x_gs]
                      rw [f4, f5, ehow, eby]
                      by_cases zj : j = mf
                      · subst zj
                        rw [if_pos rfl, if_pos rfl, if_pos rfl, if_pos rfl]
                        exact ⟨rfl, rfl, ⟨hw, hw3, rfl⟩, sw, sw1, sw8, rfl⟩
                      · rw [if_neg zj, if_neg zj, if_neg (by omega), if_neg (by omega)]
                        exact u9 j (by omega)
                    · rw [if_neg z]
                      have hPne : ¬ P k = P i := fun w => z (r_inj hP hn k1 k2 i1 i2 w)
                      have h4n : ¬ v_a (g_r S 1 4 (P k)) = v_a (g_r S 1 4 (P i)) := fun w => z (hP1 k i k1 k2 i1 i2 (Or.inr ⟨4, by omega, by omega, w⟩))
                      have h5n : ¬ v_a (g_r S 1 5 (P k)) = v_a (g_r S 1 5 (P i)) := fun w => z (hP1 k i k1 k2 i1 i2 (Or.inr ⟨5, by omega, by omega, w⟩))
                      refine ⟨by rw [← h2S]; simpa [m_programs, m_cells, m_active, m_prepared, m_arguments, m_used, m_preparedAhead, m_within, m_names, m_marks, m_manyFormals, m_activeTimes, m_data, m_owner, m_rank, m_external, m_first, m_how, m_bytes, m_memory, m_callOf, m_baseOf, m_usedAhead, m_placeOf, m_argument, m_argumentBytes, m_q, m_0, x_gs, hPne] using u8, fun j hj => ?_⟩
                      have f4 : g_ai S2 4 (v_a (g_r S2 1 4 (P k))) j = g_ai S 4 (v_a (g_r S 1 4 (P k))) j := by rw [← h2S]; simp [m_programs, m_cells, m_active, m_prepared, m_arguments, m_used, m_preparedAhead, m_within, m_names, m_marks, m_manyFormals, m_activeTimes, m_data, m_owner, m_rank, m_external, m_first, m_how, m_bytes, m_memory, m_callOf, m_baseOf, m_usedAhead, m_placeOf, m_argument, m_argumentBytes, m_q, m_0, x_gs, h4n]
                      have f5 : g_ai S2 5 (v_a (g_r S2 1 5 (P k))) j = g_ai S 5 (v_a (g_r S 1 5 (P k))) j := by rw [← h2S]; simp [m_programs, m_cells, m_active, m_prepared, m_arguments, m_used, m_preparedAhead, m_within, m_names, m_marks, m_manyFormals, m_activeTimes, m_data, m_owner, m_rank, m_external, m_first, m_how, m_bytes, m_memory, m_callOf, m_baseOf, m_usedAhead, m_placeOf, m_argument, m_argumentBytes, m_q, m_0, x_gs, h5n]
                      rw [f4, f5, ehow, eby, if_neg (by omega), if_neg (by omega)]
                      exact u9 j hj
                · refine ⟨?_, fun k hk => ?_, fun nm hnm => ?_, fun k k1 k2 => ?_⟩
                  · rw [← h2S]; simpa [m_programs, m_cells, m_active, m_prepared, m_arguments, m_used, m_preparedAhead, m_within, m_names, m_marks, m_manyFormals, m_activeTimes, m_data, m_owner, m_rank, m_external, m_first, m_how, m_bytes, m_memory, m_callOf, m_baseOf, m_usedAhead, m_placeOf, m_argument, m_argumentBytes, m_q, m_0, x_gs] using hC.1
                  · have := hC.2.1 k (by rw [show m_cells S y = m_cells S2 y from (by rw [← h2S]; simp [m_programs, m_cells, m_active, m_prepared, m_arguments, m_used, m_preparedAhead, m_within, m_names, m_marks, m_manyFormals, m_activeTimes, m_data, m_owner, m_rank, m_external, m_first, m_how, m_bytes, m_memory, m_callOf, m_baseOf, m_usedAhead, m_placeOf, m_argument, m_argumentBytes, m_q, m_0, x_gs])]; exact hk)
                    rw [show m_owner S2 y = m_owner S y from (by funext j; rw [← h2S]; simp [m_programs, m_cells, m_active, m_prepared, m_arguments, m_used, m_preparedAhead, m_within, m_names, m_marks, m_manyFormals, m_activeTimes, m_data, m_owner, m_rank, m_external, m_first, m_how, m_bytes, m_memory, m_callOf, m_baseOf, m_usedAhead, m_placeOf, m_argument, m_argumentBytes, m_q, m_0, x_gs]), ← h2S]
                    simpa [m_programs, m_cells, m_active, m_prepared, m_arguments, m_used, m_preparedAhead, m_within, m_names, m_marks, m_manyFormals, m_activeTimes, m_data, m_owner, m_rank, m_external, m_first, m_how, m_bytes, m_memory, m_callOf, m_baseOf, m_usedAhead, m_placeOf, m_argument, m_argumentBytes, m_q, m_0, x_gs] using this
                  · rw [← h2S]; simpa [m_programs, m_cells, m_active, m_prepared, m_arguments, m_used, m_preparedAhead, m_within, m_names, m_marks, m_manyFormals, m_activeTimes, m_data, m_owner, m_rank, m_external, m_first, m_how, m_bytes, m_memory, m_callOf, m_baseOf, m_usedAhead, m_placeOf, m_argument, m_argumentBytes, m_q, m_0, x_gs] using hC.2.2.1 nm hnm
                  · rw [show m_programs S2 y = m_programs S y from (by rw [← h2S]; simp [m_programs, m_cells, m_active, m_prepared, m_arguments, m_used, m_preparedAhead, m_within, m_names, m_marks, m_manyFormals, m_activeTimes, m_data, m_owner, m_rank, m_external, m_first, m_how, m_bytes, m_memory, m_callOf, m_baseOf, m_usedAhead, m_placeOf, m_argument, m_argumentBytes, m_q, m_0, x_gs])] at k1
                    rw [emf, if_neg (by omega), show m_activeTimes S2 y k = m_activeTimes S y k from (by rw [← h2S]; simp [m_programs, m_cells, m_active, m_prepared, m_arguments, m_used, m_preparedAhead, m_within, m_names, m_marks, m_manyFormals, m_activeTimes, m_data, m_owner, m_rank, m_external, m_first, m_how, m_bytes, m_memory, m_callOf, m_baseOf, m_usedAhead, m_placeOf, m_argument, m_argumentBytes, m_q, m_0, x_gs]), show m_data S2 y k = m_data S y k from (by rw [← h2S]; simp [m_programs, m_cells, m_active, m_prepared, m_arguments, m_used, m_preparedAhead, m_within, m_names, m_marks, m_manyFormals, m_activeTimes, m_data, m_owner, m_rank, m_external, m_first, m_how, m_bytes, m_memory, m_callOf, m_baseOf, m_usedAhead, m_placeOf, m_argument, m_argumentBytes, m_q, m_0, x_gs])]
                    exact hC.2.2.2 k k1 k2
                · rw [r_L, show m_callOf S2 y = m_callOf S y from (by funext j; rw [← h2S]; simp [m_programs, m_cells, m_active, m_prepared, m_arguments, m_used, m_preparedAhead, m_within, m_names, m_marks, m_manyFormals, m_activeTimes, m_data, m_owner, m_rank, m_external, m_first, m_how, m_bytes, m_memory, m_callOf, m_baseOf, m_usedAhead, m_placeOf, m_argument, m_argumentBytes, m_q, m_0, x_gs]), ← h2S]; simpa [r_L, m_programs, m_cells, m_active, m_prepared, m_arguments, m_used, m_preparedAhead, m_within, m_names, m_marks, m_manyFormals, m_activeTimes, m_data, m_owner, m_rank, m_external, m_first, m_how, m_bytes, m_memory, m_callOf, m_baseOf, m_usedAhead, m_placeOf, m_argument, m_argumentBytes, m_q, m_0, x_gs] using hL
                · obtain ⟨k1, k2, k3, k4, k5, k6, k7, k8, k9⟩ := id hD
                  have e2 : m_active S2 y = m_active S y := (by rw [← h2S]; simp [m_programs, m_cells, m_active, m_prepared, m_arguments, m_used, m_preparedAhead, m_within, m_names, m_marks, m_manyFormals, m_activeTimes, m_data, m_owner, m_rank, m_external, m_first, m_how, m_bytes, m_memory, m_callOf, m_baseOf, m_usedAhead, m_placeOf, m_argument, m_argumentBytes, m_q, m_0, x_gs])
                  have eU : ∀ j : Nat, r_U S2 y j = r_U S y j := fun j => by
                    rw [← h2S]; simp [r_U, m_programs, m_cells, m_active, m_prepared, m_arguments, m_used, m_preparedAhead, m_within, m_names, m_marks, m_manyFormals, m_activeTimes, m_data, m_owner, m_rank, m_external, m_first, m_how, m_bytes, m_memory, m_callOf, m_baseOf, m_usedAhead, m_placeOf, m_argument, m_argumentBytes, m_q, m_0, x_gs]
                  refine ⟨fun q => by rw [show m_cells S2 y = m_cells S y from (by rw [← h2S]; simp [m_programs, m_cells, m_active, m_prepared, m_arguments, m_used, m_preparedAhead, m_within, m_names, m_marks, m_manyFormals, m_activeTimes, m_data, m_owner, m_rank, m_external, m_first, m_how, m_bytes, m_memory, m_callOf, m_baseOf, m_usedAhead, m_placeOf, m_argument, m_argumentBytes, m_q, m_0, x_gs])]; exact k1 q, fun h q d w1 w2 => by rw [e2, eU, eU, show m_prepared S2 y = m_prepared S y from (by rw [← h2S]; simp [m_programs, m_cells, m_active, m_prepared, m_arguments, m_used, m_preparedAhead, m_within, m_names, m_marks, m_manyFormals, m_activeTimes, m_data, m_owner, m_rank, m_external, m_first, m_how, m_bytes, m_memory, m_callOf, m_baseOf, m_usedAhead, m_placeOf, m_argument, m_argumentBytes, m_q, m_0, x_gs])]; exact k2 h q d w1 w2, k3, by rw [← h2S]; simpa [m_programs, m_cells, m_active, m_prepared, m_arguments, m_used, m_preparedAhead, m_within, m_names, m_marks, m_manyFormals, m_activeTimes, m_data, m_owner, m_rank, m_external, m_first, m_how, m_bytes, m_memory, m_callOf, m_baseOf, m_usedAhead, m_placeOf, m_argument, m_argumentBytes, m_q, m_0, x_gs] using k4, by rw [eU]; exact k5, fun j hj => ?_, ?_, fun j hj => by rw [e2] at hj; omega, fun j hj => by rw [e2] at hj; omega⟩
                  · rw [eU, eU, show m_cells S2 y = m_cells S y from (by rw [← h2S]; simp [m_programs, m_cells, m_active, m_prepared, m_arguments, m_used, m_preparedAhead, m_within, m_names, m_marks, m_manyFormals, m_activeTimes, m_data, m_owner, m_rank, m_external, m_first, m_how, m_bytes, m_memory, m_callOf, m_baseOf, m_usedAhead, m_placeOf, m_argument, m_argumentBytes, m_q, m_0, x_gs])]; rw [e2] at hj; exact k6 j hj
                  · rw [eU, e2, show m_used S2 y = m_used S y from (by rw [← h2S]; simp [m_programs, m_cells, m_active, m_prepared, m_arguments, m_used, m_preparedAhead, m_within, m_names, m_marks, m_manyFormals, m_activeTimes, m_data, m_owner, m_rank, m_external, m_first, m_how, m_bytes, m_memory, m_callOf, m_baseOf, m_usedAhead, m_placeOf, m_argument, m_argumentBytes, m_q, m_0, x_gs]), show m_arguments S2 y = m_arguments S y from (by rw [← h2S]; simp [m_programs, m_cells, m_active, m_prepared, m_arguments, m_used, m_preparedAhead, m_within, m_names, m_marks, m_manyFormals, m_activeTimes, m_data, m_owner, m_rank, m_external, m_first, m_how, m_bytes, m_memory, m_callOf, m_baseOf, m_usedAhead, m_placeOf, m_argument, m_argumentBytes, m_q, m_0, x_gs])]; exact k7
                · rw [r_A, show m_callOf S2 y = m_callOf S y from (by funext j; rw [← h2S]; simp [m_programs, m_cells, m_active, m_prepared, m_arguments, m_used, m_preparedAhead, m_within, m_names, m_marks, m_manyFormals, m_activeTimes, m_data, m_owner, m_rank, m_external, m_first, m_how, m_bytes, m_memory, m_callOf, m_baseOf, m_usedAhead, m_placeOf, m_argument, m_argumentBytes, m_q, m_0, x_gs]), ← h2S]
                  simpa [r_A, m_programs, m_cells, m_active, m_prepared, m_arguments, m_used, m_preparedAhead, m_within, m_names, m_marks, m_manyFormals, m_activeTimes, m_data, m_owner, m_rank, m_external, m_first, m_how, m_bytes, m_memory, m_callOf, m_baseOf, m_usedAhead, m_placeOf, m_argument, m_argumentBytes, m_q, m_0, x_gs] using hA
              · rw [if_neg (show ¬ nI (m_manyFormals S y i) < 16 from fun z => c6 ((nI_ltI (b := 16) (by omega) (by omega)).mp z))]
                unfold f_foM
                rw [if_neg hisp, if_neg c1, if_neg c2, if_neg c3, if_pos c4, if_pos (show nI (m_active (m_0 S y) y) ≤ 0 from c5'), nI_clamp (show i < 2 ^ 31 by omega), if_pos (show nI (m_manyFormals (m_0 S y) y i) = 16 from by rw [show m_manyFormals (m_0 S y) y i = 16 from (show m_manyFormals S y i = 16 by omega)]; rfl)]
                exact ⟨rfl, same⟩
            · have c5' : ¬ nI (m_active S y) ≤ 0 := fun z => c5 (by have := (nI_leI (b := 0) (by omega) (by omega)).mp z; omega)
              rw [if_neg c5']
              unfold f_foM
              rw [if_neg hisp, if_neg c1, if_neg c2, if_neg c3, if_pos c4, if_neg (show ¬ nI (m_active (m_0 S y) y) ≤ 0 from c5')]
              exact ⟨rfl, same⟩
          · rw [if_neg c4]; unfold f_foM; rw [if_neg hisp, if_neg c1, if_neg c2, if_neg c3, if_neg c4]; exact ⟨rfl, same⟩
