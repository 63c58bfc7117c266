set_option maxHeartbeats 4000000 in
theorem z_program {S : gs_S} {x y t : Nat} {P L : Nat → Nat} {D : Nat → Nat → Option Nat} {N : Nat} (h : r_R S x y t P L D N) {wi nm mk r : Int32} {S1 : gs_S} (hq : q_program S x wi nm mk r S1) : r = (f_prM (m_0 S1 y) y wi nm mk).1 ∧ r_X (f_prM (m_0 S1 y) y wi nm mk).2 x y (t + 1) := by
  have hr := h
  obtain ⟨⟨h1, h2, h3, h4⟩, hb, hP, hC, hL, hD, hA⟩ := h
  have hn := b_programs h2 h4
  have ha := b_active h2 h4
  have same : r_X (m_0 S y) x y (t + 1) := ⟨P, L, D, N, z_0 hr 0 (by omega)⟩
  have fin : ∀ v : Int32, f_progR S x wi nm mk = v → ¬ v = 0 → f_prM (m_0 S y) y wi nm mk = (v, m_0 S y) → r = (f_prM (m_0 S1 y) y wi nm mk).1 ∧ r_X (f_prM (m_0 S1 y) y wi nm mk).2 x y (t + 1) := by
    intro v e1 e2 e3
    rcases hq with ⟨q1, rfl, rfl⟩ | ⟨q1, -⟩
    · rw [e3, e1]; exact ⟨rfl, same⟩
    · exact absurd (e1.symm.trans q1) e2
  rcases r_wi hP hn wi with ⟨w, w1, rfl, w3, w4, w5, w6⟩ | ⟨w1, w2⟩
  · by_cases c1 : f_isName nm = 0
    · exact fin (-2) (by rw [f_progR, if_pos w4, if_pos c1]) (by decide) (by rw [f_prM, if_neg w5, if_neg (show ¬ nI (m_programs (m_0 S y) y) < nI w from w6), if_pos c1])
    · by_cases c2 : mk < 0
      · exact fin (-2) (by rw [f_progR, if_pos w4, if_neg c1, if_pos c2]) (by decide) (by rw [f_prM, if_neg w5, if_neg (show ¬ nI (m_programs (m_0 S y) y) < nI w from w6), if_neg c1, if_pos c2])
      · by_cases c3 : mk ≤ 15
        · by_cases c4 : m_active S y = 0
          · have c4' : nI (m_active S y) ≤ 0 := by rw [c4]; decide
            obtain ⟨d1, d2, d3, d4⟩ := r_dw hP hn w1 nm
            by_cases c5 : f_dyM S y (nI w) nm = 0
            · by_cases c6 : m_programs S y < 60
              · have e0 : f_progR S x (nI w) nm mk = 0 := by
                  rw [f_progR, if_pos w4, if_neg c1, if_neg c2, if_pos c3, hL.2.2.1, if_pos c4', w3, d1, c5, p_f0]
                  simp only []
                  rw [hP.1, if_pos (show nI (m_programs S y) < 60 from (nI_ltI (b := 60) (by omega) (by omega)).mpr c6)]
                rcases hq with ⟨q1, -⟩ | ⟨-, q, hh, b, g1, g2, g3, g4⟩
                · exact absurd e0 q1
                · have g2' : i_Pf (p_new S 1 q) q hh b := g2
                  have hxq : x ≠ q := fun z => by rw [z, g1] at h3; cases h3
                  obtain ⟨⟨n1, n2⟩, n3, n4, n5⟩ := n_Pne g2'
                  rw [hP.1, nI_1, nI_clamp (by omega), w3, nP_pi hxq] at g3
                  rw [hP.1, nI_1] at g4
                  have hoT : t_o S 1 (p_f P w) := fun c z => by
                    by_cases zw : w = 0
                    · rw [zw] at z; cases z
                    · rw [p_fs P zw] at z; cases z; exact (hP.2.2 w (by omega) w1).2.1
                  have hwT : w_t (n_P S q (p_f P w) (nI (m_programs S y + 1)) nm mk hh b) := wt_nP h1 g1 g2' hoT (by omega) (by omega) (fun c z => by
                    by_cases zw : w = 0
                    · rw [zw] at z; cases z
                    · rw [p_fs P zw] at z; cases z; exact ⟨w, by omega, (hP.2.2 w (by omega) w1).2.2.1⟩)
                  have hX := sX_nP (S := S) (o := p_f P w) (n := nI (m_programs S y + 1)) (nm := nm) (mk := mk) g1 g2'
                  have hT := r_ext hr hX hwT
                  obtain ⟨u1, u2, u3, u4, u5, u6, u7, u8, u9⟩ := n_P_q (S := S) (q := q) (o := p_f P w) (n := nI (m_programs S y + 1)) (nm := nm) (mk := mk) (h := hh) (b := b)
                  have hqs : g_sh (n_P S q (p_f P w) (nI (m_programs S y + 1)) nm mk hh b) q = some (.inl 1) := by rw [n_P_sh, if_neg (Ne.symm n4), if_neg (Ne.symm n1), if_pos rfl]
                  have epa : g_r S 2 1 x = g_r (n_P S q (p_f P w) (nI (m_programs S y + 1)) nm mk hh b) 2 1 x := (n_P_r 2 1 hxq).symm
                  have hPq : ∀ i : Nat, 1 ≤ i → i ≤ m_programs S y → ∀ k : Nat, g_r (n_P S q (p_f P w) (nI (m_programs S y + 1)) nm mk hh b) 1 k (P i) = g_r S 1 k (P i) := fun i i1 i2 k => n_P_r 1 k (fun z => by have := (hP.2.2 i i1 i2).2.1; rw [z, g1] at this; cases this)
                  rw [epa] at g3
                  have ep := q_programs hX h4
                  generalize n_P S q (p_f P w) (nI (m_programs S y + 1)) nm mk hh b = T at *
                  have hfin := z_prog1 (q := q) (w := w) (nm := nm) (mk := mk) hT (by rw [q_active hX h4]; exact c4) (by rw [ep]; exact w1) (by rw [ep]; exact c6) hqs u1 u4 (by rw [ep]; exact u5) u6 u7 u8 u9 (fun i i1 i2 k k1 k2 => by
                    rw [ep] at i2
                    rw [hPq i i1 i2]
                    have hpi := (hP.2.2 i i1 i2).2.1
                    have hk : k = 4 ∨ k = 5 := by omega
                    rcases hk with rfl | rfl
                    · rw [u2]
                      obtain ⟨a, ea, sa⟩ := w_formalHow h1 hpi
                      rw [ea]
                      intro z
                      have z : hh = a := z
                      rw [← z, n2] at sa; cases sa
                    · rw [u3]
                      obtain ⟨a, ea, sa⟩ := w_formalBytes h1 hpi
                      rw [ea]
                      intro z
                      have z : b = a := z
                      rw [← z, n5] at sa; cases sa) (fun j j1 j2 => by rw [ep] at j2; rw [q_within hX h2 h4, q_names hX h2 h4]; exact d4 c5 j j1 j2) (wt_par (wt_pi hwT (fun z => absurd z (by decide)) (fun z => absurd z (by decide)) (fun z => absurd z.1 (by decide)) (fun _ _ => ⟨m_programs T y + 1, by rw [ep]; omega, rfl⟩) (fun _ z => absurd z (by decide))) (fun z => absurd z (by decide)) (fun _ c z => by cases z; exact hqs) (fun z => absurd z (by decide)))
                  rw [ep] at hfin
                  have epS : m_programs (m_0 S1 y) y = m_programs S y := by rw [← ep, g3]; simp [m_programs, m_cells, m_active, m_prepared, m_arguments, m_used, m_preparedAhead, m_within, m_names, m_marks, m_manyFormals, m_activeTimes, m_data, m_owner, m_rank, m_external, m_first, m_how, m_bytes, m_memory, m_callOf, m_baseOf, m_usedAhead, m_placeOf, m_argument, m_argumentBytes, m_q, m_0, x_gs]
                  have edy : f_dyM (m_0 S1 y) y (nI w) nm = f_dyM S y (nI w) nm := dyM_c epS (by rw [← q_within hX h2 h4, g3]; funext j; simp [m_programs, m_cells, m_active, m_prepared, m_arguments, m_used, m_preparedAhead, m_within, m_names, m_marks, m_manyFormals, m_activeTimes, m_data, m_owner, m_rank, m_external, m_first, m_how, m_bytes, m_memory, m_callOf, m_baseOf, m_usedAhead, m_placeOf, m_argument, m_argumentBytes, m_q, m_0, x_gs]) (by rw [← q_names hX h2 h4, g3]; funext j; simp [m_programs, m_cells, m_active, m_prepared, m_arguments, m_used, m_preparedAhead, m_within, m_names, m_marks, m_manyFormals, m_activeTimes, m_data, m_owner, m_rank, m_external, m_first, m_how, m_bytes, m_memory, m_callOf, m_baseOf, m_usedAhead, m_placeOf, m_argument, m_argumentBytes, m_q, m_0, x_gs]) _ _
                  have eac : m_active (m_0 S1 y) y = m_active S y := by rw [← q_active hX h4, g3]; simp [m_programs, m_cells, m_active, m_prepared, m_arguments, m_used, m_preparedAhead, m_within, m_names, m_marks, m_manyFormals, m_activeTimes, m_data, m_owner, m_rank, m_external, m_first, m_how, m_bytes, m_memory, m_callOf, m_baseOf, m_usedAhead, m_placeOf, m_argument, m_argumentBytes, m_q, m_0, x_gs]
                  unfold f_prM
                  rw [if_neg w5, epS, if_neg w6, if_neg c1, if_neg c2, if_pos c3, eac, if_pos c4', edy, c5, if_pos (show nI 0 = (0 : Int32) from rfl), if_neg (fun z => by have := (nI_eq (b := 60) (by omega) (by omega)).mp z; omega)]
                  refine ⟨g4, P_n P (m_programs S y) q, L, D, N, ?_⟩
                  rw [show m_q (m_0 S1 y) y 2 = m_q T y 2 from by rw [g3]; simp [m_programs, m_cells, m_active, m_prepared, m_arguments, m_used, m_preparedAhead, m_within, m_names, m_marks, m_manyFormals, m_activeTimes, m_data, m_owner, m_rank, m_external, m_first, m_how, m_bytes, m_memory, m_callOf, m_baseOf, m_usedAhead, m_placeOf, m_argument, m_argumentBytes, m_q, m_0, x_gs], show m_q (m_0 S1 y) y 3 = m_q T y 3 from by rw [g3]; simp [m_programs, m_cells, m_active, m_prepared, m_arguments, m_used, m_preparedAhead, m_within, m_names, m_marks, m_manyFormals, m_activeTimes, m_data, m_owner, m_rank, m_external, m_first, m_how, m_bytes, m_memory, m_callOf, m_baseOf, m_usedAhead, m_placeOf, m_argument, m_argumentBytes, m_q, m_0, x_gs], show m_q (m_0 S1 y) y 4 = m_q T y 4 from by rw [g3]; simp [m_programs, m_cells, m_active, m_prepared, m_arguments, m_used, m_preparedAhead, m_within, m_names, m_marks, m_manyFormals, m_activeTimes, m_data, m_owner, m_rank, m_external, m_first, m_how, m_bytes, m_memory, m_callOf, m_baseOf, m_usedAhead, m_placeOf, m_argument, m_argumentBytes, m_q, m_0, x_gs], g3]
                  exact hfin
              · exact fin (-1) (by
                  rw [f_progR, if_pos w4, if_neg c1, if_neg c2, if_pos c3, hL.2.2.1, if_pos c4', w3, d1, c5, p_f0]
                  simp only []
                  rw [hP.1, if_neg (show ¬ nI (m_programs S y) < 60 from fun z => c6 ((nI_ltI (b := 60) (by omega) (by omega)).mp z))]) (by decide) (by
                  rw [f_prM, if_neg w5, if_neg (show ¬ nI (m_programs (m_0 S y) y) < nI w from w6), if_neg c1, if_neg c2, if_pos c3, if_pos (show nI (m_active (m_0 S y) y) ≤ 0 from c4'), if_pos (show nI (f_dyM (m_0 S y) y (nI w) nm) = 0 from by rw [show f_dyM (m_0 S y) y (nI w) nm = f_dyM S y (nI w) nm from dyM_c (by simp [m_programs, m_cells, m_active, m_prepared, m_arguments, m_used, m_preparedAhead, m_within, m_names, m_marks, m_manyFormals, m_activeTimes, m_data, m_owner, m_rank, m_external, m_first, m_how, m_bytes, m_memory, m_callOf, m_baseOf, m_usedAhead, m_placeOf, m_argument, m_argumentBytes, m_q, m_0, x_gs]) (by funext j; simp [m_programs, m_cells, m_active, m_prepared, m_arguments, m_used, m_preparedAhead, m_within, m_names, m_marks, m_manyFormals, m_activeTimes, m_data, m_owner, m_rank, m_external, m_first, m_how, m_bytes, m_memory, m_callOf, m_baseOf, m_usedAhead, m_placeOf, m_argument, m_argumentBytes, m_q, m_0, x_gs]) (by funext j; simp [m_programs, m_cells, m_active, m_prepared, m_arguments, m_used, m_preparedAhead, m_within, m_names, m_marks, m_manyFormals, m_activeTimes, m_data, m_owner, m_rank, m_external, m_first, m_how, m_bytes, m_memory, m_callOf, m_baseOf, m_usedAhead, m_placeOf, m_argument, m_argumentBytes, m_q, m_0, x_gs]) _ _, c5]; rfl), if_pos (show nI (m_programs (m_0 S y) y) = 60 from by rw [show m_programs (m_0 S y) y = 60 from (show m_programs S y = 60 by omega)]; rfl)])
            · exact fin (-3) (by
                rw [f_progR, if_pos w4, if_neg c1, if_neg c2, if_pos c3, hL.2.2.1, if_pos c4', w3, d1, p_fs P c5]) (by decide) (by
                rw [f_prM, if_neg w5, if_neg (show ¬ nI (m_programs (m_0 S y) y) < nI w from w6), if_neg c1, if_neg c2, if_pos c3, if_pos (show nI (m_active (m_0 S y) y) ≤ 0 from c4'), if_neg (show ¬ nI (f_dyM (m_0 S y) y (nI w) nm) = 0 from by rw [show f_dyM (m_0 S y) y (nI w) nm = f_dyM S y (nI w) nm from dyM_c (by simp [m_programs, m_cells, m_active, m_prepared, m_arguments, m_used, m_preparedAhead, m_within, m_names, m_marks, m_manyFormals, m_activeTimes, m_data, m_owner, m_rank, m_external, m_first, m_how, m_bytes, m_memory, m_callOf, m_baseOf, m_usedAhead, m_placeOf, m_argument, m_argumentBytes, m_q, m_0, x_gs]) (by funext j; simp [m_programs, m_cells, m_active, m_prepared, m_arguments, m_used, m_preparedAhead, m_within, m_names, m_marks, m_manyFormals, m_activeTimes, m_data, m_owner, m_rank, m_external, m_first, m_how, m_bytes, m_memory, m_callOf, m_baseOf, m_usedAhead, m_placeOf, m_argument, m_argumentBytes, m_q, m_0, x_gs]) (by funext j; simp [m_programs, m_cells, m_active, m_prepared, m_arguments, m_used, m_preparedAhead, m_within, m_names, m_marks, m_manyFormals, m_activeTimes, m_data, m_owner, m_rank, m_external, m_first, m_how, m_bytes, m_memory, m_callOf, m_baseOf, m_usedAhead, m_placeOf, m_argument, m_argumentBytes, m_q, m_0, x_gs]) _ _]; exact fun z => c5 ((x_n0 (by omega)).mp z))])
          · have c4' : ¬ nI (m_active S y) ≤ 0 := fun z => c4 (by have := (nI_leI (b := 0) (by omega) (by omega)).mp z; omega)
            exact fin (-4) (by rw [f_progR, if_pos w4, if_neg c1, if_neg c2, if_pos c3, hL.2.2.1, if_neg c4']) (by decide) (by rw [f_prM, if_neg w5, if_neg (show ¬ nI (m_programs (m_0 S y) y) < nI w from w6), if_neg c1, if_neg c2, if_pos c3, if_neg (show ¬ nI (m_active (m_0 S y) y) ≤ 0 from c4')])
        · exact fin (-2) (by rw [f_progR, if_pos w4, if_neg c1, if_neg c2, if_neg c3]) (by decide) (by rw [f_prM, if_neg w5, if_neg (show ¬ nI (m_programs (m_0 S y) y) < nI w from w6), if_neg c1, if_neg c2, if_neg c3])
  · refine fin (-2) (by rw [f_progR, if_neg w1]) (by decide) ?_
    rcases w2 with w2 | ⟨w2, w3⟩
    · rw [f_prM, if_pos w2]
    · rw [f_prM, if_neg w2, if_pos (show nI (m_programs (m_0 S y) y) < wi from w3)]
