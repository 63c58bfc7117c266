/-! cell, shared -/
def r_X (S : gs_S) (x y t : Nat) : Prop := ∃ (P L : Nat → Nat) (D : Nat → Nat → Option Nat) (N : Nat), r_R S x y t P L D N
theorem rd_ai (T : gs_S) (r a j : Nat) (v : Int32) (k : Nat) : g_ai (p_ai T r a j v) r a k = if k = j then v else g_ai T r a k := by
  rw [x_g_ai_p_ai]
  by_cases c : k = j
  · rw [if_pos c, if_pos ⟨rfl, rfl, c⟩]
  · rw [if_neg c, if_neg (fun z => c z.2.2)]
theorem rd_al (T : gs_S) (r a j : Nat) (v : Int64) (k : Nat) : g_al (p_al T r a j v) r a k = if k = j then v else g_al T r a k := by
  rw [x_g_al_p_al]
  by_cases c : k = j
  · rw [if_pos c, if_pos ⟨rfl, rfl, c⟩]
  · rw [if_neg c, if_neg (fun z => c z.2.2)]
theorem rd_ar (T : gs_S) (r a j : Nat) (v : Option Nat) (k : Nat) : g_ar (p_ar T r a j v) r a k = if k = j then v else g_ar T r a k := by
  rw [x_g_ar_p_ar]
  by_cases c : k = j
  · rw [if_pos c, if_pos ⟨rfl, rfl, c⟩]
  · rw [if_neg c, if_neg (fun z => c z.2.2)]
theorem rd_i (T : gs_S) (c k a : Nat) (v : Int32) : g_i (p_i T c k a v) c k a = v := by rw [x_g_i_p_i, if_pos ⟨rfl, rfl, rfl⟩]
theorem rd_r (T : gs_S) (c k a : Nat) (v : Option Nat) : g_r (p_r T c k a v) c k a = v := by rw [x_g_r_p_r, if_pos ⟨rfl, rfl, rfl⟩]
/-- the class's new cell -/
def n_c (S : gs_S) (x c vb : Nat) (o : Option Nat) (v : Int64) : gs_S := p_i (p_al (p_al (p_ar S 1 (v_a (g_r S 2 3 x)) c o) 2 (v_a (g_r S 2 4 x)) c v) 9 vb (16 + c) v) 2 5 x (nI (c + 1))
theorem r_newCell {S : gs_S} {x y : Nat} {P L : Nat → Nat} {N : Nat} (hC : r_C S x y P) (hL : r_L S x y P L N) (hc : m_cells S y ≤ 200) (o : Option Nat) (v : Int64) : (m_cells S y = 200 ∧ f_newCell S x o v = (-1, S)) ∨ (m_cells S y < 200 ∧ f_newCell S x o v = (nI (m_cells S y), n_c S x (m_cells S y) (v_a (g_r S 0 8 (L 0))) o v)) := by
  unfold f_newCell n_c
  rw [hC.1, hL.1, v_a_s, nI_clamp (by omega), nI_1]
  by_cases c : m_cells S y < 200
  · rw [if_pos (show nI (m_cells S y) < 200 from (nI_ltI (b := 200) (by omega) (by omega)).mpr c)]
    exact Or.inr ⟨c, rfl⟩
  · rw [if_neg (show ¬ nI (m_cells S y) < 200 from fun z => c ((nI_ltI (b := 200) (by omega) (by omega)).mp z))]
    exact Or.inl ⟨by omega, rfl⟩
theorem wt_nc {S : gs_S} {x c vb : Nat} {o : Option Nat} {v : Int64} (h : w_t S) (ho : t_o S 1 o) (hc : c < 200) : w_t (n_c S x c vb o v) :=
  wt_pi (wt_pal (wt_pal (wt_par h (fun z => absurd z (by decide)) (fun z => absurd z (by decide)) (fun _ => ho)))) (fun z => absurd z (by decide)) (fun z => absurd z (by decide)) (fun z => absurd z.1 (by decide)) (fun _ z => absurd z (by decide)) (fun _ _ => ⟨c + 1, by omega, rfl⟩)
theorem mt_nc {S : gs_S} {x c vb : Nat} {o : Option Nat} {v : Int64} (h : m_t S) : m_t (n_c S x c vb o v) := mt_pi (mt_pal (mt_pal (mt_par h))) (fun z => absurd z (by decide))
set_option maxHeartbeats 8000000 in
theorem z_cell {S : gs_S} {x y t : Nat} {P L : Nat → Nat} {D : Nat → Nat → Option Nat} {N : Nat} (h : r_R S x y t P L D N) (p : Int32) (v : Int64) : (f_cell S x p v).1 = (f_ceM (m_0 (f_cell S x p v).2 y) y p v).1 ∧ r_X (f_ceM (m_0 (f_cell S x p v).2 y) y p v).2 x y (t + 1) := by
  have hr := h
  obtain ⟨⟨h1, h2, h3, h4⟩, hb, hP, hC, hL, hD, hA⟩ := h
  have hn := b_programs h2 h4
  have hc := b_cells h2 h4
  have ha := b_active h2 h4
  have same : r_X (m_0 S y) x y (t + 1) := ⟨P, L, D, N, z_0 hr 0 (by omega)⟩
  unfold f_cell
  rcases r_pOf hP hn p with ⟨a1, a2⟩ | ⟨i, i1, i2, rfl, a3, a4⟩
  · rw [a2]
    simp only []
    unfold f_ceM
    rw [if_pos (show f_isP (m_0 S y) y p = 0 from a1)]
    exact ⟨rfl, same⟩
  · rw [a4]
    simp only []
    rw [hL.2.2.1]
    by_cases c1 : m_active S y = 0
    · have c1' : nI (m_active S y) ≤ 0 := by rw [c1]; decide
      rw [if_pos c1']
      rcases r_newCell hC hL hc (some (P i)) v with ⟨b1, b2⟩ | ⟨b1, b2⟩
      · rw [b2]
        unfold f_ceM
        rw [if_neg (show ¬ f_isP (m_0 S y) y (nI i) = 0 from fun z => absurd (a3.symm.trans z) (by decide)), if_pos (show nI (m_active (m_0 S y) y) ≤ 0 from c1'), if_pos (show nI (m_cells (m_0 S y) y) = 200 from by rw [show m_cells (m_0 S y) y = m_cells S y from rfl, b1]; rfl)]
        exact ⟨rfl, same⟩
      · rw [b2]
        generalize hT : m_0 (n_c S x (m_cells S y) (v_a (g_r S 0 8 (L 0))) (some (P i)) v) y = T
        have hct : m_cells T y = m_cells S y := by rw [← hT]; simp [m_programs, m_cells, m_active, m_prepared, m_arguments, m_used, m_preparedAhead, m_within, m_names, m_marks, m_manyFormals, m_activeTimes, m_data, m_owner, m_rank, m_external, m_first, m_how, m_bytes, m_memory, m_callOf, m_baseOf, m_usedAhead, m_placeOf, m_argument, m_argumentBytes, m_q, m_0, n_c, x_gs]
        have hrk : f_ck T y (nI i) (m_cells S y) 0 0 = cn_ (m_owner S y) i (m_cells S y) := by
          have hTm : m_t T := by rw [← hT]; exact mt_pi0 (mt_nc h2) (by decide)
          have hTy : g_sh T y = some (.inl 3) := by rw [← hT]; exact h4
          have := ck_sp hTm hTy (p := i) (by omega) (m_cells S y) 0 0 (by omega)
          rw [Nat.zero_add, Nat.zero_add, show cn_ (m_owner T y) i 0 = 0 from rfl, Nat.add_zero] at this
          rw [this, show m_owner T y = m_owner S y from by funext j; rw [← hT]; simp [m_programs, m_cells, m_active, m_prepared, m_arguments, m_used, m_preparedAhead, m_within, m_names, m_marks, m_manyFormals, m_activeTimes, m_data, m_owner, m_rank, m_external, m_first, m_how, m_bytes, m_memory, m_callOf, m_baseOf, m_usedAhead, m_placeOf, m_argument, m_argumentBytes, m_q, m_0, n_c, x_gs]]
        unfold f_ceM
        rw [if_neg (show ¬ f_isP T y (nI i) = 0 from fun z => absurd (a3.symm.trans ((show f_isP S y (nI i) = f_isP T y (nI i) from by unfold f_isP; rw [show m_programs T y = m_programs S y from by rw [← hT]; simp [m_programs, m_cells, m_active, m_prepared, m_arguments, m_used, m_preparedAhead, m_within, m_names, m_marks, m_manyFormals, m_activeTimes, m_data, m_owner, m_rank, m_external, m_first, m_how, m_bytes, m_memory, m_callOf, m_baseOf, m_usedAhead, m_placeOf, m_argument, m_argumentBytes, m_q, m_0, n_c, x_gs]]).trans z)) (by decide)), if_pos (show nI (m_active T y) ≤ 0 from by rw [show m_active T y = m_active S y from by rw [← hT]; simp [m_programs, m_cells, m_active, m_prepared, m_arguments, m_used, m_preparedAhead, m_within, m_names, m_marks, m_manyFormals, m_activeTimes, m_data, m_owner, m_rank, m_external, m_first, m_how, m_bytes, m_memory, m_callOf, m_baseOf, m_usedAhead, m_placeOf, m_argument, m_argumentBytes, m_q, m_0, n_c, x_gs]]; exact c1'), hct, if_neg (fun z => by have := (nI_eq (b := 200) (by omega) (by omega)).mp z; omega), hrk]
        refine ⟨rfl, P, L, D_c D (m_cells S y), N, ?_⟩
        simp only []
        rw [show m_q T y 9 = m_q S y 9 from by rw [← hT]; simp [m_programs, m_cells, m_active, m_prepared, m_arguments, m_used, m_preparedAhead, m_within, m_names, m_marks, m_manyFormals, m_activeTimes, m_data, m_owner, m_rank, m_external, m_first, m_how, m_bytes, m_memory, m_callOf, m_baseOf, m_usedAhead, m_placeOf, m_argument, m_argumentBytes, m_q, m_0, n_c, x_gs], show m_q T y 10 = m_q S y 10 from by rw [← hT]; simp [m_programs, m_cells, m_active, m_prepared, m_arguments, m_used, m_preparedAhead, m_within, m_names, m_marks, m_manyFormals, m_activeTimes, m_data, m_owner, m_rank, m_external, m_first, m_how, m_bytes, m_memory, m_callOf, m_baseOf, m_usedAhead, m_placeOf, m_argument, m_argumentBytes, m_q, m_0, n_c, x_gs], show m_q T y 12 = m_q S y 12 from by rw [← hT]; simp [m_programs, m_cells, m_active, m_prepared, m_arguments, m_used, m_preparedAhead, m_within, m_names, m_marks, m_manyFormals, m_activeTimes, m_data, m_owner, m_rank, m_external, m_first, m_how, m_bytes, m_memory, m_callOf, m_baseOf, m_usedAhead, m_placeOf, m_argument, m_argumentBytes, m_q, m_0, n_c, x_gs], show m_q T y 16 = m_q S y 16 from by rw [← hT]; simp [m_programs, m_cells, m_active, m_prepared, m_arguments, m_used, m_preparedAhead, m_within, m_names, m_marks, m_manyFormals, m_activeTimes, m_data, m_owner, m_rank, m_external, m_first, m_how, m_bytes, m_memory, m_callOf, m_baseOf, m_usedAhead, m_placeOf, m_argument, m_argumentBytes, m_q, m_0, n_c, x_gs], ← hT]
        have hcl := cn_le (m_owner S y) i (m_cells S y)
        generalize hrr : cn_ (m_owner S y) i (m_cells S y) = rk at hcl
        generalize hcc : m_cells S y = c at *
        generalize h2S : p_i (p_al (p_al (p_ai (p_ai (m_0 (n_c S x c (v_a (g_r S 0 8 (L 0))) (some (P i)) v) y) 16 (m_q S y 9) c (nI i)) 17 (m_q S y 10) c (nI rk)) 19 (m_q S y 12) c v) 22 (m_q S y 16) c v) 3 13 y (nI (c + 1)) = S2
        have e1 : m_cells S2 y = c + 1 := by rw [← h2S, m_cells, rd_i, nI_clamp (by omega)]
        have eo : ∀ k : Nat, m_owner S2 y k = if k = c then i else m_owner S y k := fun k => by
          rw [← h2S]
          by_cases z : k = c
          · rw [if_pos z, z]; simp [m_programs, m_cells, m_active, m_prepared, m_arguments, m_used, m_preparedAhead, m_within, m_names, m_marks, m_manyFormals, m_activeTimes, m_data, m_owner, m_rank, m_external, m_first, m_how, m_bytes, m_memory, m_callOf, m_baseOf, m_usedAhead, m_placeOf, m_argument, m_argumentBytes, m_q, m_0, n_c, x_gs, nI_clamp (show i < 2 ^ 31 by omega)]
          · rw [if_neg z]; simp [m_programs, m_cells, m_active, m_prepared, m_arguments, m_used, m_preparedAhead, m_within, m_names, m_marks, m_manyFormals, m_activeTimes, m_data, m_owner, m_rank, m_external, m_first, m_how, m_bytes, m_memory, m_callOf, m_baseOf, m_usedAhead, m_placeOf, m_argument, m_argumentBytes, m_q, m_0, n_c, x_gs, z]
        have er : ∀ k : Nat, m_rank S2 y k = if k = c then rk else m_rank S y k := fun k => by
          rw [← h2S]
          by_cases z : k = c
          · rw [if_pos z, z]; simp [m_programs, m_cells, m_active, m_prepared, m_arguments, m_used, m_preparedAhead, m_within, m_names, m_marks, m_manyFormals, m_activeTimes, m_data, m_owner, m_rank, m_external, m_first, m_how, m_bytes, m_memory, m_callOf, m_baseOf, m_usedAhead, m_placeOf, m_argument, m_argumentBytes, m_q, m_0, n_c, x_gs, nI_clamp (show rk < 2 ^ 31 by omega)]
          · rw [if_neg z]; simp [m_programs, m_cells, m_active, m_prepared, m_arguments, m_used, m_preparedAhead, m_within, m_names, m_marks, m_manyFormals, m_activeTimes, m_data, m_owner, m_rank, m_external, m_first, m_how, m_bytes, m_memory, m_callOf, m_baseOf, m_usedAhead, m_placeOf, m_argument, m_argumentBytes, m_q, m_0, n_c, x_gs, z]
        have ef : ∀ k : Nat, m_first S2 y k = if k = c then v else m_first S y k := fun k => by
          rw [← h2S]
          by_cases z : k = c
          · rw [if_pos z, z]; simp [m_programs, m_cells, m_active, m_prepared, m_arguments, m_used, m_preparedAhead, m_within, m_names, m_marks, m_manyFormals, m_activeTimes, m_data, m_owner, m_rank, m_external, m_first, m_how, m_bytes, m_memory, m_callOf, m_baseOf, m_usedAhead, m_placeOf, m_argument, m_argumentBytes, m_q, m_0, n_c, x_gs]
          · rw [if_neg z]; simp [m_programs, m_cells, m_active, m_prepared, m_arguments, m_used, m_preparedAhead, m_within, m_names, m_marks, m_manyFormals, m_activeTimes, m_data, m_owner, m_rank, m_external, m_first, m_how, m_bytes, m_memory, m_callOf, m_baseOf, m_usedAhead, m_placeOf, m_argument, m_argumentBytes, m_q, m_0, n_c, x_gs, z]
        have em : ∀ k : Nat, m_memory S2 y k = if k = c then v else m_memory S y k := fun k => by
          rw [← h2S]
          by_cases z : k = c
          · rw [if_pos z, z]; simp [m_programs, m_cells, m_active, m_prepared, m_arguments, m_used, m_preparedAhead, m_within, m_names, m_marks, m_manyFormals, m_activeTimes, m_data, m_owner, m_rank, m_external, m_first, m_how, m_bytes, m_memory, m_callOf, m_baseOf, m_usedAhead, m_placeOf, m_argument, m_argumentBytes, m_q, m_0, n_c, x_gs]
          · rw [if_neg z]; simp [m_programs, m_cells, m_active, m_prepared, m_arguments, m_used, m_preparedAhead, m_within, m_names, m_marks, m_manyFormals, m_activeTimes, m_data, m_owner, m_rank, m_external, m_first, m_how, m_bytes, m_memory, m_callOf, m_baseOf, m_usedAhead, m_placeOf, m_argument, m_argumentBytes, m_q, m_0, n_c, x_gs, z]
        have e17 : ∀ A q : Nat, g_al S2 9 A q = if A = v_a (g_r S 0 8 (L 0)) ∧ q = 16 + c then v else g_al S 9 A q := fun A q => by
          rw [← h2S]
          by_cases z : A = v_a (g_r S 0 8 (L 0)) ∧ q = 16 + c
          · rw [if_pos z, z.1, z.2]; simp [m_programs, m_cells, m_active, m_prepared, m_arguments, m_used, m_preparedAhead, m_within, m_names, m_marks, m_manyFormals, m_activeTimes, m_data, m_owner, m_rank, m_external, m_first, m_how, m_bytes, m_memory, m_callOf, m_baseOf, m_usedAhead, m_placeOf, m_argument, m_argumentBytes, m_q, m_0, n_c, x_gs]
          · rw [if_neg z]; simp [m_programs, m_cells, m_active, m_prepared, m_arguments, m_used, m_preparedAhead, m_within, m_names, m_marks, m_manyFormals, m_activeTimes, m_data, m_owner, m_rank, m_external, m_first, m_how, m_bytes, m_memory, m_callOf, m_baseOf, m_usedAhead, m_placeOf, m_argument, m_argumentBytes, m_q, m_0, n_c, x_gs, z]
        have hwP : t_o S 1 (some (P i)) := fun b z => by cases z; exact (hP.2.2 i i1 i2).2.1
        refine ⟨⟨?_, ?_, ?_, ?_⟩, ?_, ?_, ?_, ?_, ?_, ?_⟩
        · rw [← h2S]; exact wt_pi0 (wt_pal (wt_pal (wt_pai (wt_pai (wt_pi0 (wt_nc h1 hwP b1) (by decide)) (fun z => absurd z (by decide))) (fun z => absurd z (by decide))))) (by decide)
        · rw [← h2S]; exact mt_cells (mt_pal (mt_pal (mt_pai (mt_pai (mt_pi0 (mt_nc h2) (by decide)) (fun _ => ⟨i, rfl, by omega⟩)) (fun _ => ⟨rk, rfl, by omega⟩)))) (by omega)
        · rw [← h2S]; exact h3
        · rw [← h2S]; exact h4
        · rw [e1, show m_active S2 y = m_active S y from (by rw [← h2S]; simp [m_programs, m_cells, m_active, m_prepared, m_arguments, m_used, m_preparedAhead, m_within, m_names, m_marks, m_manyFormals, m_activeTimes, m_data, m_owner, m_rank, m_external, m_first, m_how, m_bytes, m_memory, m_callOf, m_baseOf, m_usedAhead, m_placeOf, m_argument, m_argumentBytes, m_q, m_0, n_c, x_gs]), show m_prepared S2 y = m_prepared S y from (by rw [← h2S]; simp [m_programs, m_cells, m_active, m_prepared, m_arguments, m_used, m_preparedAhead, m_within, m_names, m_marks, m_manyFormals, m_activeTimes, m_data, m_owner, m_rank, m_external, m_first, m_how, m_bytes, m_memory, m_callOf, m_baseOf, m_usedAhead, m_placeOf, m_argument, m_argumentBytes, m_q, m_0, n_c, x_gs])]; omega
        · rw [← h2S]; simpa [r_P, m_programs, m_cells, m_active, m_prepared, m_arguments, m_used, m_preparedAhead, m_within, m_names, m_marks, m_manyFormals, m_activeTimes, m_data, m_owner, m_rank, m_external, m_first, m_how, m_bytes, m_memory, m_callOf, m_baseOf, m_usedAhead, m_placeOf, m_argument, m_argumentBytes, m_q, m_0, n_c, x_gs] using hP
        · refine ⟨?_, fun k hk => ?_, fun nm hnm => ?_, ?_⟩
          · rw [e1, ← h2S]; exact rd_i _ _ _ _ _
          · rw [e1] at hk
            have ear : g_ar S2 1 (v_a (g_r S2 2 3 x)) k = if k = c then some (P i) else g_ar S 1 (v_a (g_r S 2 3 x)) k := by
              rw [← h2S]; simp [m_programs, m_cells, m_active, m_prepared, m_arguments, m_used, m_preparedAhead, m_within, m_names, m_marks, m_manyFormals, m_activeTimes, m_data, m_owner, m_rank, m_external, m_first, m_how, m_bytes, m_memory, m_callOf, m_baseOf, m_usedAhead, m_placeOf, m_argument, m_argumentBytes, m_q, m_0, n_c, x_gs]
            have eal : g_al S2 2 (v_a (g_r S2 2 4 x)) k = if k = c then v else g_al S 2 (v_a (g_r S 2 4 x)) k := by
              rw [← h2S]; simp [m_programs, m_cells, m_active, m_prepared, m_arguments, m_used, m_preparedAhead, m_within, m_names, m_marks, m_manyFormals, m_activeTimes, m_data, m_owner, m_rank, m_external, m_first, m_how, m_bytes, m_memory, m_callOf, m_baseOf, m_usedAhead, m_placeOf, m_argument, m_argumentBytes, m_q, m_0, n_c, x_gs]
            rw [ear, eal, eo, er, ef, show m_programs S2 y = m_programs S y from (by rw [← h2S]; simp [m_programs, m_cells, m_active, m_prepared, m_arguments, m_used, m_preparedAhead, m_within, m_names, m_marks, m_manyFormals, m_activeTimes, m_data, m_owner, m_rank, m_external, m_first, m_how, m_bytes, m_memory, m_callOf, m_baseOf, m_usedAhead, m_placeOf, m_argument, m_argumentBytes, m_q, m_0, n_c, x_gs])]
            have ecn : ∀ q : Nat, cn_ (m_owner S2 y) q k = cn_ (m_owner S y) q k := fun q => cn_cg (fun j hj => by rw [eo, if_neg (by omega)])
            rw [ecn]
            by_cases z : k = c
            · rw [if_pos z, if_pos z, if_pos z, if_pos z, if_pos z, z]
              exact ⟨i2, (p_f1 P i1).symm, fun _ => ⟨rfl, hrr.symm⟩⟩
            · rw [if_neg z, if_neg z, if_neg z, if_neg z, if_neg z]
              exact hC.2.1 k (by rw [hcc]; omega)
          · have hex : g_ai S2 3 (v_a (g_r S2 2 6 x)) nm = g_ai S 3 (v_a (g_r S 2 6 x)) nm := (by rw [← h2S]; simp [m_programs, m_cells, m_active, m_prepared, m_arguments, m_used, m_preparedAhead, m_within, m_names, m_marks, m_manyFormals, m_activeTimes, m_data, m_owner, m_rank, m_external, m_first, m_how, m_bytes, m_memory, m_callOf, m_baseOf, m_usedAhead, m_placeOf, m_argument, m_argumentBytes, m_q, m_0, n_c, x_gs])
            have hxt : m_external S2 y = m_external S y := (by funext j; rw [← h2S]; simp [m_programs, m_cells, m_active, m_prepared, m_arguments, m_used, m_preparedAhead, m_within, m_names, m_marks, m_manyFormals, m_activeTimes, m_data, m_owner, m_rank, m_external, m_first, m_how, m_bytes, m_memory, m_callOf, m_baseOf, m_usedAhead, m_placeOf, m_argument, m_argumentBytes, m_q, m_0, n_c, x_gs])
            rw [hex, hxt, e1]
            rcases hC.2.2.1 nm hnm with ⟨k, q1, q2, q3, q4, q5⟩ | ⟨q1, q2⟩
            · rw [hcc] at q1
              exact Or.inl ⟨k, by omega, by rw [eo, if_neg (by omega)]; exact q2, q3, fun j hj => by rw [eo, if_neg (by omega)]; exact q4 j hj, q5⟩
            · rw [hcc] at q1
              refine Or.inr ⟨fun j hj => ?_, q2⟩
              rw [eo]
              by_cases z : j = c
              · rw [if_pos z]; exact fun w => by omega
              · rw [if_neg z]; exact q1 j (by omega)
          · rw [← h2S]; simpa [m_programs, m_cells, m_active, m_prepared, m_arguments, m_used, m_preparedAhead, m_within, m_names, m_marks, m_manyFormals, m_activeTimes, m_data, m_owner, m_rank, m_external, m_first, m_how, m_bytes, m_memory, m_callOf, m_baseOf, m_usedAhead, m_placeOf, m_argument, m_argumentBytes, m_q, m_0, n_c, x_gs] using hC.2.2.2
        · rw [r_L, show m_callOf S2 y = m_callOf S y from (by funext j; rw [← h2S]; simp [m_programs, m_cells, m_active, m_prepared, m_arguments, m_used, m_preparedAhead, m_within, m_names, m_marks, m_manyFormals, m_activeTimes, m_data, m_owner, m_rank, m_external, m_first, m_how, m_bytes, m_memory, m_callOf, m_baseOf, m_usedAhead, m_placeOf, m_argument, m_argumentBytes, m_q, m_0, n_c, x_gs]), ← h2S]; simpa [r_L, m_programs, m_cells, m_active, m_prepared, m_arguments, m_used, m_preparedAhead, m_within, m_names, m_marks, m_manyFormals, m_activeTimes, m_data, m_owner, m_rank, m_external, m_first, m_how, m_bytes, m_memory, m_callOf, m_baseOf, m_usedAhead, m_placeOf, m_argument, m_argumentBytes, m_q, m_0, n_c, x_gs] using hL
        · have := rD_cell (S2 := S2) (v := v) (by rw [hcc]; exact b1) hL hA hD (by rw [hcc]; exact e1) (by rw [← h2S]; simp [m_programs, m_cells, m_active, m_prepared, m_arguments, m_used, m_preparedAhead, m_within, m_names, m_marks, m_manyFormals, m_activeTimes, m_data, m_owner, m_rank, m_external, m_first, m_how, m_bytes, m_memory, m_callOf, m_baseOf, m_usedAhead, m_placeOf, m_argument, m_argumentBytes, m_q, m_0, n_c, x_gs]) (by rw [← h2S]; simp [m_programs, m_cells, m_active, m_prepared, m_arguments, m_used, m_preparedAhead, m_within, m_names, m_marks, m_manyFormals, m_activeTimes, m_data, m_owner, m_rank, m_external, m_first, m_how, m_bytes, m_memory, m_callOf, m_baseOf, m_usedAhead, m_placeOf, m_argument, m_argumentBytes, m_q, m_0, n_c, x_gs]) (by rw [← h2S]; simp [m_programs, m_cells, m_active, m_prepared, m_arguments, m_used, m_preparedAhead, m_within, m_names, m_marks, m_manyFormals, m_activeTimes, m_data, m_owner, m_rank, m_external, m_first, m_how, m_bytes, m_memory, m_callOf, m_baseOf, m_usedAhead, m_placeOf, m_argument, m_argumentBytes, m_q, m_0, n_c, x_gs]) (by rw [← h2S]; simp [m_programs, m_cells, m_active, m_prepared, m_arguments, m_used, m_preparedAhead, m_within, m_names, m_marks, m_manyFormals, m_activeTimes, m_data, m_owner, m_rank, m_external, m_first, m_how, m_bytes, m_memory, m_callOf, m_baseOf, m_usedAhead, m_placeOf, m_argument, m_argumentBytes, m_q, m_0, n_c, x_gs]) (by funext j; rw [← h2S]; simp [m_programs, m_cells, m_active, m_prepared, m_arguments, m_used, m_preparedAhead, m_within, m_names, m_marks, m_manyFormals, m_activeTimes, m_data, m_owner, m_rank, m_external, m_first, m_how, m_bytes, m_memory, m_callOf, m_baseOf, m_usedAhead, m_placeOf, m_argument, m_argumentBytes, m_q, m_0, n_c, x_gs]) (by rw [← h2S]; simp [m_programs, m_cells, m_active, m_prepared, m_arguments, m_used, m_preparedAhead, m_within, m_names, m_marks, m_manyFormals, m_activeTimes, m_data, m_owner, m_rank, m_external, m_first, m_how, m_bytes, m_memory, m_callOf, m_baseOf, m_usedAhead, m_placeOf, m_argument, m_argumentBytes, m_q, m_0, n_c, x_gs]) (by funext j; rw [← h2S]; simp [m_programs, m_cells, m_active, m_prepared, m_arguments, m_used, m_preparedAhead, m_within, m_names, m_marks, m_manyFormals, m_activeTimes, m_data, m_owner, m_rank, m_external, m_first, m_how, m_bytes, m_memory, m_callOf, m_baseOf, m_usedAhead, m_placeOf, m_argument, m_argumentBytes, m_q, m_0, n_c, x_gs]) (by funext j; rw [← h2S]; simp [m_programs, m_cells, m_active, m_prepared, m_arguments, m_used, m_preparedAhead, m_within, m_names, m_marks, m_manyFormals, m_activeTimes, m_data, m_owner, m_rank, m_external, m_first, m_how, m_bytes, m_memory, m_callOf, m_baseOf, m_usedAhead, m_placeOf, m_argument, m_argumentBytes, m_q, m_0, n_c, x_gs]) (by funext j; rw [← h2S]; simp [m_programs, m_cells, m_active, m_prepared, m_arguments, m_used, m_preparedAhead, m_within, m_names, m_marks, m_manyFormals, m_activeTimes, m_data, m_owner, m_rank, m_external, m_first, m_how, m_bytes, m_memory, m_callOf, m_baseOf, m_usedAhead, m_placeOf, m_argument, m_argumentBytes, m_q, m_0, n_c, x_gs]) (by funext j; rw [← h2S]; simp [m_programs, m_cells, m_active, m_prepared, m_arguments, m_used, m_preparedAhead, m_within, m_names, m_marks, m_manyFormals, m_activeTimes, m_data, m_owner, m_rank, m_external, m_first, m_how, m_bytes, m_memory, m_callOf, m_baseOf, m_usedAhead, m_placeOf, m_argument, m_argumentBytes, m_q, m_0, n_c, x_gs]) (by funext j; rw [← h2S]; simp [m_programs, m_cells, m_active, m_prepared, m_arguments, m_used, m_preparedAhead, m_within, m_names, m_marks, m_manyFormals, m_activeTimes, m_data, m_owner, m_rank, m_external, m_first, m_how, m_bytes, m_memory, m_callOf, m_baseOf, m_usedAhead, m_placeOf, m_argument, m_argumentBytes, m_q, m_0, n_c, x_gs]) (fun k hk => by rw [hcc] at hk; rw [eo, er, if_neg (by omega), if_neg (by omega)]; exact ⟨rfl, rfl⟩) (Or.inr c1) (by rw [hcc]; exact em) (by rw [hcc]; exact e17) (by intro k a; rw [← h2S]; simp [m_programs, m_cells, m_active, m_prepared, m_arguments, m_used, m_preparedAhead, m_within, m_names, m_marks, m_manyFormals, m_activeTimes, m_data, m_owner, m_rank, m_external, m_first, m_how, m_bytes, m_memory, m_callOf, m_baseOf, m_usedAhead, m_placeOf, m_argument, m_argumentBytes, m_q, m_0, n_c, x_gs]) (by intro k a; rw [← h2S]; simp [m_programs, m_cells, m_active, m_prepared, m_arguments, m_used, m_preparedAhead, m_within, m_names, m_marks, m_manyFormals, m_activeTimes, m_data, m_owner, m_rank, m_external, m_first, m_how, m_bytes, m_memory, m_callOf, m_baseOf, m_usedAhead, m_placeOf, m_argument, m_argumentBytes, m_q, m_0, n_c, x_gs]) (by intro k a; rw [← h2S]; simp [m_programs, m_cells, m_active, m_prepared, m_arguments, m_used, m_preparedAhead, m_within, m_names, m_marks, m_manyFormals, m_activeTimes, m_data, m_owner, m_rank, m_external, m_first, m_how, m_bytes, m_memory, m_callOf, m_baseOf, m_usedAhead, m_placeOf, m_argument, m_argumentBytes, m_q, m_0, n_c, x_gs]) (by intro k a; rw [← h2S]; simp [m_programs, m_cells, m_active, m_prepared, m_arguments, m_used, m_preparedAhead, m_within, m_names, m_marks, m_manyFormals, m_activeTimes, m_data, m_owner, m_rank, m_external, m_first, m_how, m_bytes, m_memory, m_callOf, m_baseOf, m_usedAhead, m_placeOf, m_argument, m_argumentBytes, m_q, m_0, n_c, x_gs]) (by funext j; rw [← h2S]; simp [m_programs, m_cells, m_active, m_prepared, m_arguments, m_used, m_preparedAhead, m_within, m_names, m_marks, m_manyFormals, m_activeTimes, m_data, m_owner, m_rank, m_external, m_first, m_how, m_bytes, m_memory, m_callOf, m_baseOf, m_usedAhead, m_placeOf, m_argument, m_argumentBytes, m_q, m_0, n_c, x_gs])
          rw [hcc] at this
          exact this
        · have := rA_mono (D_cm hD) hA
          rw [hcc] at this
          rw [r_A, show m_callOf S2 y = m_callOf S y from (by funext j; rw [← h2S]; simp [m_programs, m_cells, m_active, m_prepared, m_arguments, m_used, m_preparedAhead, m_within, m_names, m_marks, m_manyFormals, m_activeTimes, m_data, m_owner, m_rank, m_external, m_first, m_how, m_bytes, m_memory, m_callOf, m_baseOf, m_usedAhead, m_placeOf, m_argument, m_argumentBytes, m_q, m_0, n_c, x_gs]), ← h2S]
          simpa [r_A, m_programs, m_cells, m_active, m_prepared, m_arguments, m_used, m_preparedAhead, m_within, m_names, m_marks, m_manyFormals, m_activeTimes, m_data, m_owner, m_rank, m_external, m_first, m_how, m_bytes, m_memory, m_callOf, m_baseOf, m_usedAhead, m_placeOf, m_argument, m_argumentBytes, m_q, m_0, n_c, x_gs] using this
    · have c1' : ¬ nI (m_active S y) ≤ 0 := fun z => c1 (by have := (nI_leI (b := 0) (by omega) (by omega)).mp z; omega)
      rw [if_neg c1']
      unfold f_ceM
      rw [if_neg (show ¬ f_isP (m_0 S y) y (nI i) = 0 from fun z => absurd (a3.symm.trans z) (by decide)), if_neg (show ¬ nI (m_active (m_0 S y) y) ≤ 0 from c1')]
      exact ⟨rfl, same⟩
