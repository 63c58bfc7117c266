/-! shared, formal -/
theorem sf_sp {S : gs_S} {y : Nat} {nm : Int32} (hM : m_t S) (hY : g_sh S y = some (.inl 3)) : ∀ (k i : Nat), i + k ≤ 200 → (f_sf S y nm k i = none ∧ ∀ j : Nat, i ≤ j → j < i + k → ¬ (m_owner S y j = 0 ∧ m_external S y j = nm)) ∨ ∃ q : Nat, f_sf S y nm k i = some q ∧ i ≤ q ∧ q < i + k ∧ m_owner S y q = 0 ∧ m_external S y q = nm ∧ ∀ j : Nat, i ≤ j → j < q → ¬ (m_owner S y j = 0 ∧ m_external S y j = nm) := by
  intro k
  induction k with
  | zero => intro i _; exact Or.inl ⟨rfl, fun j h1 h2 => by omega⟩
  | succ k ih =>
    intro i hik
    have hb := b_owner hM hY (i := i) (by omega)
    rw [f_sf]
    have go : ¬ (m_owner S y i = 0 ∧ m_external S y i = nm) → (f_sf S y nm k (i + 1) = none ∧ ∀ j : Nat, i ≤ j → j < i + (k + 1) → ¬ (m_owner S y j = 0 ∧ m_external S y j = nm)) ∨ ∃ q : Nat, f_sf S y nm k (i + 1) = some q ∧ i ≤ q ∧ q < i + (k + 1) ∧ m_owner S y q = 0 ∧ m_external S y q = nm ∧ ∀ j : Nat, i ≤ j → j < q → ¬ (m_owner S y j = 0 ∧ m_external S y j = nm) := by
      intro hn
      rcases ih (i + 1) (by omega) with ⟨a1, a2⟩ | ⟨q, a1, a2, a3, a4, a5, a6⟩
      · refine Or.inl ⟨a1, fun j h1 h2 => ?_⟩
        by_cases e : j = i
        · subst e; exact hn
        · exact a2 j (by omega) (by omega)
      · refine Or.inr ⟨q, a1, by omega, by omega, a4, a5, fun j h1 h2 => ?_⟩
        by_cases e : j = i
        · subst e; exact hn
        · exact a6 j (by omega) h2
    by_cases c1 : m_owner S y i = 0
    · rw [if_pos (by rw [c1]; rfl)]
      by_cases c2 : m_external S y i = nm
      · rw [if_pos c2]
        exact Or.inr ⟨i, rfl, by omega, by omega, c1, c2, fun j h1 h2 => by omega⟩
      · rw [if_neg c2]; exact go (fun z => c2 z.2)
    · rw [if_neg (fun z => c1 ((x_n0 (by omega)).mp z))]; exact go (fun z => c1 z.1)
theorem sf_c {S' S : gs_S} {y : Nat} (e1 : m_owner S' y = m_owner S y) (e2 : m_external S' y = m_external S y) (nm : Int32) : ∀ k i : Nat, f_sf S' y nm k i = f_sf S y nm k i := by
  intro k
  induction k with
  | zero => intro i; rfl
  | succ k ih => intro i; rw [f_sf, f_sf, e1, e2, ih]
theorem p_ai_s (S : gs_S) (r a j : Nat) : p_ai S r a j (g_ai S r a j) = S := by
  have : u_3 S.2.2.2.2.1 r a j (g_ai S r a j) = S.2.2.2.2.1 := by
    funext r' a' j'
    unfold u_3
    split
    · rename_i c; obtain ⟨rfl, rfl, rfl⟩ := c; rfl
    · rfl
  unfold p_ai
  rw [this]
set_option maxHeartbeats 4000000 in
theorem z_shared {S : gs_S} {x y t : Nat} {P L : Nat → Nat} {D : Nat → Nat → Option Nat} {N : Nat} (h : r_R S x y t P L D N) (nm : Int32) : (f_shared S x nm).1 = (f_shM (m_0 (f_shared S x nm).2 y) y nm).1 ∧ r_X (f_shM (m_0 (f_shared S x nm).2 y) y nm).2 x y (t + 1) := by
  have hr := h
  obtain ⟨⟨h1, h2, h3, h4⟩, hb, hP, hC, hL, hD, hA⟩ := h
  have hn := b_programs h2 h4
  have hc := b_cells h2 h4
  have same : r_X (m_0 S y) x y (t + 1) := ⟨P, L, D, N, z_0 hr 0 (by omega)⟩
  unfold f_shared
  by_cases c0 : f_isName nm = 0
  · rw [if_pos c0]
    unfold f_shM
    rw [if_pos c0]
    exact ⟨rfl, same⟩
  · rw [if_neg c0]
    obtain ⟨j0, hj0, rfl⟩ := x_name c0
    rw [nI_clamp (by omega)]
    have esf : ∀ T : gs_S, m_owner T y = m_owner S y → m_external T y = m_external S y → m_cells T y = m_cells S y → f_sf T y (nI j0) (m_cells T y) 0 = f_sf S y (nI j0) (m_cells S y) 0 := fun T e1 e2 e3 => by rw [e3]; exact sf_c e1 e2 _ _ _
    rcases hC.2.2.1 j0 hj0 with ⟨k, q1, q2, q3, q4, q5⟩ | ⟨q1, q2⟩
    · rw [q5, if_neg (nI_m1 (by omega))]
      unfold f_shM
      rw [if_neg c0, esf (m_0 S y) (by funext j; simp [m_programs, m_cells, m_active, m_prepared, m_arguments, m_used, m_preparedAhead, m_within, m_names, m_marks, m_manyFormals, m_activeTimes, m_data, m_owner, m_rank, m_external, m_first, m_how, m_bytes, m_memory, m_callOf, m_baseOf, m_usedAhead, m_placeOf, m_argument, m_argumentBytes, m_q, m_0, n_c, x_gs]) (by funext j; simp [m_programs, m_cells, m_active, m_prepared, m_arguments, m_used, m_preparedAhead, m_within, m_names, m_marks, m_manyFormals, m_activeTimes, m_data, m_owner, m_rank, m_external, m_first, m_how, m_bytes, m_memory, m_callOf, m_baseOf, m_usedAhead, m_placeOf, m_argument, m_argumentBytes, m_q, m_0, n_c, x_gs]) (by simp [m_programs, m_cells, m_active, m_prepared, m_arguments, m_used, m_preparedAhead, m_within, m_names, m_marks, m_manyFormals, m_activeTimes, m_data, m_owner, m_rank, m_external, m_first, m_how, m_bytes, m_memory, m_callOf, m_baseOf, m_usedAhead, m_placeOf, m_argument, m_argumentBytes, m_q, m_0, n_c, x_gs])]
      rcases sf_sp h2 h4 (nm := nI j0) (m_cells S y) 0 (by omega) with ⟨a1, a2⟩ | ⟨q, a1, a2, a3, a4, a5, a6⟩
      · exact absurd ⟨q2, q3⟩ (a2 k (by omega) (by omega))
      · rw [a1]
        have : q = k := by
          rcases Nat.lt_trichotomy q k with z | z | z
          · exact absurd ⟨a4, a5⟩ (q4 q z)
          · exact z
          · exact absurd ⟨q2, q3⟩ (a6 k (by omega) z)
        subst this
        exact ⟨rfl, same⟩
    · have hsf : f_sf S y (nI j0) (m_cells S y) 0 = none := by
        rcases sf_sp h2 h4 (nm := nI j0) (m_cells S y) 0 (by omega) with ⟨a1, a2⟩ | ⟨q, a1, a2, a3, a4, a5, a6⟩
        · exact a1
        · exact absurd ⟨a4, a5⟩ (q1 q (by omega))
      rw [q2, if_pos rfl]
      rcases r_newCell hC hL hc none 0 with ⟨b1, b2⟩ | ⟨b1, b2⟩
      · rw [b2]
        simp only []
        rw [show p_ai S 3 (v_a (g_r S 2 6 x)) j0 (-1) = S from by rw [← q2]; exact p_ai_s _ _ _ _]
        unfold f_shM
        rw [if_neg c0, esf (m_0 S y) (by funext j; simp [m_programs, m_cells, m_active, m_prepared, m_arguments, m_used, m_preparedAhead, m_within, m_names, m_marks, m_manyFormals, m_activeTimes, m_data, m_owner, m_rank, m_external, m_first, m_how, m_bytes, m_memory, m_callOf, m_baseOf, m_usedAhead, m_placeOf, m_argument, m_argumentBytes, m_q, m_0, n_c, x_gs]) (by funext j; simp [m_programs, m_cells, m_active, m_prepared, m_arguments, m_used, m_preparedAhead, m_within, m_names, m_marks, m_manyFormals, m_activeTimes, m_data, m_owner, m_rank, m_external, m_first, m_how, m_bytes, m_memory, m_callOf, m_baseOf, m_usedAhead, m_placeOf, m_argument, m_argumentBytes, m_q, m_0, n_c, x_gs]) (by simp [m_programs, m_cells, m_active, m_prepared, m_arguments, m_used, m_preparedAhead, m_within, m_names, m_marks, m_manyFormals, m_activeTimes, m_data, m_owner, m_rank, m_external, m_first, m_how, m_bytes, m_memory, m_callOf, m_baseOf, m_usedAhead, m_placeOf, m_argument, m_argumentBytes, m_q, m_0, n_c, x_gs]), hsf]
        simp only []
        rw [if_pos (show nI (m_cells (m_0 S y) y) = 200 from by rw [show m_cells (m_0 S y) y = m_cells S y from rfl, b1]; rfl)]
        exact ⟨rfl, same⟩
      · rw [b2]
        simp only []
        generalize hT : m_0 (p_ai (n_c S x (m_cells S y) (v_a (g_r S 0 8 (L 0))) none 0) 3 (v_a (g_r S 2 6 x)) j0 (nI (m_cells S y))) y = T
        have hct : m_cells T y = m_cells S y := by rw [← hT]; simp [m_programs, m_cells, m_active, m_prepared, m_arguments, m_used, m_preparedAhead, m_within, m_names, m_marks, m_manyFormals, m_activeTimes, m_data, m_owner, m_rank, m_external, m_first, m_how, m_bytes, m_memory, m_callOf, m_baseOf, m_usedAhead, m_placeOf, m_argument, m_argumentBytes, m_q, m_0, n_c, x_gs]
        unfold f_shM
        rw [if_neg c0, esf T (by funext j; rw [← hT]; simp [m_programs, m_cells, m_active, m_prepared, m_arguments, m_used, m_preparedAhead, m_within, m_names, m_marks, m_manyFormals, m_activeTimes, m_data, m_owner, m_rank, m_external, m_first, m_how, m_bytes, m_memory, m_callOf, m_baseOf, m_usedAhead, m_placeOf, m_argument, m_argumentBytes, m_q, m_0, n_c, x_gs]) (by funext j; rw [← hT]; simp [m_programs, m_cells, m_active, m_prepared, m_arguments, m_used, m_preparedAhead, m_within, m_names, m_marks, m_manyFormals, m_activeTimes, m_data, m_owner, m_rank, m_external, m_first, m_how, m_bytes, m_memory, m_callOf, m_baseOf, m_usedAhead, m_placeOf, m_argument, m_argumentBytes, m_q, m_0, n_c, x_gs]) hct, hsf]
        simp only []
        rw [hct, if_neg (fun z => by have := (nI_eq (b := 200) (by omega) (by omega)).mp z; omega)]
        refine ⟨rfl, P, L, D_c D (m_cells S y), N, ?_⟩
        simp only []
        rw [show m_q T y 9 = m_q S y 9 from by rw [← hT]; simp [m_programs, m_cells, m_active, m_prepared, m_arguments, m_used, m_preparedAhead, m_within, m_names, m_marks, m_manyFormals, m_activeTimes, m_data, m_owner, m_rank, m_external, m_first, m_how, m_bytes, m_memory, m_callOf, m_baseOf, m_usedAhead, m_placeOf, m_argument, m_argumentBytes, m_q, m_0, n_c, x_gs], show m_q T y 11 = m_q S y 11 from by rw [← hT]; simp [m_programs, m_cells, m_active, m_prepared, m_arguments, m_used, m_preparedAhead, m_within, m_names, m_marks, m_manyFormals, m_activeTimes, m_data, m_owner, m_rank, m_external, m_first, m_how, m_bytes, m_memory, m_callOf, m_baseOf, m_usedAhead, m_placeOf, m_argument, m_argumentBytes, m_q, m_0, n_c, x_gs], show m_q T y 16 = m_q S y 16 from by rw [← hT]; simp [m_programs, m_cells, m_active, m_prepared, m_arguments, m_used, m_preparedAhead, m_within, m_names, m_marks, m_manyFormals, m_activeTimes, m_data, m_owner, m_rank, m_external, m_first, m_how, m_bytes, m_memory, m_callOf, m_baseOf, m_usedAhead, m_placeOf, m_argument, m_argumentBytes, m_q, m_0, n_c, x_gs], ← hT]
        generalize hcc : m_cells S y = c at *
        generalize h2S : p_i (p_al (p_ai (p_ai (m_0 (p_ai (n_c S x c (v_a (g_r S 0 8 (L 0))) none 0) 3 (v_a (g_r S 2 6 x)) j0 (nI c)) y) 16 (m_q S y 9) c 0) 18 (m_q S y 11) c (nI j0)) 22 (m_q S y 16) c 0) 3 13 y (nI (c + 1)) = S2
        have e1 : m_cells S2 y = c + 1 := by rw [← h2S, m_cells, rd_i, nI_clamp (by omega)]
        have eo : ∀ k : Nat, m_owner S2 y k = if k = c then 0 else m_owner S y k := fun k => by
          rw [← h2S]
          by_cases z : k = c
          · rw [if_pos z, z]; simp [m_programs, m_cells, m_active, m_prepared, m_arguments, m_used, m_preparedAhead, m_within, m_names, m_marks, m_manyFormals, m_activeTimes, m_data, m_owner, m_rank, m_external, m_first, m_how, m_bytes, m_memory, m_callOf, m_baseOf, m_usedAhead, m_placeOf, m_argument, m_argumentBytes, m_q, m_0, n_c, x_gs]
          · rw [if_neg z]; simp [m_programs, m_cells, m_active, m_prepared, m_arguments, m_used, m_preparedAhead, m_within, m_names, m_marks, m_manyFormals, m_activeTimes, m_data, m_owner, m_rank, m_external, m_first, m_how, m_bytes, m_memory, m_callOf, m_baseOf, m_usedAhead, m_placeOf, m_argument, m_argumentBytes, m_q, m_0, n_c, x_gs, z]
        have er : ∀ k : Nat, m_rank S2 y k = m_rank S y k := fun k => (by rw [← h2S]; simp [m_programs, m_cells, m_active, m_prepared, m_arguments, m_used, m_preparedAhead, m_within, m_names, m_marks, m_manyFormals, m_activeTimes, m_data, m_owner, m_rank, m_external, m_first, m_how, m_bytes, m_memory, m_callOf, m_baseOf, m_usedAhead, m_placeOf, m_argument, m_argumentBytes, m_q, m_0, n_c, x_gs])
        have ef : ∀ k : Nat, m_first S2 y k = m_first S y k := fun k => (by rw [← h2S]; simp [m_programs, m_cells, m_active, m_prepared, m_arguments, m_used, m_preparedAhead, m_within, m_names, m_marks, m_manyFormals, m_activeTimes, m_data, m_owner, m_rank, m_external, m_first, m_how, m_bytes, m_memory, m_callOf, m_baseOf, m_usedAhead, m_placeOf, m_argument, m_argumentBytes, m_q, m_0, n_c, x_gs])
        have ex : ∀ k : Nat, m_external S2 y k = if k = c then nI j0 else m_external S y k := fun k => by
          rw [← h2S]
          by_cases z : k = c
          · rw [if_pos z, z]; simp [m_programs, m_cells, m_active, m_prepared, m_arguments, m_used, m_preparedAhead, m_within, m_names, m_marks, m_manyFormals, m_activeTimes, m_data, m_owner, m_rank, m_external, m_first, m_how, m_bytes, m_memory, m_callOf, m_baseOf, m_usedAhead, m_placeOf, m_argument, m_argumentBytes, m_q, m_0, n_c, x_gs]
          · rw [if_neg z]; simp [m_programs, m_cells, m_active, m_prepared, m_arguments, m_used, m_preparedAhead, m_within, m_names, m_marks, m_manyFormals, m_activeTimes, m_data, m_owner, m_rank, m_external, m_first, m_how, m_bytes, m_memory, m_callOf, m_baseOf, m_usedAhead, m_placeOf, m_argument, m_argumentBytes, m_q, m_0, n_c, x_gs, z]
        have em : ∀ k : Nat, m_memory S2 y k = if k = c then 0 else m_memory S y k := fun k => by
          rw [← h2S]
          by_cases z : k = c
          · rw [if_pos z, z]; simp [m_programs, m_cells, m_active, m_prepared, m_arguments, m_used, m_preparedAhead, m_within, m_names, m_marks, m_manyFormals, m_activeTimes, m_data, m_owner, m_rank, m_external, m_first, m_how, m_bytes, m_memory, m_callOf, m_baseOf, m_usedAhead, m_placeOf, m_argument, m_argumentBytes, m_q, m_0, n_c, x_gs]
          · rw [if_neg z]; simp [m_programs, m_cells, m_active, m_prepared, m_arguments, m_used, m_preparedAhead, m_within, m_names, m_marks, m_manyFormals, m_activeTimes, m_data, m_owner, m_rank, m_external, m_first, m_how, m_bytes, m_memory, m_callOf, m_baseOf, m_usedAhead, m_placeOf, m_argument, m_argumentBytes, m_q, m_0, n_c, x_gs, z]
        have e17 : ∀ A q : Nat, g_al S2 9 A q = if A = v_a (g_r S 0 8 (L 0)) ∧ q = 16 + c then 0 else g_al S 9 A q := fun A q => by
          rw [← h2S]
          by_cases z : A = v_a (g_r S 0 8 (L 0)) ∧ q = 16 + c
          · rw [if_pos z, z.1, z.2]; simp [m_programs, m_cells, m_active, m_prepared, m_arguments, m_used, m_preparedAhead, m_within, m_names, m_marks, m_manyFormals, m_activeTimes, m_data, m_owner, m_rank, m_external, m_first, m_how, m_bytes, m_memory, m_callOf, m_baseOf, m_usedAhead, m_placeOf, m_argument, m_argumentBytes, m_q, m_0, n_c, x_gs]
          · rw [if_neg z]; simp [m_programs, m_cells, m_active, m_prepared, m_arguments, m_used, m_preparedAhead, m_within, m_names, m_marks, m_manyFormals, m_activeTimes, m_data, m_owner, m_rank, m_external, m_first, m_how, m_bytes, m_memory, m_callOf, m_baseOf, m_usedAhead, m_placeOf, m_argument, m_argumentBytes, m_q, m_0, n_c, x_gs, z]
        refine ⟨⟨?_, ?_, ?_, ?_⟩, ?_, ?_, ?_, ?_, ?_, ?_⟩
        · rw [← h2S]; exact wt_pi0 (wt_pal (wt_pai (wt_pai (wt_pi0 (wt_pai (wt_nc h1 (fun b z => by cases z) b1) (fun z => absurd z (by decide))) (by decide)) (fun z => absurd z (by decide))) (fun z => absurd z (by decide)))) (by decide)
        · rw [← h2S]; exact mt_cells (mt_pal (mt_pai (mt_pai (mt_pi0 (mt_pai (mt_nc h2) (fun z => absurd z (by decide))) (by decide)) (fun _ => ⟨0, rfl, by omega⟩)) (fun _ => True.intro))) (by omega)
        · rw [← h2S]; simpa [m_programs, m_cells, m_active, m_prepared, m_arguments, m_used, m_preparedAhead, m_within, m_names, m_marks, m_manyFormals, m_activeTimes, m_data, m_owner, m_rank, m_external, m_first, m_how, m_bytes, m_memory, m_callOf, m_baseOf, m_usedAhead, m_placeOf, m_argument, m_argumentBytes, m_q, m_0, n_c, x_gs] using h3
        · rw [← h2S]; simpa [m_programs, m_cells, m_active, m_prepared, m_arguments, m_used, m_preparedAhead, m_within, m_names, m_marks, m_manyFormals, m_activeTimes, m_data, m_owner, m_rank, m_external, m_first, m_how, m_bytes, m_memory, m_callOf, m_baseOf, m_usedAhead, m_placeOf, m_argument, m_argumentBytes, m_q, m_0, n_c, x_gs] using h4
        · rw [e1, show m_active S2 y = m_active S y from (by rw [← h2S]; simp [m_programs, m_cells, m_active, m_prepared, m_arguments, m_used, m_preparedAhead, m_within, m_names, m_marks, m_manyFormals, m_activeTimes, m_data, m_owner, m_rank, m_external, m_first, m_how, m_bytes, m_memory, m_callOf, m_baseOf, m_usedAhead, m_placeOf, m_argument, m_argumentBytes, m_q, m_0, n_c, x_gs]), show m_prepared S2 y = m_prepared S y from (by rw [← h2S]; simp [m_programs, m_cells, m_active, m_prepared, m_arguments, m_used, m_preparedAhead, m_within, m_names, m_marks, m_manyFormals, m_activeTimes, m_data, m_owner, m_rank, m_external, m_first, m_how, m_bytes, m_memory, m_callOf, m_baseOf, m_usedAhead, m_placeOf, m_argument, m_argumentBytes, m_q, m_0, n_c, x_gs])]; omega
        · rw [← h2S]; simpa [r_P, m_programs, m_cells, m_active, m_prepared, m_arguments, m_used, m_preparedAhead, m_within, m_names, m_marks, m_manyFormals, m_activeTimes, m_data, m_owner, m_rank, m_external, m_first, m_how, m_bytes, m_memory, m_callOf, m_baseOf, m_usedAhead, m_placeOf, m_argument, m_argumentBytes, m_q, m_0, n_c, x_gs] using hP
        · refine ⟨?_, fun k hk => ?_, fun nm hnm => ?_, ?_⟩
          · rw [e1, ← h2S]; simp [m_programs, m_cells, m_active, m_prepared, m_arguments, m_used, m_preparedAhead, m_within, m_names, m_marks, m_manyFormals, m_activeTimes, m_data, m_owner, m_rank, m_external, m_first, m_how, m_bytes, m_memory, m_callOf, m_baseOf, m_usedAhead, m_placeOf, m_argument, m_argumentBytes, m_q, m_0, n_c, x_gs]
          · rw [e1] at hk
            have ear : g_ar S2 1 (v_a (g_r S2 2 3 x)) k = if k = c then none else g_ar S 1 (v_a (g_r S 2 3 x)) k := by
              rw [← h2S]; simp [m_programs, m_cells, m_active, m_prepared, m_arguments, m_used, m_preparedAhead, m_within, m_names, m_marks, m_manyFormals, m_activeTimes, m_data, m_owner, m_rank, m_external, m_first, m_how, m_bytes, m_memory, m_callOf, m_baseOf, m_usedAhead, m_placeOf, m_argument, m_argumentBytes, m_q, m_0, n_c, x_gs]
            have eal : k ≠ c → g_al S2 2 (v_a (g_r S2 2 4 x)) k = g_al S 2 (v_a (g_r S 2 4 x)) k := fun z => by
              rw [← h2S]; simp [m_programs, m_cells, m_active, m_prepared, m_arguments, m_used, m_preparedAhead, m_within, m_names, m_marks, m_manyFormals, m_activeTimes, m_data, m_owner, m_rank, m_external, m_first, m_how, m_bytes, m_memory, m_callOf, m_baseOf, m_usedAhead, m_placeOf, m_argument, m_argumentBytes, m_q, m_0, n_c, x_gs, z]
            rw [ear, eo, er, ef, show m_programs S2 y = m_programs S y from (by rw [← h2S]; simp [m_programs, m_cells, m_active, m_prepared, m_arguments, m_used, m_preparedAhead, m_within, m_names, m_marks, m_manyFormals, m_activeTimes, m_data, m_owner, m_rank, m_external, m_first, m_how, m_bytes, m_memory, m_callOf, m_baseOf, m_usedAhead, m_placeOf, m_argument, m_argumentBytes, m_q, m_0, n_c, x_gs])]
            have ecn : ∀ q : Nat, cn_ (m_owner S2 y) q k = cn_ (m_owner S y) q k := fun q => cn_cg (fun j hj => by rw [eo, if_neg (by omega)])
            rw [ecn]
            by_cases z : k = c
            · rw [if_pos z, if_pos z]
              exact ⟨Nat.zero_le _, rfl, fun w => absurd rfl w⟩
            · rw [if_neg z, if_neg z, eal z]
              exact hC.2.1 k (by rw [hcc]; omega)
          · have hex : g_ai S2 3 (v_a (g_r S2 2 6 x)) nm = if nm = j0 then nI c else g_ai S 3 (v_a (g_r S 2 6 x)) nm := by
              rw [← h2S]
              by_cases z : nm = j0
              · rw [if_pos z, z]; simp [m_programs, m_cells, m_active, m_prepared, m_arguments, m_used, m_preparedAhead, m_within, m_names, m_marks, m_manyFormals, m_activeTimes, m_data, m_owner, m_rank, m_external, m_first, m_how, m_bytes, m_memory, m_callOf, m_baseOf, m_usedAhead, m_placeOf, m_argument, m_argumentBytes, m_q, m_0, n_c, x_gs]
              · rw [if_neg z]; simp [m_programs, m_cells, m_active, m_prepared, m_arguments, m_used, m_preparedAhead, m_within, m_names, m_marks, m_manyFormals, m_activeTimes, m_data, m_owner, m_rank, m_external, m_first, m_how, m_bytes, m_memory, m_callOf, m_baseOf, m_usedAhead, m_placeOf, m_argument, m_argumentBytes, m_q, m_0, n_c, x_gs, z]
            rw [hex, e1]
            by_cases z : nm = j0
            · subst z
              refine Or.inl ⟨c, by omega, by rw [eo, if_pos rfl], by rw [ex, if_pos rfl], fun j hj => ?_, by rw [if_pos rfl]⟩
              rw [eo, ex, if_neg (by omega), if_neg (by omega)]
              exact q1 j hj
            · rw [if_neg z]
              rcases hC.2.2.1 nm hnm with ⟨k, w1, w2, w3, w4, w5⟩ | ⟨w1, w2⟩
              · rw [hcc] at w1
                exact Or.inl ⟨k, by omega, by rw [eo, if_neg (by omega)]; exact w2, by rw [ex, if_neg (by omega)]; exact w3, fun j hj => by rw [eo, ex, if_neg (by omega), if_neg (by omega)]; exact w4 j hj, w5⟩
              · rw [hcc] at w1
                refine Or.inr ⟨fun j hj => ?_, w2⟩
                rw [eo, ex]
                by_cases zz : j = c
                · rw [if_pos zz, if_pos zz]; exact fun w => z ((nI_eq (by omega) (by omega)).mp w.2).symm
                · rw [if_neg zz, if_neg zz]; exact w1 j (by omega)
          · rw [← h2S]; simpa [m_programs, m_cells, m_active, m_prepared, m_arguments, m_used, m_preparedAhead, m_within, m_names, m_marks, m_manyFormals, m_activeTimes, m_data, m_owner, m_rank, m_external, m_first, m_how, m_bytes, m_memory, m_callOf, m_baseOf, m_usedAhead, m_placeOf, m_argument, m_argumentBytes, m_q, m_0, n_c, x_gs] using hC.2.2.2
        · rw [r_L, show m_callOf S2 y = m_callOf S y from (by funext j; rw [← h2S]; simp [m_programs, m_cells, m_active, m_prepared, m_arguments, m_used, m_preparedAhead, m_within, m_names, m_marks, m_manyFormals, m_activeTimes, m_data, m_owner, m_rank, m_external, m_first, m_how, m_bytes, m_memory, m_callOf, m_baseOf, m_usedAhead, m_placeOf, m_argument, m_argumentBytes, m_q, m_0, n_c, x_gs]), ← h2S]; simpa [r_L, m_programs, m_cells, m_active, m_prepared, m_arguments, m_used, m_preparedAhead, m_within, m_names, m_marks, m_manyFormals, m_activeTimes, m_data, m_owner, m_rank, m_external, m_first, m_how, m_bytes, m_memory, m_callOf, m_baseOf, m_usedAhead, m_placeOf, m_argument, m_argumentBytes, m_q, m_0, n_c, x_gs] using hL
        · have := rD_cell (S2 := S2) (v := 0) (by rw [hcc]; exact b1) hL hA hD (by rw [hcc]; exact e1) (by rw [← h2S]; simp [m_programs, m_cells, m_active, m_prepared, m_arguments, m_used, m_preparedAhead, m_within, m_names, m_marks, m_manyFormals, m_activeTimes, m_data, m_owner, m_rank, m_external, m_first, m_how, m_bytes, m_memory, m_callOf, m_baseOf, m_usedAhead, m_placeOf, m_argument, m_argumentBytes, m_q, m_0, n_c, x_gs]) (by rw [← h2S]; simp [m_programs, m_cells, m_active, m_prepared, m_arguments, m_used, m_preparedAhead, m_within, m_names, m_marks, m_manyFormals, m_activeTimes, m_data, m_owner, m_rank, m_external, m_first, m_how, m_bytes, m_memory, m_callOf, m_baseOf, m_usedAhead, m_placeOf, m_argument, m_argumentBytes, m_q, m_0, n_c, x_gs]) (by rw [← h2S]; simp [m_programs, m_cells, m_active, m_prepared, m_arguments, m_used, m_preparedAhead, m_within, m_names, m_marks, m_manyFormals, m_activeTimes, m_data, m_owner, m_rank, m_external, m_first, m_how, m_bytes, m_memory, m_callOf, m_baseOf, m_usedAhead, m_placeOf, m_argument, m_argumentBytes, m_q, m_0, n_c, x_gs]) (by rw [← h2S]; simp [m_programs, m_cells, m_active, m_prepared, m_arguments, m_used, m_preparedAhead, m_within, m_names, m_marks, m_manyFormals, m_activeTimes, m_data, m_owner, m_rank, m_external, m_first, m_how, m_bytes, m_memory, m_callOf, m_baseOf, m_usedAhead, m_placeOf, m_argument, m_argumentBytes, m_q, m_0, n_c, x_gs]) (by funext j; rw [← h2S]; simp [m_programs, m_cells, m_active, m_prepared, m_arguments, m_used, m_preparedAhead, m_within, m_names, m_marks, m_manyFormals, m_activeTimes, m_data, m_owner, m_rank, m_external, m_first, m_how, m_bytes, m_memory, m_callOf, m_baseOf, m_usedAhead, m_placeOf, m_argument, m_argumentBytes, m_q, m_0, n_c, x_gs]) (by rw [← h2S]; simp [m_programs, m_cells, m_active, m_prepared, m_arguments, m_used, m_preparedAhead, m_within, m_names, m_marks, m_manyFormals, m_activeTimes, m_data, m_owner, m_rank, m_external, m_first, m_how, m_bytes, m_memory, m_callOf, m_baseOf, m_usedAhead, m_placeOf, m_argument, m_argumentBytes, m_q, m_0, n_c, x_gs]) (by funext j; rw [← h2S]; simp [m_programs, m_cells, m_active, m_prepared, m_arguments, m_used, m_preparedAhead, m_within, m_names, m_marks, m_manyFormals, m_activeTimes, m_data, m_owner, m_rank, m_external, m_first, m_how, m_bytes, m_memory, m_callOf, m_baseOf, m_usedAhead, m_placeOf, m_argument, m_argumentBytes, m_q, m_0, n_c, x_gs]) (by funext j; rw [← h2S]; simp [m_programs, m_cells, m_active, m_prepared, m_arguments, m_used, m_preparedAhead, m_within, m_names, m_marks, m_manyFormals, m_activeTimes, m_data, m_owner, m_rank, m_external, m_first, m_how, m_bytes, m_memory, m_callOf, m_baseOf, m_usedAhead, m_placeOf, m_argument, m_argumentBytes, m_q, m_0, n_c, x_gs]) (by funext j; rw [← h2S]; simp [m_programs, m_cells, m_active, m_prepared, m_arguments, m_used, m_preparedAhead, m_within, m_names, m_marks, m_manyFormals, m_activeTimes, m_data, m_owner, m_rank, m_external, m_first, m_how, m_bytes, m_memory, m_callOf, m_baseOf, m_usedAhead, m_placeOf, m_argument, m_argumentBytes, m_q, m_0, n_c, x_gs]) (by funext j; rw [← h2S]; simp [m_programs, m_cells, m_active, m_prepared, m_arguments, m_used, m_preparedAhead, m_within, m_names, m_marks, m_manyFormals, m_activeTimes, m_data, m_owner, m_rank, m_external, m_first, m_how, m_bytes, m_memory, m_callOf, m_baseOf, m_usedAhead, m_placeOf, m_argument, m_argumentBytes, m_q, m_0, n_c, x_gs]) (by funext j; rw [← h2S]; simp [m_programs, m_cells, m_active, m_prepared, m_arguments, m_used, m_preparedAhead, m_within, m_names, m_marks, m_manyFormals, m_activeTimes, m_data, m_owner, m_rank, m_external, m_first, m_how, m_bytes, m_memory, m_callOf, m_baseOf, m_usedAhead, m_placeOf, m_argument, m_argumentBytes, m_q, m_0, n_c, x_gs]) (fun k hk => by rw [hcc] at hk; rw [eo, er, if_neg (by omega)]; exact ⟨rfl, rfl⟩) (Or.inl (by rw [hcc, eo, if_pos rfl])) (by rw [hcc]; exact em) (by rw [hcc]; exact e17) (by intro k a; rw [← h2S]; simp [m_programs, m_cells, m_active, m_prepared, m_arguments, m_used, m_preparedAhead, m_within, m_names, m_marks, m_manyFormals, m_activeTimes, m_data, m_owner, m_rank, m_external, m_first, m_how, m_bytes, m_memory, m_callOf, m_baseOf, m_usedAhead, m_placeOf, m_argument, m_argumentBytes, m_q, m_0, n_c, x_gs]) (by intro k a; rw [← h2S]; simp [m_programs, m_cells, m_active, m_prepared, m_arguments, m_used, m_preparedAhead, m_within, m_names, m_marks, m_manyFormals, m_activeTimes, m_data, m_owner, m_rank, m_external, m_first, m_how, m_bytes, m_memory, m_callOf, m_baseOf, m_usedAhead, m_placeOf, m_argument, m_argumentBytes, m_q, m_0, n_c, x_gs]) (by intro k a; rw [← h2S]; simp [m_programs, m_cells, m_active, m_prepared, m_arguments, m_used, m_preparedAhead, m_within, m_names, m_marks, m_manyFormals, m_activeTimes, m_data, m_owner, m_rank, m_external, m_first, m_how, m_bytes, m_memory, m_callOf, m_baseOf, m_usedAhead, m_placeOf, m_argument, m_argumentBytes, m_q, m_0, n_c, x_gs]) (by intro k a; rw [← h2S]; simp [m_programs, m_cells, m_active, m_prepared, m_arguments, m_used, m_preparedAhead, m_within, m_names, m_marks, m_manyFormals, m_activeTimes, m_data, m_owner, m_rank, m_external, m_first, m_how, m_bytes, m_memory, m_callOf, m_baseOf, m_usedAhead, m_placeOf, m_argument, m_argumentBytes, m_q, m_0, n_c, x_gs]) (by funext j; rw [← h2S]; simp [m_programs, m_cells, m_active, m_prepared, m_arguments, m_used, m_preparedAhead, m_within, m_names, m_marks, m_manyFormals, m_activeTimes, m_data, m_owner, m_rank, m_external, m_first, m_how, m_bytes, m_memory, m_callOf, m_baseOf, m_usedAhead, m_placeOf, m_argument, m_argumentBytes, m_q, m_0, n_c, x_gs])
          rw [hcc] at this
          exact this
        · have := rA_mono (D_cm hD) hA
          rw [hcc] at this
          rw [r_A, show m_callOf S2 y = m_callOf S y from (by funext j; rw [← h2S]; simp [m_programs, m_cells, m_active, m_prepared, m_arguments, m_used, m_preparedAhead, m_within, m_names, m_marks, m_manyFormals, m_activeTimes, m_data, m_owner, m_rank, m_external, m_first, m_how, m_bytes, m_memory, m_callOf, m_baseOf, m_usedAhead, m_placeOf, m_argument, m_argumentBytes, m_q, m_0, n_c, x_gs]), ← h2S]
          simpa [r_A, m_programs, m_cells, m_active, m_prepared, m_arguments, m_used, m_preparedAhead, m_within, m_names, m_marks, m_manyFormals, m_activeTimes, m_data, m_owner, m_rank, m_external, m_first, m_how, m_bytes, m_memory, m_callOf, m_baseOf, m_usedAhead, m_placeOf, m_argument, m_argumentBytes, m_q, m_0, n_c, x_gs] using this
