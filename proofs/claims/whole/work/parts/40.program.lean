/-! program -/
def P_n (P : Nat → Nat) (n q : Nat) : Nat → Nat := fun i => if i = n + 1 then q else P i
theorem P_no {P : Nat → Nat} {n q i : Nat} (h : i ≤ n) : P_n P n q i = P i := if_neg (by omega)
theorem P_nf {P : Nat → Nat} {n q i : Nat} (h : i ≤ n) : p_f (P_n P n q) i = p_f P i := by unfold p_f; rw [P_no h]
theorem r_wi {S : gs_S} {x y : Nat} {P : Nat → Nat} (h : r_P S x y P) (hn : m_programs S y ≤ 60) (wi : Int32) : (∃ w : Nat, w ≤ m_programs S y ∧ wi = nI w ∧ f_pOf S x wi = p_f P w ∧ (wi = 0 ∨ ¬ f_pOf S x wi = none) ∧ ¬ wi < 0 ∧ ¬ nI (m_programs S y) < wi) ∨ (¬ (wi = 0 ∨ ¬ f_pOf S x wi = none) ∧ (wi < 0 ∨ (¬ wi < 0 ∧ nI (m_programs S y) < wi))) := by
  have e1 : (1 : Int32).toInt = 1 := by decide
  have e0 : (0 : Int32).toInt = 0 := by decide
  by_cases c1 : wi < 0
  · refine Or.inr ⟨fun z => ?_, Or.inl c1⟩
    rcases z with z | z
    · rw [z] at c1; exact absurd c1 (by decide)
    · refine z ?_
      unfold f_pOf
      rw [if_pos (by rw [Int32.lt_iff_toInt_lt] at c1 ⊢; omega)]
  · by_cases c2 : nI (m_programs S y) < wi
    · refine Or.inr ⟨fun z => ?_, Or.inr ⟨c1, c2⟩⟩
      have c3 : ¬ wi < 1 := fun w => by
        have h0 : nI 0 ≤ nI (m_programs S y) := (nI_leI (by decide) (by omega)).mpr (Nat.zero_le _)
        rw [Int32.le_iff_toInt_le, show (nI 0).toInt = 0 by decide] at h0
        rw [Int32.lt_iff_toInt_lt] at c2 w
        omega
      rcases z with z | z
      · rw [z] at c3; exact absurd (by decide) c3
      · refine z ?_
        unfold f_pOf
        rw [if_neg c3, h.1, if_pos c2]
    · obtain ⟨w, hw, rfl⟩ := nI_of c1
      have hwn : w ≤ m_programs S y := by rw [nI_ltI (by omega) hw] at c2; omega
      refine Or.inl ⟨w, hwn, rfl, ?_, ?_, c1, c2⟩
      · rcases r_pOf h hn (nI w) with ⟨a1, a2⟩ | ⟨i, i1, i2, e, a3, a4⟩
        · rw [a2]
          by_cases z : w = 0
          · rw [z]; rfl
          · exfalso
            unfold f_isP at a1
            rw [if_neg (fun q => by rw [show (0 : Int32) = nI 0 from rfl, nI_leI hw (by decide)] at q; omega), if_neg c2] at a1
            exact absurd a1 (by decide)
        · rw [a4]
          have := (nI_eq hw (by omega)).mp e
          subst this
          rw [p_f1 P i1]
      · by_cases z : w = 0
        · left; rw [z]; rfl
        · right
          rcases r_pOf h hn (nI w) with ⟨a1, a2⟩ | ⟨i, i1, i2, e, a3, a4⟩
          · exfalso
            unfold f_isP at a1
            rw [if_neg (fun q => by rw [show (0 : Int32) = nI 0 from rfl, nI_leI hw (by decide)] at q; omega), if_neg c2] at a1
            exact absurd a1 (by decide)
          · rw [a4]; simp
set_option maxHeartbeats 4000000 in
theorem z_prog1 {T : gs_S} {x y t : Nat} {P L : Nat → Nat} {D : Nat → Nat → Option Nat} {N : Nat} {q w : Nat} {nm mk : Int32} (h : r_R T x y t P L D N) (ha : m_active T y = 0) (hw : w ≤ m_programs T y) (hn : m_programs T y < 60) (q1 : g_sh T q = some (.inl 1)) (q2 : g_r T 1 0 q = p_f P w) (q3 : g_r T 1 8 q = none) (q4 : g_i T 1 1 q = nI (m_programs T y + 1)) (q5 : g_i T 1 2 q = nm) (q6 : g_i T 1 3 q = mk) (q7 : g_i T 1 6 q = 0) (q8 : g_i T 1 7 q = 0) (q9 : ∀ i : Nat, 1 ≤ i → i ≤ m_programs T y → ∀ k : Nat, 4 ≤ k → k ≤ 5 → ¬ v_a (g_r T 1 k q) = v_a (g_r T 1 k (P i))) (q10 : ∀ j : Nat, 1 ≤ j → j ≤ m_programs T y → ¬ (m_within T y j = w ∧ m_names T y j = nm)) (hwt : w_t (p_ar (p_i T 2 2 x (nI (m_programs T y + 1))) 0 (v_a (g_r T 2 1 x)) (m_programs T y + 1) (some q))) :
    r_R (p_ai (p_ai (p_ai (p_i (m_0 (p_ar (p_i T 2 2 x (nI (m_programs T y + 1))) 0 (v_a (g_r T 2 1 x)) (m_programs T y + 1) (some q)) y) 3 8 y (nI (m_programs T y + 1))) 10 (m_q T y 2) (m_programs T y + 1) (nI w)) 11 (m_q T y 3) (m_programs T y + 1) nm) 12 (m_q T y 4) (m_programs T y + 1) mk) x y (t + 1) (P_n P (m_programs T y) q) L D N := by
  obtain ⟨⟨h1, h2, h3, h4⟩, hb, hP, hC, hL, hD, hA⟩ := h
  generalize hnn : m_programs T y = n at *
  generalize h2S : p_ai (p_ai (p_ai (p_i (m_0 (p_ar (p_i T 2 2 x (nI (n + 1))) 0 (v_a (g_r T 2 1 x)) (n + 1) (some q)) y) 3 8 y (nI (n + 1))) 10 (m_q T y 2) (n + 1) (nI w)) 11 (m_q T y 3) (n + 1) nm) 12 (m_q T y 4) (n + 1) mk = S2
  have eP : m_programs S2 y = n + 1 := by rw [← h2S]; simp [m_programs, m_cells, m_active, m_prepared, m_arguments, m_used, m_preparedAhead, m_within, m_names, m_marks, m_manyFormals, m_activeTimes, m_data, m_owner, m_rank, m_external, m_first, m_how, m_bytes, m_memory, m_callOf, m_baseOf, m_usedAhead, m_placeOf, m_argument, m_argumentBytes, m_q, m_0, x_gs, nI_clamp (show n + 1 < 2 ^ 31 by omega)]
  have eac : m_active S2 y = m_active T y := (by rw [← h2S]; simp [m_programs, m_cells, m_active, m_prepared, m_arguments, m_used, m_preparedAhead, m_within, m_names, m_marks, m_manyFormals, m_activeTimes, m_data, m_owner, m_rank, m_external, m_first, m_how, m_bytes, m_memory, m_callOf, m_baseOf, m_usedAhead, m_placeOf, m_argument, m_argumentBytes, m_q, m_0, x_gs])
  have ew : ∀ k : Nat, m_within S2 y k = if k = n + 1 then w else m_within T y k := fun k => by
    rw [← h2S]
    by_cases z : k = n + 1
    · rw [if_pos z, z]; simp [m_programs, m_cells, m_active, m_prepared, m_arguments, m_used, m_preparedAhead, m_within, m_names, m_marks, m_manyFormals, m_activeTimes, m_data, m_owner, m_rank, m_external, m_first, m_how, m_bytes, m_memory, m_callOf, m_baseOf, m_usedAhead, m_placeOf, m_argument, m_argumentBytes, m_q, m_0, x_gs, nI_clamp (show w < 2 ^ 31 by omega)]
    · rw [if_neg z]; simp [m_programs, m_cells, m_active, m_prepared, m_arguments, m_used, m_preparedAhead, m_within, m_names, m_marks, m_manyFormals, m_activeTimes, m_data, m_owner, m_rank, m_external, m_first, m_how, m_bytes, m_memory, m_callOf, m_baseOf, m_usedAhead, m_placeOf, m_argument, m_argumentBytes, m_q, m_0, x_gs, z]
  have en : ∀ k : Nat, m_names S2 y k = if k = n + 1 then nm else m_names T y k := fun k => by
    rw [← h2S]
    by_cases z : k = n + 1
    · rw [if_pos z, z]; simp [m_programs, m_cells, m_active, m_prepared, m_arguments, m_used, m_preparedAhead, m_within, m_names, m_marks, m_manyFormals, m_activeTimes, m_data, m_owner, m_rank, m_external, m_first, m_how, m_bytes, m_memory, m_callOf, m_baseOf, m_usedAhead, m_placeOf, m_argument, m_argumentBytes, m_q, m_0, x_gs]
    · rw [if_neg z]; simp [m_programs, m_cells, m_active, m_prepared, m_arguments, m_used, m_preparedAhead, m_within, m_names, m_marks, m_manyFormals, m_activeTimes, m_data, m_owner, m_rank, m_external, m_first, m_how, m_bytes, m_memory, m_callOf, m_baseOf, m_usedAhead, m_placeOf, m_argument, m_argumentBytes, m_q, m_0, x_gs, z]
  have emk : ∀ k : Nat, m_marks S2 y k = if k = n + 1 then mk else m_marks T y k := fun k => by
    rw [← h2S]
    by_cases z : k = n + 1
    · rw [if_pos z, z]; simp [m_programs, m_cells, m_active, m_prepared, m_arguments, m_used, m_preparedAhead, m_within, m_names, m_marks, m_manyFormals, m_activeTimes, m_data, m_owner, m_rank, m_external, m_first, m_how, m_bytes, m_memory, m_callOf, m_baseOf, m_usedAhead, m_placeOf, m_argument, m_argumentBytes, m_q, m_0, x_gs]
    · rw [if_neg z]; simp [m_programs, m_cells, m_active, m_prepared, m_arguments, m_used, m_preparedAhead, m_within, m_names, m_marks, m_manyFormals, m_activeTimes, m_data, m_owner, m_rank, m_external, m_first, m_how, m_bytes, m_memory, m_callOf, m_baseOf, m_usedAhead, m_placeOf, m_argument, m_argumentBytes, m_q, m_0, x_gs, z]
  have gr : ∀ c k a : Nat, g_r S2 c k a = g_r T c k a := fun c k a => (by rw [← h2S]; simp [m_programs, m_cells, m_active, m_prepared, m_arguments, m_used, m_preparedAhead, m_within, m_names, m_marks, m_manyFormals, m_activeTimes, m_data, m_owner, m_rank, m_external, m_first, m_how, m_bytes, m_memory, m_callOf, m_baseOf, m_usedAhead, m_placeOf, m_argument, m_argumentBytes, m_q, m_0, x_gs])
  have gi : ∀ k a : Nat, g_i S2 1 k a = g_i T 1 k a := fun k a => (by rw [← h2S]; simp [m_programs, m_cells, m_active, m_prepared, m_arguments, m_used, m_preparedAhead, m_within, m_names, m_marks, m_manyFormals, m_activeTimes, m_data, m_owner, m_rank, m_external, m_first, m_how, m_bytes, m_memory, m_callOf, m_baseOf, m_usedAhead, m_placeOf, m_argument, m_argumentBytes, m_q, m_0, x_gs])
  have eT : m_manyFormals S2 y = m_manyFormals T y := (by funext j; rw [← h2S]; simp [m_programs, m_cells, m_active, m_prepared, m_arguments, m_used, m_preparedAhead, m_within, m_names, m_marks, m_manyFormals, m_activeTimes, m_data, m_owner, m_rank, m_external, m_first, m_how, m_bytes, m_memory, m_callOf, m_baseOf, m_usedAhead, m_placeOf, m_argument, m_argumentBytes, m_q, m_0, x_gs])
  have eH : m_how S2 y = m_how T y := (by funext j; rw [← h2S]; simp [m_programs, m_cells, m_active, m_prepared, m_arguments, m_used, m_preparedAhead, m_within, m_names, m_marks, m_manyFormals, m_activeTimes, m_data, m_owner, m_rank, m_external, m_first, m_how, m_bytes, m_memory, m_callOf, m_baseOf, m_usedAhead, m_placeOf, m_argument, m_argumentBytes, m_q, m_0, x_gs])
  have eB : m_bytes S2 y = m_bytes T y := (by funext j; rw [← h2S]; simp [m_programs, m_cells, m_active, m_prepared, m_arguments, m_used, m_preparedAhead, m_within, m_names, m_marks, m_manyFormals, m_activeTimes, m_data, m_owner, m_rank, m_external, m_first, m_how, m_bytes, m_memory, m_callOf, m_baseOf, m_usedAhead, m_placeOf, m_argument, m_argumentBytes, m_q, m_0, x_gs])
  have eco : m_callOf S2 y = m_callOf T y := (by funext j; rw [← h2S]; simp [m_programs, m_cells, m_active, m_prepared, m_arguments, m_used, m_preparedAhead, m_within, m_names, m_marks, m_manyFormals, m_activeTimes, m_data, m_owner, m_rank, m_external, m_first, m_how, m_bytes, m_memory, m_callOf, m_baseOf, m_usedAhead, m_placeOf, m_argument, m_argumentBytes, m_q, m_0, x_gs])
  have g0 : ∀ k : Nat, g_ar S2 0 (v_a (g_r T 2 1 x)) k = if k = n + 1 then some q else g_ar T 0 (v_a (g_r T 2 1 x)) k := fun k => by
    rw [← h2S]
    by_cases z : k = n + 1
    · rw [if_pos z, z]; simp [m_programs, m_cells, m_active, m_prepared, m_arguments, m_used, m_preparedAhead, m_within, m_names, m_marks, m_manyFormals, m_activeTimes, m_data, m_owner, m_rank, m_external, m_first, m_how, m_bytes, m_memory, m_callOf, m_baseOf, m_usedAhead, m_placeOf, m_argument, m_argumentBytes, m_q, m_0, x_gs]
    · rw [if_neg z]; simp [m_programs, m_cells, m_active, m_prepared, m_arguments, m_used, m_preparedAhead, m_within, m_names, m_marks, m_manyFormals, m_activeTimes, m_data, m_owner, m_rank, m_external, m_first, m_how, m_bytes, m_memory, m_callOf, m_baseOf, m_usedAhead, m_placeOf, m_argument, m_argumentBytes, m_q, m_0, x_gs, z]
  have hz := hC.2.2.2 (n + 1) (by omega) (by omega)
  refine ⟨⟨?_, ?_, ?_, ?_⟩, ?_, ?_, ?_, ?_, ?_, ?_⟩
  · rw [← h2S]; exact wt_pai (wt_pai (wt_pai (wt_pi0 (wt_pi0 hwt (by decide)) (by decide)) (fun z => absurd z (by decide))) (fun z => absurd z (by decide))) (fun z => absurd z (by decide))
  · rw [← h2S]; exact mt_pai (mt_pai (mt_pai (mt_programs (mt_pi0 (mt_par (mt_pi h2 (fun z => absurd z (by decide)))) (by decide)) (by omega)) (fun _ => ⟨w, rfl, by omega, by omega⟩)) (fun _ => True.intro)) (fun _ => True.intro)
  · rw [← h2S]; simpa [m_programs, m_cells, m_active, m_prepared, m_arguments, m_used, m_preparedAhead, m_within, m_names, m_marks, m_manyFormals, m_activeTimes, m_data, m_owner, m_rank, m_external, m_first, m_how, m_bytes, m_memory, m_callOf, m_baseOf, m_usedAhead, m_placeOf, m_argument, m_argumentBytes, m_q, m_0, x_gs] using h3
  · rw [← h2S]; simpa [m_programs, m_cells, m_active, m_prepared, m_arguments, m_used, m_preparedAhead, m_within, m_names, m_marks, m_manyFormals, m_activeTimes, m_data, m_owner, m_rank, m_external, m_first, m_how, m_bytes, m_memory, m_callOf, m_baseOf, m_usedAhead, m_placeOf, m_argument, m_argumentBytes, m_q, m_0, x_gs] using h4
  · rw [eac, show m_cells S2 y = m_cells T y from (by rw [← h2S]; simp [m_programs, m_cells, m_active, m_prepared, m_arguments, m_used, m_preparedAhead, m_within, m_names, m_marks, m_manyFormals, m_activeTimes, m_data, m_owner, m_rank, m_external, m_first, m_how, m_bytes, m_memory, m_callOf, m_baseOf, m_usedAhead, m_placeOf, m_argument, m_argumentBytes, m_q, m_0, x_gs]), show m_prepared S2 y = m_prepared T y from (by rw [← h2S]; simp [m_programs, m_cells, m_active, m_prepared, m_arguments, m_used, m_preparedAhead, m_within, m_names, m_marks, m_manyFormals, m_activeTimes, m_data, m_owner, m_rank, m_external, m_first, m_how, m_bytes, m_memory, m_callOf, m_baseOf, m_usedAhead, m_placeOf, m_argument, m_argumentBytes, m_q, m_0, x_gs])]; omega
  · refine ⟨by rw [eP]; rw [← h2S]; simp [m_programs, m_cells, m_active, m_prepared, m_arguments, m_used, m_preparedAhead, m_within, m_names, m_marks, m_manyFormals, m_activeTimes, m_data, m_owner, m_rank, m_external, m_first, m_how, m_bytes, m_memory, m_callOf, m_baseOf, m_usedAhead, m_placeOf, m_argument, m_argumentBytes, m_q, m_0, x_gs], fun i j i1 i2 j1 j2 u => ?_, fun i i1 i2 => ?_⟩
    · rw [eP] at i2 j2
      rw [ew, ew, en, en] at u
      by_cases zi : i = n + 1
      · by_cases zj : j = n + 1
        · omega
        · exfalso
          rw [if_pos zi, if_pos zi, if_neg zj, if_neg zj] at u
          rcases u with u | ⟨k, k1, k2, u⟩
          · exact q10 j j1 (by omega) ⟨u.1.symm, u.2.symm⟩
          · rw [gr, gr, zi, P_no (show j ≤ n by omega), show P_n P n q (n + 1) = q from if_pos rfl] at u
            exact q9 j j1 (by omega) k k1 k2 u
      · by_cases zj : j = n + 1
        · exfalso
          rw [if_neg zi, if_neg zi, if_pos zj, if_pos zj] at u
          rcases u with u | ⟨k, k1, k2, u⟩
          · exact q10 i i1 (by omega) u
          · rw [gr, gr, zj, P_no (show i ≤ n by omega), show P_n P n q (n + 1) = q from if_pos rfl] at u
            exact q9 i i1 (by omega) k k1 k2 u.symm
        · rw [if_neg zi, if_neg zi, if_neg zj, if_neg zj, P_no (show i ≤ n by omega), P_no (show j ≤ n by omega)] at u
          simp only [gr] at u
          exact hP.2.1 i j i1 (by omega) j1 (by omega) u
    · rw [eP] at i2
      rw [gr 2 1 x, g0, ew, en, emk, eT, eH, eB, gi, gi, gi, gi, gr, gr, gr]
      by_cases zi : i = n + 1
      · rw [if_pos zi, if_pos zi, if_pos zi, if_pos zi, zi, show P_n P n q (n + 1) = q from if_pos rfl, P_nf hw, q4, q5, q6, q7, hz.2.2]
        exact ⟨rfl, by rw [← h2S]; simpa [m_programs, m_cells, m_active, m_prepared, m_arguments, m_used, m_preparedAhead, m_within, m_names, m_marks, m_manyFormals, m_activeTimes, m_data, m_owner, m_rank, m_external, m_first, m_how, m_bytes, m_memory, m_callOf, m_baseOf, m_usedAhead, m_placeOf, m_argument, m_argumentBytes, m_q, m_0, x_gs] using q1, rfl, by omega, q2, rfl, rfl, rfl, fun j hj => by omega⟩
      · rw [if_neg zi, if_neg zi, if_neg zi, if_neg zi, P_no (show i ≤ n by omega)]
        obtain ⟨u1, u2, u3, u4, u5, u6, u7, u8, u9⟩ := hP.2.2 i i1 (by omega)
        rw [P_nf (show m_within T y i ≤ n by omega)]
        refine ⟨u1, by rw [← h2S]; simpa [m_programs, m_cells, m_active, m_prepared, m_arguments, m_used, m_preparedAhead, m_within, m_names, m_marks, m_manyFormals, m_activeTimes, m_data, m_owner, m_rank, m_external, m_first, m_how, m_bytes, m_memory, m_callOf, m_baseOf, m_usedAhead, m_placeOf, m_argument, m_argumentBytes, m_q, m_0, x_gs] using u2, u3, u4, u5, u6, u7, u8, fun j hj => ?_⟩
        rw [show g_ai S2 4 (v_a (g_r T 1 4 (P i))) j = g_ai T 4 (v_a (g_r T 1 4 (P i))) j from (by rw [← h2S]; simp [m_programs, m_cells, m_active, m_prepared, m_arguments, m_used, m_preparedAhead, m_within, m_names, m_marks, m_manyFormals, m_activeTimes, m_data, m_owner, m_rank, m_external, m_first, m_how, m_bytes, m_memory, m_callOf, m_baseOf, m_usedAhead, m_placeOf, m_argument, m_argumentBytes, m_q, m_0, x_gs]), show g_ai S2 5 (v_a (g_r T 1 5 (P i))) j = g_ai T 5 (v_a (g_r T 1 5 (P i))) j from (by rw [← h2S]; simp [m_programs, m_cells, m_active, m_prepared, m_arguments, m_used, m_preparedAhead, m_within, m_names, m_marks, m_manyFormals, m_activeTimes, m_data, m_owner, m_rank, m_external, m_first, m_how, m_bytes, m_memory, m_callOf, m_baseOf, m_usedAhead, m_placeOf, m_argument, m_argumentBytes, m_q, m_0, x_gs])]
        exact u9 j hj
  · have eow : m_owner S2 y = m_owner T y := (by funext j; rw [← h2S]; simp [m_programs, m_cells, m_active, m_prepared, m_arguments, m_used, m_preparedAhead, m_within, m_names, m_marks, m_manyFormals, m_activeTimes, m_data, m_owner, m_rank, m_external, m_first, m_how, m_bytes, m_memory, m_callOf, m_baseOf, m_usedAhead, m_placeOf, m_argument, m_argumentBytes, m_q, m_0, x_gs])
    have ecl : m_cells S2 y = m_cells T y := (by rw [← h2S]; simp [m_programs, m_cells, m_active, m_prepared, m_arguments, m_used, m_preparedAhead, m_within, m_names, m_marks, m_manyFormals, m_activeTimes, m_data, m_owner, m_rank, m_external, m_first, m_how, m_bytes, m_memory, m_callOf, m_baseOf, m_usedAhead, m_placeOf, m_argument, m_argumentBytes, m_q, m_0, x_gs])
    refine ⟨by rw [ecl]; rw [← h2S]; simpa [m_programs, m_cells, m_active, m_prepared, m_arguments, m_used, m_preparedAhead, m_within, m_names, m_marks, m_manyFormals, m_activeTimes, m_data, m_owner, m_rank, m_external, m_first, m_how, m_bytes, m_memory, m_callOf, m_baseOf, m_usedAhead, m_placeOf, m_argument, m_argumentBytes, m_q, m_0, x_gs] using hC.1, fun k hk => ?_, fun m hm => ?_, fun k k1 k2 => ?_⟩
    · rw [ecl] at hk
      obtain ⟨o1, o2, o3⟩ := hC.2.1 k hk
      rw [eow, P_nf (show m_owner T y k ≤ n by omega), eP, gr, gr]
      refine ⟨by omega, by rw [← h2S]; simpa [m_programs, m_cells, m_active, m_prepared, m_arguments, m_used, m_preparedAhead, m_within, m_names, m_marks, m_manyFormals, m_activeTimes, m_data, m_owner, m_rank, m_external, m_first, m_how, m_bytes, m_memory, m_callOf, m_baseOf, m_usedAhead, m_placeOf, m_argument, m_argumentBytes, m_q, m_0, x_gs] using o2, fun z => ?_⟩
      rw [show g_al S2 2 (v_a (g_r T 2 4 x)) k = g_al T 2 (v_a (g_r T 2 4 x)) k from (by rw [← h2S]; simp [m_programs, m_cells, m_active, m_prepared, m_arguments, m_used, m_preparedAhead, m_within, m_names, m_marks, m_manyFormals, m_activeTimes, m_data, m_owner, m_rank, m_external, m_first, m_how, m_bytes, m_memory, m_callOf, m_baseOf, m_usedAhead, m_placeOf, m_argument, m_argumentBytes, m_q, m_0, x_gs]), show m_first S2 y k = m_first T y k from (by rw [← h2S]; simp [m_programs, m_cells, m_active, m_prepared, m_arguments, m_used, m_preparedAhead, m_within, m_names, m_marks, m_manyFormals, m_activeTimes, m_data, m_owner, m_rank, m_external, m_first, m_how, m_bytes, m_memory, m_callOf, m_baseOf, m_usedAhead, m_placeOf, m_argument, m_argumentBytes, m_q, m_0, x_gs]), show m_rank S2 y k = m_rank T y k from (by rw [← h2S]; simp [m_programs, m_cells, m_active, m_prepared, m_arguments, m_used, m_preparedAhead, m_within, m_names, m_marks, m_manyFormals, m_activeTimes, m_data, m_owner, m_rank, m_external, m_first, m_how, m_bytes, m_memory, m_callOf, m_baseOf, m_usedAhead, m_placeOf, m_argument, m_argumentBytes, m_q, m_0, x_gs])]
      exact o3 z
    · rw [ecl, eow, show m_external S2 y = m_external T y from (by funext j; rw [← h2S]; simp [m_programs, m_cells, m_active, m_prepared, m_arguments, m_used, m_preparedAhead, m_within, m_names, m_marks, m_manyFormals, m_activeTimes, m_data, m_owner, m_rank, m_external, m_first, m_how, m_bytes, m_memory, m_callOf, m_baseOf, m_usedAhead, m_placeOf, m_argument, m_argumentBytes, m_q, m_0, x_gs]), gr, show g_ai S2 3 (v_a (g_r T 2 6 x)) m = g_ai T 3 (v_a (g_r T 2 6 x)) m from (by rw [← h2S]; simp [m_programs, m_cells, m_active, m_prepared, m_arguments, m_used, m_preparedAhead, m_within, m_names, m_marks, m_manyFormals, m_activeTimes, m_data, m_owner, m_rank, m_external, m_first, m_how, m_bytes, m_memory, m_callOf, m_baseOf, m_usedAhead, m_placeOf, m_argument, m_argumentBytes, m_q, m_0, x_gs])]
      exact hC.2.2.1 m hm
    · rw [eP] at k1
      rw [eT, show m_activeTimes S2 y k = m_activeTimes T y k from (by rw [← h2S]; simp [m_programs, m_cells, m_active, m_prepared, m_arguments, m_used, m_preparedAhead, m_within, m_names, m_marks, m_manyFormals, m_activeTimes, m_data, m_owner, m_rank, m_external, m_first, m_how, m_bytes, m_memory, m_callOf, m_baseOf, m_usedAhead, m_placeOf, m_argument, m_argumentBytes, m_q, m_0, x_gs]), show m_data S2 y k = m_data T y k from (by rw [← h2S]; simp [m_programs, m_cells, m_active, m_prepared, m_arguments, m_used, m_preparedAhead, m_within, m_names, m_marks, m_manyFormals, m_activeTimes, m_data, m_owner, m_rank, m_external, m_first, m_how, m_bytes, m_memory, m_callOf, m_baseOf, m_usedAhead, m_placeOf, m_argument, m_argumentBytes, m_q, m_0, x_gs])]
      exact hC.2.2.2 k (by omega) k2
  · obtain ⟨l1, l2, l3, l4, l5, l5', l6, l7, l8, l9, l10, l11, l12⟩ := id hL
    unfold r_L
    rw [eac, eco, eP]
    simp only [gr]
    refine ⟨l1, l2, by rw [← h2S]; simpa [m_programs, m_cells, m_active, m_prepared, m_arguments, m_used, m_preparedAhead, m_within, m_names, m_marks, m_manyFormals, m_activeTimes, m_data, m_owner, m_rank, m_external, m_first, m_how, m_bytes, m_memory, m_callOf, m_baseOf, m_usedAhead, m_placeOf, m_argument, m_argumentBytes, m_q, m_0, x_gs] using l3, l4, by rw [← h2S]; simpa [m_programs, m_cells, m_active, m_prepared, m_arguments, m_used, m_preparedAhead, m_within, m_names, m_marks, m_manyFormals, m_activeTimes, m_data, m_owner, m_rank, m_external, m_first, m_how, m_bytes, m_memory, m_callOf, m_baseOf, m_usedAhead, m_placeOf, m_argument, m_argumentBytes, m_q, m_0, x_gs] using l5, by rw [← h2S]; simpa [m_programs, m_cells, m_active, m_prepared, m_arguments, m_used, m_preparedAhead, m_within, m_names, m_marks, m_manyFormals, m_activeTimes, m_data, m_owner, m_rank, m_external, m_first, m_how, m_bytes, m_memory, m_callOf, m_baseOf, m_usedAhead, m_placeOf, m_argument, m_argumentBytes, m_q, m_0, x_gs] using l5', fun j hj => by rw [← h2S]; simpa [m_programs, m_cells, m_active, m_prepared, m_arguments, m_used, m_preparedAhead, m_within, m_names, m_marks, m_manyFormals, m_activeTimes, m_data, m_owner, m_rank, m_external, m_first, m_how, m_bytes, m_memory, m_callOf, m_baseOf, m_usedAhead, m_placeOf, m_argument, m_argumentBytes, m_q, m_0, x_gs] using l6 j hj, l7, l8, l9, l10, fun j hj => by omega, fun i i1 i2 => ?_⟩
    rw [emk, show m_activeTimes S2 y i = m_activeTimes T y i from (by rw [← h2S]; simp [m_programs, m_cells, m_active, m_prepared, m_arguments, m_used, m_preparedAhead, m_within, m_names, m_marks, m_manyFormals, m_activeTimes, m_data, m_owner, m_rank, m_external, m_first, m_how, m_bytes, m_memory, m_callOf, m_baseOf, m_usedAhead, m_placeOf, m_argument, m_argumentBytes, m_q, m_0, x_gs]), show m_data S2 y i = m_data T y i from (by rw [← h2S]; simp [m_programs, m_cells, m_active, m_prepared, m_arguments, m_used, m_preparedAhead, m_within, m_names, m_marks, m_manyFormals, m_activeTimes, m_data, m_owner, m_rank, m_external, m_first, m_how, m_bytes, m_memory, m_callOf, m_baseOf, m_usedAhead, m_placeOf, m_argument, m_argumentBytes, m_q, m_0, x_gs]), gi]
    by_cases zi : i = n + 1
    · rw [if_pos zi, zi, show P_n P n q (n + 1) = q from if_pos rfl, q3, q8, hz.1, hz.2.1, ha]
      exact ⟨rfl, rfl, fun _ => rfl, fun _ => ⟨Nat.zero_le _, fun z => absurd rfl z⟩⟩
    · rw [if_neg zi, P_no (show i ≤ n by omega)]
      exact l12 i i1 (by omega)
  · obtain ⟨k1, k2, k3, k4, k5, k6, k7, k8, k9⟩ := id hD
    have eU : ∀ j : Nat, r_U S2 y j = r_U T y j := fun j => by
      rw [← h2S]; simp [r_U, m_programs, m_cells, m_active, m_prepared, m_arguments, m_used, m_preparedAhead, m_within, m_names, m_marks, m_manyFormals, m_activeTimes, m_data, m_owner, m_rank, m_external, m_first, m_how, m_bytes, m_memory, m_callOf, m_baseOf, m_usedAhead, m_placeOf, m_argument, m_argumentBytes, m_q, m_0, x_gs]
    refine ⟨fun q => by rw [show m_cells S2 y = m_cells T y from (by rw [← h2S]; simp [m_programs, m_cells, m_active, m_prepared, m_arguments, m_used, m_preparedAhead, m_within, m_names, m_marks, m_manyFormals, m_activeTimes, m_data, m_owner, m_rank, m_external, m_first, m_how, m_bytes, m_memory, m_callOf, m_baseOf, m_usedAhead, m_placeOf, m_argument, m_argumentBytes, m_q, m_0, x_gs])]; exact k1 q, fun h q d w1 w2 => by rw [eac, eU, eU, show m_prepared S2 y = m_prepared T y from (by rw [← h2S]; simp [m_programs, m_cells, m_active, m_prepared, m_arguments, m_used, m_preparedAhead, m_within, m_names, m_marks, m_manyFormals, m_activeTimes, m_data, m_owner, m_rank, m_external, m_first, m_how, m_bytes, m_memory, m_callOf, m_baseOf, m_usedAhead, m_placeOf, m_argument, m_argumentBytes, m_q, m_0, x_gs])]; exact k2 h q d w1 w2, k3, by rw [← h2S]; simpa [m_programs, m_cells, m_active, m_prepared, m_arguments, m_used, m_preparedAhead, m_within, m_names, m_marks, m_manyFormals, m_activeTimes, m_data, m_owner, m_rank, m_external, m_first, m_how, m_bytes, m_memory, m_callOf, m_baseOf, m_usedAhead, m_placeOf, m_argument, m_argumentBytes, m_q, m_0, x_gs] using k4, by rw [eU]; exact k5, fun j hj => ?_, ?_, fun j hj => by rw [eac] at hj; omega, fun j hj => by rw [eac] at hj; omega⟩
    · rw [eU, eU, show m_cells S2 y = m_cells T y from (by rw [← h2S]; simp [m_programs, m_cells, m_active, m_prepared, m_arguments, m_used, m_preparedAhead, m_within, m_names, m_marks, m_manyFormals, m_activeTimes, m_data, m_owner, m_rank, m_external, m_first, m_how, m_bytes, m_memory, m_callOf, m_baseOf, m_usedAhead, m_placeOf, m_argument, m_argumentBytes, m_q, m_0, x_gs])]; rw [eac] at hj; exact k6 j hj
    · rw [eU, eac, show m_used S2 y = m_used T y from (by rw [← h2S]; simp [m_programs, m_cells, m_active, m_prepared, m_arguments, m_used, m_preparedAhead, m_within, m_names, m_marks, m_manyFormals, m_activeTimes, m_data, m_owner, m_rank, m_external, m_first, m_how, m_bytes, m_memory, m_callOf, m_baseOf, m_usedAhead, m_placeOf, m_argument, m_argumentBytes, m_q, m_0, x_gs]), show m_arguments S2 y = m_arguments T y from (by rw [← h2S]; simp [m_programs, m_cells, m_active, m_prepared, m_arguments, m_used, m_preparedAhead, m_within, m_names, m_marks, m_manyFormals, m_activeTimes, m_data, m_owner, m_rank, m_external, m_first, m_how, m_bytes, m_memory, m_callOf, m_baseOf, m_usedAhead, m_placeOf, m_argument, m_argumentBytes, m_q, m_0, x_gs])]; exact k7
  · unfold r_A
    rw [eac, eco, eP, show m_prepared S2 y = m_prepared T y from (by rw [← h2S]; simp [m_programs, m_cells, m_active, m_prepared, m_arguments, m_used, m_preparedAhead, m_within, m_names, m_marks, m_manyFormals, m_activeTimes, m_data, m_owner, m_rank, m_external, m_first, m_how, m_bytes, m_memory, m_callOf, m_baseOf, m_usedAhead, m_placeOf, m_argument, m_argumentBytes, m_q, m_0, x_gs]), show m_arguments S2 y = m_arguments T y from (by rw [← h2S]; simp [m_programs, m_cells, m_active, m_prepared, m_arguments, m_used, m_preparedAhead, m_within, m_names, m_marks, m_manyFormals, m_activeTimes, m_data, m_owner, m_rank, m_external, m_first, m_how, m_bytes, m_memory, m_callOf, m_baseOf, m_usedAhead, m_placeOf, m_argument, m_argumentBytes, m_q, m_0, x_gs]), show m_argument S2 y = m_argument T y from (by funext j; rw [← h2S]; simp [m_programs, m_cells, m_active, m_prepared, m_arguments, m_used, m_preparedAhead, m_within, m_names, m_marks, m_manyFormals, m_activeTimes, m_data, m_owner, m_rank, m_external, m_first, m_how, m_bytes, m_memory, m_callOf, m_baseOf, m_usedAhead, m_placeOf, m_argument, m_argumentBytes, m_q, m_0, x_gs]), show m_argumentBytes S2 y = m_argumentBytes T y from (by funext j; rw [← h2S]; simp [m_programs, m_cells, m_active, m_prepared, m_arguments, m_used, m_preparedAhead, m_within, m_names, m_marks, m_manyFormals, m_activeTimes, m_data, m_owner, m_rank, m_external, m_first, m_how, m_bytes, m_memory, m_callOf, m_baseOf, m_usedAhead, m_placeOf, m_argument, m_argumentBytes, m_q, m_0, x_gs])]
    simp only [gr]
    rcases hA with hA | ⟨a1, a2, a3, a4, a5, a6, a7, a8⟩
    · exact Or.inl hA
    · refine Or.inr ⟨a1, by omega, a3, a4, ?_, by rw [← h2S]; simpa [m_programs, m_cells, m_active, m_prepared, m_arguments, m_used, m_preparedAhead, m_within, m_names, m_marks, m_manyFormals, m_activeTimes, m_data, m_owner, m_rank, m_external, m_first, m_how, m_bytes, m_memory, m_callOf, m_baseOf, m_usedAhead, m_placeOf, m_argument, m_argumentBytes, m_q, m_0, x_gs] using a6, ?_, ?_⟩
      · rw [P_no (show m_prepared T y ≤ n by omega)]; exact a5
      · rw [emk, if_neg (by omega)]; exact a7
      · intro i hi
        have := a8 i hi
        rw [← h2S]
        simpa [x_gs, m_0] using this
