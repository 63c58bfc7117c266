def m_E8 (U S : gs_S) (y : Nat) : Prop := m_programs U y = m_programs S y ∧ m_within U y = m_within S y ∧ m_names U y = m_names S y ∧ m_marks U y = m_marks S y ∧ m_active U y = m_active S y ∧ m_callOf U y = m_callOf S y ∧ m_activeTimes U y = m_activeTimes S y ∧ g_i U 3 1 y = g_i S 3 1 y
theorem caM_e {S U : gs_S} {y : Nat} (h : m_E8 U S y) (fr nm : Int32) {p : Nat} (hp : f_fi S y (f_runM S y) nm = p) : f_caM U y fr nm = if f_isF S y fr nm = 0 then (-2, U) else if p = 0 then (-3, U) else if m_activeTimes S y p ≤ 0 then (if nI (m_active S y) < g_i S 3 1 y then (nI p, p_i (p_i U 3 23 y (nI p)) 3 25 y (nI (m_used U y))) else (-6, U)) else if f_is S y p 4 = 0 then (-5, U) else (if nI (m_active S y) < g_i S 3 1 y then (nI p, p_i (p_i U 3 23 y (nI p)) 3 25 y (nI (m_used U y))) else (-6, U)) := by
  obtain ⟨e0, e1, e2, e3, e4, e5, e6, e7⟩ := h
  unfold f_caM f_caD f_isF
  rw [runM_c e4 e5, fi_c e0 e1 e2 e3, hp, e6, is_c e3, e4, e7]
theorem i32_le {a b : Int32} : ¬ a ≤ b ↔ b < a := by
  rw [Int32.le_iff_toInt_le, Int32.lt_iff_toInt_lt]; omega
set_option maxHeartbeats 4000000 in
theorem z_call {S : gs_S} {x y t : Nat} {P L : Nat → Nat} {D : Nat → Nat → Option Nat} {N : Nat} (h : r_R S x y t P L D N) (ht : t < 512) {fr nm r : Int32} {S1 : gs_S} (hq : q_call S x fr nm r S1) : r = (f_caM (f_un (m_0 S1 y) y) y fr nm).1 ∧ r_X (f_caM (f_un (m_0 S1 y) y) y fr nm).2 x y (t + 1) := by
  have hr := h
  obtain ⟨⟨h1, h2, h3, h4⟩, hb, hP, hC, hL, hD, hA⟩ := h
  have hn := b_programs h2 h4
  have ha : m_active S y ≤ 255 := by split at hb <;> omega
  have hPT : r_P (p_r S 2 10 x none) x y P := by simpa [r_P, m_programs, m_cells, m_active, m_prepared, m_arguments, m_used, m_preparedAhead, m_within, m_names, m_marks, m_manyFormals, m_activeTimes, m_data, m_owner, m_rank, m_external, m_first, m_how, m_bytes, m_memory, m_callOf, m_baseOf, m_usedAhead, m_placeOf, m_argument, m_argumentBytes, m_q, m_0, f_begin, x_gs, un_i, un_r, un_l, un_ai, un_al, un_ar, un_sh, nul_i, nul_r, nul_l, nul_ai, nul_al, nul_ar, nul_sh] using hP
  have hLT : r_L (p_r S 2 10 x none) x y P L N := by
    rw [r_L, show m_callOf (p_r S 2 10 x none) y = m_callOf S y from by funext j; simp [m_programs, m_cells, m_active, m_prepared, m_arguments, m_used, m_preparedAhead, m_within, m_names, m_marks, m_manyFormals, m_activeTimes, m_data, m_owner, m_rank, m_external, m_first, m_how, m_bytes, m_memory, m_callOf, m_baseOf, m_usedAhead, m_placeOf, m_argument, m_argumentBytes, m_q, m_0, f_begin, x_gs, un_i, un_r, un_l, un_ai, un_al, un_ar, un_sh, nul_i, nul_r, nul_l, nul_ai, nul_al, nul_ar, nul_sh]]; simpa [r_L, m_programs, m_cells, m_active, m_prepared, m_arguments, m_used, m_preparedAhead, m_within, m_names, m_marks, m_manyFormals, m_activeTimes, m_data, m_owner, m_rank, m_external, m_first, m_how, m_bytes, m_memory, m_callOf, m_baseOf, m_usedAhead, m_placeOf, m_argument, m_argumentBytes, m_q, m_0, f_begin, x_gs, un_i, un_r, un_l, un_ai, un_al, un_ar, un_sh, nul_i, nul_r, nul_l, nul_ai, nul_al, nul_ar, nul_sh] using hL
  have hMT : m_t (p_r S 2 10 x none) := mt_pr h2 (by decide)
  have hYT : g_sh (p_r S 2 10 x none) y = some (.inl 3) := h4
  obtain ⟨t1, t2, t3⟩ := r_run hLT
  have eP : m_programs (p_r S 2 10 x none) y = m_programs S y := by simp [m_programs, m_cells, m_active, m_prepared, m_arguments, m_used, m_preparedAhead, m_within, m_names, m_marks, m_manyFormals, m_activeTimes, m_data, m_owner, m_rank, m_external, m_first, m_how, m_bytes, m_memory, m_callOf, m_baseOf, m_usedAhead, m_placeOf, m_argument, m_argumentBytes, m_q, m_0, f_begin, x_gs, un_i, un_r, un_l, un_ai, un_al, un_ar, un_sh, nul_i, nul_r, nul_l, nul_ai, nul_al, nul_ar, nul_sh]
  have erun : f_runM (p_r S 2 10 x none) y = f_runM S y := runM_c (by simp [m_programs, m_cells, m_active, m_prepared, m_arguments, m_used, m_preparedAhead, m_within, m_names, m_marks, m_manyFormals, m_activeTimes, m_data, m_owner, m_rank, m_external, m_first, m_how, m_bytes, m_memory, m_callOf, m_baseOf, m_usedAhead, m_placeOf, m_argument, m_argumentBytes, m_q, m_0, f_begin, x_gs, un_i, un_r, un_l, un_ai, un_al, un_ar, un_sh, nul_i, nul_r, nul_l, nul_ai, nul_al, nul_ar, nul_sh]) (by funext j; simp [m_programs, m_cells, m_active, m_prepared, m_arguments, m_used, m_preparedAhead, m_within, m_names, m_marks, m_manyFormals, m_activeTimes, m_data, m_owner, m_rank, m_external, m_first, m_how, m_bytes, m_memory, m_callOf, m_baseOf, m_usedAhead, m_placeOf, m_argument, m_argumentBytes, m_q, m_0, f_begin, x_gs, un_i, un_r, un_l, un_ai, un_al, un_ar, un_sh, nul_i, nul_r, nul_l, nul_ai, nul_al, nul_ar, nul_sh])
  have eac : m_active (p_r S 2 10 x none) y = m_active S y := by simp [m_programs, m_cells, m_active, m_prepared, m_arguments, m_used, m_preparedAhead, m_within, m_names, m_marks, m_manyFormals, m_activeTimes, m_data, m_owner, m_rank, m_external, m_first, m_how, m_bytes, m_memory, m_callOf, m_baseOf, m_usedAhead, m_placeOf, m_argument, m_argumentBytes, m_q, m_0, f_begin, x_gs, un_i, un_r, un_l, un_ai, un_al, un_ar, un_sh, nul_i, nul_r, nul_l, nul_ai, nul_al, nul_ar, nul_sh]
  have efi : f_fi (p_r S 2 10 x none) y (f_runM S y) nm = f_fi S y (f_runM S y) nm := fi_c eP (by funext j; simp [m_programs, m_cells, m_active, m_prepared, m_arguments, m_used, m_preparedAhead, m_within, m_names, m_marks, m_manyFormals, m_activeTimes, m_data, m_owner, m_rank, m_external, m_first, m_how, m_bytes, m_memory, m_callOf, m_baseOf, m_usedAhead, m_placeOf, m_argument, m_argumentBytes, m_q, m_0, f_begin, x_gs, un_i, un_r, un_l, un_ai, un_al, un_ar, un_sh, nul_i, nul_r, nul_l, nul_ai, nul_al, nul_ar, nul_sh]) (by funext j; simp [m_programs, m_cells, m_active, m_prepared, m_arguments, m_used, m_preparedAhead, m_within, m_names, m_marks, m_manyFormals, m_activeTimes, m_data, m_owner, m_rank, m_external, m_first, m_how, m_bytes, m_memory, m_callOf, m_baseOf, m_usedAhead, m_placeOf, m_argument, m_argumentBytes, m_q, m_0, f_begin, x_gs, un_i, un_r, un_l, un_ai, un_al, un_ar, un_sh, nul_i, nul_r, nul_l, nul_ai, nul_al, nul_ar, nul_sh]) (by funext j; simp [m_programs, m_cells, m_active, m_prepared, m_arguments, m_used, m_preparedAhead, m_within, m_names, m_marks, m_manyFormals, m_activeTimes, m_data, m_owner, m_rank, m_external, m_first, m_how, m_bytes, m_memory, m_callOf, m_baseOf, m_usedAhead, m_placeOf, m_argument, m_argumentBytes, m_q, m_0, f_begin, x_gs, un_i, un_r, un_l, un_ai, un_al, un_ar, un_sh, nul_i, nul_r, nul_l, nul_ai, nul_al, nul_ar, nul_sh]) _ _
  rw [erun] at t2 t3
  obtain ⟨f1, f2⟩ := r_fi hPT hMT hYT t3 nm
  have eno := r_no hPT t3
  rw [efi] at f1 f2
  rw [eP] at t3 f2
  rw [eac] at t1
  generalize hpp : f_fi S y (f_runM S y) nm = p at *
  have e8 : m_E8 (f_un (m_0 (p_r S 2 10 x none) y) y) S y := ⟨by simp [m_programs, m_cells, m_active, m_prepared, m_arguments, m_used, m_preparedAhead, m_within, m_names, m_marks, m_manyFormals, m_activeTimes, m_data, m_owner, m_rank, m_external, m_first, m_how, m_bytes, m_memory, m_callOf, m_baseOf, m_usedAhead, m_placeOf, m_argument, m_argumentBytes, m_q, m_0, f_begin, x_gs, un_i, un_r, un_l, un_ai, un_al, un_ar, un_sh, nul_i, nul_r, nul_l, nul_ai, nul_al, nul_ar, nul_sh], by funext j; simp [m_programs, m_cells, m_active, m_prepared, m_arguments, m_used, m_preparedAhead, m_within, m_names, m_marks, m_manyFormals, m_activeTimes, m_data, m_owner, m_rank, m_external, m_first, m_how, m_bytes, m_memory, m_callOf, m_baseOf, m_usedAhead, m_placeOf, m_argument, m_argumentBytes, m_q, m_0, f_begin, x_gs, un_i, un_r, un_l, un_ai, un_al, un_ar, un_sh, nul_i, nul_r, nul_l, nul_ai, nul_al, nul_ar, nul_sh], by funext j; simp [m_programs, m_cells, m_active, m_prepared, m_arguments, m_used, m_preparedAhead, m_within, m_names, m_marks, m_manyFormals, m_activeTimes, m_data, m_owner, m_rank, m_external, m_first, m_how, m_bytes, m_memory, m_callOf, m_baseOf, m_usedAhead, m_placeOf, m_argument, m_argumentBytes, m_q, m_0, f_begin, x_gs, un_i, un_r, un_l, un_ai, un_al, un_ar, un_sh, nul_i, nul_r, nul_l, nul_ai, nul_al, nul_ar, nul_sh], by funext j; simp [m_programs, m_cells, m_active, m_prepared, m_arguments, m_used, m_preparedAhead, m_within, m_names, m_marks, m_manyFormals, m_activeTimes, m_data, m_owner, m_rank, m_external, m_first, m_how, m_bytes, m_memory, m_callOf, m_baseOf, m_usedAhead, m_placeOf, m_argument, m_argumentBytes, m_q, m_0, f_begin, x_gs, un_i, un_r, un_l, un_ai, un_al, un_ar, un_sh, nul_i, nul_r, nul_l, nul_ai, nul_al, nul_ar, nul_sh], by simp [m_programs, m_cells, m_active, m_prepared, m_arguments, m_used, m_preparedAhead, m_within, m_names, m_marks, m_manyFormals, m_activeTimes, m_data, m_owner, m_rank, m_external, m_first, m_how, m_bytes, m_memory, m_callOf, m_baseOf, m_usedAhead, m_placeOf, m_argument, m_argumentBytes, m_q, m_0, f_begin, x_gs, un_i, un_r, un_l, un_ai, un_al, un_ar, un_sh, nul_i, nul_r, nul_l, nul_ai, nul_al, nul_ar, nul_sh], by funext j; simp [m_programs, m_cells, m_active, m_prepared, m_arguments, m_used, m_preparedAhead, m_within, m_names, m_marks, m_manyFormals, m_activeTimes, m_data, m_owner, m_rank, m_external, m_first, m_how, m_bytes, m_memory, m_callOf, m_baseOf, m_usedAhead, m_placeOf, m_argument, m_argumentBytes, m_q, m_0, f_begin, x_gs, un_i, un_r, un_l, un_ai, un_al, un_ar, un_sh, nul_i, nul_r, nul_l, nul_ai, nul_al, nul_ar, nul_sh], by funext j; simp [m_programs, m_cells, m_active, m_prepared, m_arguments, m_used, m_preparedAhead, m_within, m_names, m_marks, m_manyFormals, m_activeTimes, m_data, m_owner, m_rank, m_external, m_first, m_how, m_bytes, m_memory, m_callOf, m_baseOf, m_usedAhead, m_placeOf, m_argument, m_argumentBytes, m_q, m_0, f_begin, x_gs, un_i, un_r, un_l, un_ai, un_al, un_ar, un_sh, nul_i, nul_r, nul_l, nul_ai, nul_al, nul_ar, nul_sh], by simp [m_programs, m_cells, m_active, m_prepared, m_arguments, m_used, m_preparedAhead, m_within, m_names, m_marks, m_manyFormals, m_activeTimes, m_data, m_owner, m_rank, m_external, m_first, m_how, m_bytes, m_memory, m_callOf, m_baseOf, m_usedAhead, m_placeOf, m_argument, m_argumentBytes, m_q, m_0, f_begin, x_gs, un_i, un_r, un_l, un_ai, un_al, un_ar, un_sh, nul_i, nul_r, nul_l, nul_ai, nul_al, nul_ar, nul_sh]⟩
  have fin : ∀ v : Int32, f_callR (p_r S 2 10 x none) x fr nm = v → ¬ v = 0 → f_caM (f_un (m_0 (p_r S 2 10 x none) y) y) y fr nm = (v, f_un (m_0 (p_r S 2 10 x none) y) y) → r = (f_caM (f_un (m_0 S1 y) y) y fr nm).1 ∧ r_X (f_caM (f_un (m_0 S1 y) y) y fr nm).2 x y (t + 1) := by
    intro v e1 e2 e3
    rcases hq with ⟨q1, rfl, rfl⟩ | ⟨q1, -⟩
    · rw [e3, e1]; exact ⟨rfl, P, L, _, N, z_un hr⟩
    · exact absurd (e1.symm.trans q1) e2
  have emod := caM_e e8 fr nm hpp
  have gi9 : g_i (p_r S 2 10 x none) 2 9 x = nI (m_active S y) := hL.2.2.1
  have gi0 : g_i (p_r S 2 10 x none) 2 0 x = g_i S 3 1 y := hL.2.2.2.2.1
  by_cases c1 : fr = nI (f_runM S y)
  · by_cases c2 : f_isName nm = 0
    · exact fin (-2) (by rw [f_callR, t2, eno, if_pos c1, if_pos c2]) (by decide) (by rw [emod, if_pos (by rw [f_isF, if_pos c1, if_pos c2])])
    · have hF : ¬ f_isF S y fr nm = 0 := by rw [f_isF, if_pos c1, if_neg c2]; decide
      by_cases c3 : p = 0
      · exact fin (-3) (by rw [f_callR, t2, eno, if_pos c1, if_neg c2, f1, c3, p_f0]) (by decide) (by rw [emod, if_neg hF, if_pos c3])
      · obtain ⟨b1, b2, b3, b4⟩ := hL.2.2.2.2.2.2.2.2.2.2.2.2 p (by omega) f2
        have hlc := la_cn (m_callOf S y) p (m_active S y)
        have hcl := cn_le (m_callOf S y) p (m_active S y)
        have hlat : g_r (p_r S 2 10 x none) 1 8 (P p) = p_f L (la_ (m_callOf S y) p (m_active S y)) := b1
        have hhas : f_has (p_r S 2 10 x none) (P p) 4 = f_is S y p 4 := r_has hP (by omega) f2 4
        have hact : m_activeTimes S y p ≤ 0 ↔ la_ (m_callOf S y) p (m_active S y) = 0 := by
          rw [b2, hlc, show (0 : Int32) = nI 0 from rfl, nI_leI (by omega) (by omega)]; omega
        by_cases c4 : ¬ la_ (m_callOf S y) p (m_active S y) = 0 ∧ f_is S y p 4 = 0
        · exact fin (-5) (by
            rw [f_callR, t2, eno, if_pos c1, if_neg c2, f1, p_fs P c3]
            simp only []
            rw [hlat, p_fs L c4.1]
            simp only []
            rw [hhas, if_pos c4.2]) (by decide) (by rw [emod, if_neg hF, if_neg c3, if_neg (fun z => c4.1 (hact.mp z)), if_pos c4.2])
        · have ecl : f_callR (p_r S 2 10 x none) x fr nm = if g_i S 3 1 y ≤ nI (m_active S y) then -6 else if nI (m_active S y) < 256 then 0 else -6 := by
            rw [f_callR, t2, eno, if_pos c1, if_neg c2, f1, p_fs P c3]
            simp only []
            rw [hlat, gi9, gi0]
            by_cases z : la_ (m_callOf S y) p (m_active S y) = 0
            · rw [z, p_f0]
            · rw [p_fs L z]
              simp only []
              rw [hhas, if_neg (fun w => c4 ⟨z, w⟩)]
          have emo : ∀ U : gs_S, m_E8 U S y → f_caM U y fr nm = if nI (m_active S y) < g_i S 3 1 y then (nI p, p_i (p_i U 3 23 y (nI p)) 3 25 y (nI (m_used U y))) else (-6, U) := fun U hE => by
            rw [caM_e hE fr nm hpp, if_neg hF, if_neg c3]
            by_cases z : la_ (m_callOf S y) p (m_active S y) = 0
            · rw [if_pos (hact.mpr z)]
            · rw [if_neg (fun w => z (hact.mp w)), if_neg (fun w => c4 ⟨z, w⟩)]
          by_cases c5 : g_i S 3 1 y ≤ nI (m_active S y)
          · exact fin (-6) (by rw [ecl, if_pos c5]) (by decide) (by rw [emo _ e8, if_neg (fun z => i32_le.mpr z c5)])
          · have hz : f_callR (p_r S 2 10 x none) x fr nm = 0 := by rw [ecl, if_neg c5, if_pos (show nI (m_active S y) < 256 from (nI_ltI (b := 256) (by omega) (by omega)).mpr (by omega))]
            have hrec : m_marks S y p &&& 4 = 0 → cn_ (m_callOf S y) p (m_active S y) = 0 := fun z => by
              by_cases w : la_ (m_callOf S y) p (m_active S y) = 0
              · exact hlc.mp w
              · exact absurd ⟨w, by rw [f_is, if_pos z]⟩ c4
            rcases hq with ⟨q1, -⟩ | ⟨-, c, u, T1, q1, q2, q3, q4⟩
            · exact absurd hz q1
            · rw [t2, f1, p_fs P c3] at q1
              cases q1
              rw [t1] at q2
              -- the base
              have fin2 : ∀ (B : gs_S) (L' : Nat → Nat) (N' : Nat), r_R B x y t P L' D N' → m_E8 B S y → m_active B y + 1 ≤ N' → L' (m_active S y + 1) = u → S1 = f_begin (p_r (p_r B 2 10 x none) 2 10 x (some u)) u (some (P p)) → r = (f_caM (f_un (m_0 S1 y) y) y fr nm).1 ∧ r_X (f_caM (f_un (m_0 S1 y) y) y fr nm).2 x y (t + 1) := by
                intro B L' N' hB hE hN' hu hS1
                have hE' := hE
                obtain ⟨e0, e1, e2, e3, e4, e5, e6, e7⟩ := hE'
                have hE2 : m_E8 (f_un (m_0 S1 y) y) S y := by
                  rw [hS1]
                  refine ⟨Eq.trans ?_ e0, Eq.trans ?_ e1, Eq.trans ?_ e2, Eq.trans ?_ e3, Eq.trans ?_ e4, Eq.trans ?_ e5, Eq.trans ?_ e6, Eq.trans ?_ e7⟩
                  · simp [m_programs, m_cells, m_active, m_prepared, m_arguments, m_used, m_preparedAhead, m_within, m_names, m_marks, m_manyFormals, m_activeTimes, m_data, m_owner, m_rank, m_external, m_first, m_how, m_bytes, m_memory, m_callOf, m_baseOf, m_usedAhead, m_placeOf, m_argument, m_argumentBytes, m_q, m_0, f_begin, x_gs, un_i, un_r, un_l, un_ai, un_al, un_ar, un_sh, nul_i, nul_r, nul_l, nul_ai, nul_al, nul_ar, nul_sh]
                  · funext j; simp [m_programs, m_cells, m_active, m_prepared, m_arguments, m_used, m_preparedAhead, m_within, m_names, m_marks, m_manyFormals, m_activeTimes, m_data, m_owner, m_rank, m_external, m_first, m_how, m_bytes, m_memory, m_callOf, m_baseOf, m_usedAhead, m_placeOf, m_argument, m_argumentBytes, m_q, m_0, f_begin, x_gs, un_i, un_r, un_l, un_ai, un_al, un_ar, un_sh, nul_i, nul_r, nul_l, nul_ai, nul_al, nul_ar, nul_sh]
                  · funext j; simp [m_programs, m_cells, m_active, m_prepared, m_arguments, m_used, m_preparedAhead, m_within, m_names, m_marks, m_manyFormals, m_activeTimes, m_data, m_owner, m_rank, m_external, m_first, m_how, m_bytes, m_memory, m_callOf, m_baseOf, m_usedAhead, m_placeOf, m_argument, m_argumentBytes, m_q, m_0, f_begin, x_gs, un_i, un_r, un_l, un_ai, un_al, un_ar, un_sh, nul_i, nul_r, nul_l, nul_ai, nul_al, nul_ar, nul_sh]
                  · funext j; simp [m_programs, m_cells, m_active, m_prepared, m_arguments, m_used, m_preparedAhead, m_within, m_names, m_marks, m_manyFormals, m_activeTimes, m_data, m_owner, m_rank, m_external, m_first, m_how, m_bytes, m_memory, m_callOf, m_baseOf, m_usedAhead, m_placeOf, m_argument, m_argumentBytes, m_q, m_0, f_begin, x_gs, un_i, un_r, un_l, un_ai, un_al, un_ar, un_sh, nul_i, nul_r, nul_l, nul_ai, nul_al, nul_ar, nul_sh]
                  · simp [m_programs, m_cells, m_active, m_prepared, m_arguments, m_used, m_preparedAhead, m_within, m_names, m_marks, m_manyFormals, m_activeTimes, m_data, m_owner, m_rank, m_external, m_first, m_how, m_bytes, m_memory, m_callOf, m_baseOf, m_usedAhead, m_placeOf, m_argument, m_argumentBytes, m_q, m_0, f_begin, x_gs, un_i, un_r, un_l, un_ai, un_al, un_ar, un_sh, nul_i, nul_r, nul_l, nul_ai, nul_al, nul_ar, nul_sh]
                  · funext j; simp [m_programs, m_cells, m_active, m_prepared, m_arguments, m_used, m_preparedAhead, m_within, m_names, m_marks, m_manyFormals, m_activeTimes, m_data, m_owner, m_rank, m_external, m_first, m_how, m_bytes, m_memory, m_callOf, m_baseOf, m_usedAhead, m_placeOf, m_argument, m_argumentBytes, m_q, m_0, f_begin, x_gs, un_i, un_r, un_l, un_ai, un_al, un_ar, un_sh, nul_i, nul_r, nul_l, nul_ai, nul_al, nul_ar, nul_sh]
                  · funext j; simp [m_programs, m_cells, m_active, m_prepared, m_arguments, m_used, m_preparedAhead, m_within, m_names, m_marks, m_manyFormals, m_activeTimes, m_data, m_owner, m_rank, m_external, m_first, m_how, m_bytes, m_memory, m_callOf, m_baseOf, m_usedAhead, m_placeOf, m_argument, m_argumentBytes, m_q, m_0, f_begin, x_gs, un_i, un_r, un_l, un_ai, un_al, un_ar, un_sh, nul_i, nul_r, nul_l, nul_ai, nul_al, nul_ar, nul_sh]
                  · simp [m_programs, m_cells, m_active, m_prepared, m_arguments, m_used, m_preparedAhead, m_within, m_names, m_marks, m_manyFormals, m_activeTimes, m_data, m_owner, m_rank, m_external, m_first, m_how, m_bytes, m_memory, m_callOf, m_baseOf, m_usedAhead, m_placeOf, m_argument, m_argumentBytes, m_q, m_0, f_begin, x_gs, un_i, un_r, un_l, un_ai, un_al, un_ar, un_sh, nul_i, nul_r, nul_l, nul_ai, nul_al, nul_ar, nul_sh]
                rw [emo _ hE2, if_pos (i32_le.mp c5)]
                refine ⟨?_, P, L', D_k D (m_active B y), N', ?_⟩
                · have hPB := hB.2.2.1
                  have := (hPB.2.2 p (by omega) (by rw [e0]; exact f2)).2.2.1
                  rw [q4, hS1]
                  simpa [m_programs, m_cells, m_active, m_prepared, m_arguments, m_used, m_preparedAhead, m_within, m_names, m_marks, m_manyFormals, m_activeTimes, m_data, m_owner, m_rank, m_external, m_first, m_how, m_bytes, m_memory, m_callOf, m_baseOf, m_usedAhead, m_placeOf, m_argument, m_argumentBytes, m_q, m_0, f_begin, x_gs, un_i, un_r, un_l, un_ai, un_al, un_ar, un_sh, nul_i, nul_r, nul_l, nul_ai, nul_al, nul_ar, nul_sh] using this
                · refine z_call2 hB hN' (by omega) (by rw [e0]; exact f2) (by rw [e3, e4, e5]; exact hrec) none ?_
                  rw [hS1, e4, hu]
              rcases q2 with ⟨g1, rfl⟩ | ⟨g1, hh, pl, bb, va, g2, g3, g4⟩
              · have hlt : m_active S y < N := by
                  rcases Nat.lt_or_ge (m_active S y) N with z | z
                  · exact z
                  · have h9 := hL.2.2.2.2.2.2.2.2.2.1
                    rw [show N = m_active S y by have := hL.2.2.2.1; omega] at h9
                    exact absurd (h9.symm.trans g1) (by simp)
                have h8 := (hL.2.2.2.2.2.2.2.2.1 (m_active S y) hlt).1
                refine fin2 S L N hr ⟨rfl, rfl, rfl, rfl, rfl, rfl, rfl, rfl⟩ (by omega) (Option.some.inj (h8.symm.trans g1)) q3
              · have hNa : N = m_active S y := by
                  have := hL.2.2.2.1
                  rcases Nat.lt_or_ge (m_active S y) N with z | z
                  · exact absurd ((hL.2.2.2.2.2.2.2.2.1 (m_active S y) z).1.symm.trans g1) (by simp)
                  · omega
                have g2 : g_sh S u = none := g2
                have g3 : i_Lf (p_new S 0 u) u hh pl bb va := g3
                have hxu : x ≠ u := fun z => by rw [z, g2] at h3; cases h3
                rw [nL_pr hxu, pr_comm] at g4
                have hLa := hL.2.2.2.2.2.2.1 (m_active S y) (by omega)
                have hwL : w_t (n_L S u (some (L (m_active S y))) hh pl bb va) := wt_nL h1 g2 g3 (fun b z => by cases z; exact hLa)
                have hX := sX_nL (S := S) (be := some (L (m_active S y))) g2 g3
                have hB0 := r_ext hr hX hwL
                obtain ⟨v0, v1, v2, v3, v5, v6, v7, v8, v4⟩ := n_L_q (S := S) (q := u) (be := some (L (m_active S y))) (h := hh) (pl := pl) (bb := bb) (va := va)
                obtain ⟨⟨n1, n2⟩, ⟨n3, n4, n5⟩, ⟨n6, n7, n8, n9⟩, n10, n11, n12, n13, n14⟩ := n_Lne g3
                have hus : g_sh (n_L S u (some (L (m_active S y))) hh pl bb va) u = some (.inl 0) := by rw [n_L_sh, if_neg (Ne.symm n13), if_neg (Ne.symm n8), if_neg (Ne.symm n4), if_neg (Ne.symm n1), if_pos rfl]
                have hne : ∀ j : Nat, j ≤ N → ¬ u = L j := fun j hj z => by have := hL.2.2.2.2.2.2.1 j hj; rw [← z, g2] at this; cases this
                have eB : ∀ k a : Nat, a ≠ u → g_r (n_L S u (some (L (m_active S y))) hh pl bb va) 0 k a = g_r S 0 k a := fun k a z => n_L_r 0 k z
                have eqa := q_active hX h4
                have E8 : m_E8 (n_L S u (some (L (m_active S y))) hh pl bb va) S y := ⟨q_programs hX h4, q_within hX h2 h4, q_names hX h2 h4, q_marks hX h2 h4, eqa, q_callOf hX h2 h4, q_activeTimes hX h2 h4, ((hX.1 y _ h4).2.1 3 1).1⟩
                generalize n_L S u (some (L (m_active S y))) hh pl bb va = B0 at *
                have hB := z_link (u := u) hB0 (by rw [eqa]; exact hNa) hus (by rw [v0, hNa]) v1 (fun j hj => ⟨hne j hj, fun k k1 k2 => by
                  rw [eB k (L j) (fun z => hne j hj z.symm)]
                  have hs := hL.2.2.2.2.2.2.1 j hj
                  have hk : k = 5 ∨ k = 6 ∨ k = 7 ∨ k = 8 := by omega
                  rcases hk with rfl | rfl | rfl | rfl
                  · obtain ⟨a, ea, sa⟩ := w_holders h1 hs
                    rw [v5, ea]; intro z; have z : hh = a := z; rw [← z, n2] at sa; cases sa
                  · obtain ⟨a, ea, sa⟩ := w_places h1 hs
                    rw [v6, ea]; intro z; have z : pl = a := z; rw [← z, n5] at sa; cases sa
                  · obtain ⟨a, ea, sa⟩ := w_bytes h1 hs
                    rw [v7, ea]; intro z; have z : bb = a := z; rw [← z, n9] at sa; cases sa
                  · obtain ⟨a, ea, sa⟩ := w_values h1 hs
                    rw [v8, ea]; intro z; have z : va = a := z; rw [← z, n14] at sa; cases sa⟩)
                refine fin2 (p_r B0 0 1 (L N) (some u)) (L_n L N u) (N + 1) hB ?_ ?_ (by rw [← hNa]; exact L_nu) (by rw [q3, g4, hNa])
                · obtain ⟨e0, e1, e2, e3, e4, e5, e6, e7⟩ := E8
                  refine ⟨Eq.trans ?_ e0, Eq.trans ?_ e1, Eq.trans ?_ e2, Eq.trans ?_ e3, Eq.trans ?_ e4, Eq.trans ?_ e5, Eq.trans ?_ e6, Eq.trans ?_ e7⟩
                  · simp [m_programs, m_cells, m_active, m_prepared, m_arguments, m_used, m_preparedAhead, m_within, m_names, m_marks, m_manyFormals, m_activeTimes, m_data, m_owner, m_rank, m_external, m_first, m_how, m_bytes, m_memory, m_callOf, m_baseOf, m_usedAhead, m_placeOf, m_argument, m_argumentBytes, m_q, m_0, f_begin, x_gs, un_i, un_r, un_l, un_ai, un_al, un_ar, un_sh, nul_i, nul_r, nul_l, nul_ai, nul_al, nul_ar, nul_sh]
                  · funext j; simp [m_programs, m_cells, m_active, m_prepared, m_arguments, m_used, m_preparedAhead, m_within, m_names, m_marks, m_manyFormals, m_activeTimes, m_data, m_owner, m_rank, m_external, m_first, m_how, m_bytes, m_memory, m_callOf, m_baseOf, m_usedAhead, m_placeOf, m_argument, m_argumentBytes, m_q, m_0, f_begin, x_gs, un_i, un_r, un_l, un_ai, un_al, un_ar, un_sh, nul_i, nul_r, nul_l, nul_ai, nul_al, nul_ar, nul_sh]
                  · funext j; simp [m_programs, m_cells, m_active, m_prepared, m_arguments, m_used, m_preparedAhead, m_within, m_names, m_marks, m_manyFormals, m_activeTimes, m_data, m_owner, m_rank, m_external, m_first, m_how, m_bytes, m_memory, m_callOf, m_baseOf, m_usedAhead, m_placeOf, m_argument, m_argumentBytes, m_q, m_0, f_begin, x_gs, un_i, un_r, un_l, un_ai, un_al, un_ar, un_sh, nul_i, nul_r, nul_l, nul_ai, nul_al, nul_ar, nul_sh]
                  · funext j; simp [m_programs, m_cells, m_active, m_prepared, m_arguments, m_used, m_preparedAhead, m_within, m_names, m_marks, m_manyFormals, m_activeTimes, m_data, m_owner, m_rank, m_external, m_first, m_how, m_bytes, m_memory, m_callOf, m_baseOf, m_usedAhead, m_placeOf, m_argument, m_argumentBytes, m_q, m_0, f_begin, x_gs, un_i, un_r, un_l, un_ai, un_al, un_ar, un_sh, nul_i, nul_r, nul_l, nul_ai, nul_al, nul_ar, nul_sh]
                  · simp [m_programs, m_cells, m_active, m_prepared, m_arguments, m_used, m_preparedAhead, m_within, m_names, m_marks, m_manyFormals, m_activeTimes, m_data, m_owner, m_rank, m_external, m_first, m_how, m_bytes, m_memory, m_callOf, m_baseOf, m_usedAhead, m_placeOf, m_argument, m_argumentBytes, m_q, m_0, f_begin, x_gs, un_i, un_r, un_l, un_ai, un_al, un_ar, un_sh, nul_i, nul_r, nul_l, nul_ai, nul_al, nul_ar, nul_sh]
                  · funext j; simp [m_programs, m_cells, m_active, m_prepared, m_arguments, m_used, m_preparedAhead, m_within, m_names, m_marks, m_manyFormals, m_activeTimes, m_data, m_owner, m_rank, m_external, m_first, m_how, m_bytes, m_memory, m_callOf, m_baseOf, m_usedAhead, m_placeOf, m_argument, m_argumentBytes, m_q, m_0, f_begin, x_gs, un_i, un_r, un_l, un_ai, un_al, un_ar, un_sh, nul_i, nul_r, nul_l, nul_ai, nul_al, nul_ar, nul_sh]
                  · funext j; simp [m_programs, m_cells, m_active, m_prepared, m_arguments, m_used, m_preparedAhead, m_within, m_names, m_marks, m_manyFormals, m_activeTimes, m_data, m_owner, m_rank, m_external, m_first, m_how, m_bytes, m_memory, m_callOf, m_baseOf, m_usedAhead, m_placeOf, m_argument, m_argumentBytes, m_q, m_0, f_begin, x_gs, un_i, un_r, un_l, un_ai, un_al, un_ar, un_sh, nul_i, nul_r, nul_l, nul_ai, nul_al, nul_ar, nul_sh]
                  · simp [m_programs, m_cells, m_active, m_prepared, m_arguments, m_used, m_preparedAhead, m_within, m_names, m_marks, m_manyFormals, m_activeTimes, m_data, m_owner, m_rank, m_external, m_first, m_how, m_bytes, m_memory, m_callOf, m_baseOf, m_usedAhead, m_placeOf, m_argument, m_argumentBytes, m_q, m_0, f_begin, x_gs, un_i, un_r, un_l, un_ai, un_al, un_ar, un_sh, nul_i, nul_r, nul_l, nul_ai, nul_al, nul_ar, nul_sh]
                · rw [show m_active (p_r B0 0 1 (L N) (some u)) y = m_active B0 y from by simp [m_programs, m_cells, m_active, m_prepared, m_arguments, m_used, m_preparedAhead, m_within, m_names, m_marks, m_manyFormals, m_activeTimes, m_data, m_owner, m_rank, m_external, m_first, m_how, m_bytes, m_memory, m_callOf, m_baseOf, m_usedAhead, m_placeOf, m_argument, m_argumentBytes, m_q, m_0, f_begin, x_gs, un_i, un_r, un_l, un_ai, un_al, un_ar, un_sh, nul_i, nul_r, nul_l, nul_ai, nul_al, nul_ar, nul_sh], eqa]; omega
  · exact fin (-2) (by rw [f_callR, t2, eno, if_neg c1]) (by decide) (by rw [emod, if_pos (by rw [f_isF, if_neg c1])])
