/-! M.call -/
theorem x_isF {S : gs_S} {y : Nat} {fr nm : Int32} (h : ¬ f_isF S y fr nm = 0) : fr = nI (f_runM S y) ∧ ¬ f_isName nm = 0 := by
  unfold f_isF at h
  split at h
  · rename_i c
    split at h
    · exact absurd rfl h
    · exact ⟨c, by assumption⟩
  · exact absurd rfl h
def f_caD (U : gs_S) (y p : Nat) : Int32 × gs_S := if nI (m_active U y) < g_i U 3 1 y then (nI p, p_i (p_i U 3 23 y (nI p)) 3 25 y (nI (m_used U y))) else (-6, U)
def f_caM (U : gs_S) (y : Nat) (fr nm : Int32) : Int32 × gs_S := if f_isF U y fr nm = 0 then (-2, U) else if f_fi U y (f_runM U y) nm = 0 then (-3, U) else if m_activeTimes U y (f_fi U y (f_runM U y) nm) ≤ 0 then f_caD U y (f_fi U y (f_runM U y) nm) else if f_is U y (f_fi U y (f_runM U y) nm) 4 = 0 then (-5, U) else f_caD U y (f_fi U y (f_runM U y) nm)

set_option maxHeartbeats 4000000 in
set_option maxRecDepth 100000 in
theorem c_M_call (l : Launch) (G : gs_G) (S : gs_S) (sz : Nat) (y : Nat) (fr nm : Int32) (hM : m_t S) (hY : g_sh S y = some (.inl 3)) : Met l yM_call (kM_call :: gU) { frames := 2, cells := 0, slots := 0, locals := 49 } (g_Pc G S sz [va_rf (some y), .int fr, .int nm]) (g_Qi G S sz (fun r S' => r = (f_caM (f_un (m_0 S y) y) y fr nm).1 ∧ S' = (f_caM (f_un (m_0 S y) y) y fr nm).2)) 0 0 (g_A S sz) := by
  refine s_head (by decide) (Nat.le_of_ble_eq_true rfl) ?_
  intro p e s m below meth c ls hsz hC hr hlocks hnm hl hW
  subst hsz
  obtain ⟨hx, hb, hml, hown, hts⟩ := id hC
  have hl : lv_has ls 4 [(0, va_rf (some y)), (1, .int fr), (2, .int nm)] := hl
  refine s_aload_n (x := some y) hx hb dM_call_0 rfl (lv_at hl 0 rfl) ?_
  refine lv_iconst (v := 0) hx hb dM_call_1 (by decide) ?_
  refine s_puti hC hW gc_M iw_M 0 (by decide) uw_390 (Or.inl rfl) rfl rfl rfl hY dM_call_2 (fun H locs hW => ?_)
  have hT : m_t (m_0 S y) := mt_0 hM
  have hT0 : g_sh (m_0 S y) y = some (.inl 3) := hY
  have hW : g_W G (g_A S s.heap.size) s (m_0 S y) H locs := hW
  have h_programs := b_programs hT hT0
  have h_cells := b_cells hT hT0
  have h_active := b_active hT hT0
  have h_prepared := b_prepared hT hT0
  have h_arguments := b_arguments hT hT0
  have h_used := b_used hT hT0
  have h_preparedAhead := b_preparedAhead hT hT0
  refine s_aload_n (x := some y) hx hb dM_call_5 rfl (lv_at hl 0 rfl) ?_
  refine s_callv hW (s_runV (n := 0) (As := []) (rest := []) hC (c_M_unprepare l G (m_0 S y) H.size y hT hT0) uc_M_unprepare uw_550 uw_552 us_M_unprepare uw_4 rfl rfl (by decide +kernel) ⟨by decide, by decide⟩ (g_preV hW gc_M hT0 []) rfl hl.1 rfl (Nat.le_of_ble_eq_true rfl) dM_call_6 ⟨Nat.le_of_ble_eq_true rfl, Nat.le_of_ble_eq_true rfl⟩) (fun S6 H locs hp6 hW => ?_)
  subst hp6
  have hU6 := mt_un hT hT0
  have sU6 := (f_un_sh (m_0 S y) y y).trans hT0
  have h_programs := b_programs hU6 sU6
  have h_cells := b_cells hU6 sU6
  have h_active := b_active hU6 sU6
  have h_prepared := b_prepared hU6 sU6
  have h_arguments := b_arguments hU6 sU6
  have h_used := b_used hU6 sU6
  have h_preparedAhead := b_preparedAhead hU6 sU6
  have hrun := b_runM hU6 sU6
  refine s_aload_n (x := some y) hx hb dM_call_9 rfl (lv_at hl 0 rfl) ?_
  refine lv_iload_n hx hb dM_call_10 rfl (lv_at hl 1 rfl) ?_
  refine lv_iload_n hx hb dM_call_11 rfl (lv_at hl 2 rfl) ?_
  refine s_calli hW (s_runV (n := 2) (As := [.int fr, .int nm]) (rest := []) hC (c_M_isFrom l G (f_un (m_0 S y) y) H.size y fr nm hU6 sU6) uc_M_isFrom uw_554 uw_556 us_M_isFrom uw_4 rfl rfl (by decide +kernel) ⟨by decide, by decide⟩ (g_preV hW gc_M sU6 [.int fr, .int nm]) rfl hl.1 rfl (Nat.le_of_ble_eq_true rfl) dM_call_12 ⟨Nat.le_of_ble_eq_true rfl, Nat.le_of_ble_eq_true rfl⟩) (fun q12 S12 H locs hp12 hW => ?_)
  obtain ⟨hs12, rfl⟩ := hp12
  replace hs12 := hs12.symm
  subst hs12
  refine lv_if_ne (tgt := 21) hx hb dM_call_15 (by decide) (fun c_15 => ?_) (fun c_15 => ?_)
  · skip
    obtain ⟨rfl, hnm0⟩ := x_isF c_15
    refine s_aload_n (x := some y) hx hb dM_call_21 rfl (lv_at hl 0 rfl) ?_
    refine lv_iload_n hx hb dM_call_22 rfl (lv_at hl 1 rfl) ?_
    refine lv_iload_n hx hb dM_call_23 rfl (lv_at hl 2 rfl) ?_
    refine s_calli hW (s_runV (n := 2) (As := [.int (nI (f_runM (f_un (m_0 S y) y) y)), .int nm]) (rest := []) hC (c_M_find l G (f_un (m_0 S y) y) H.size y (f_runM (f_un (m_0 S y) y) y) nm hU6 sU6 (by omega)) uc_M_find uw_558 uw_560 us_M_find uw_4 rfl rfl (by decide +kernel) ⟨by decide, by decide⟩ (g_preV hW gc_M sU6 [.int (nI (f_runM (f_un (m_0 S y) y) y)), .int nm]) rfl hl.1 rfl (Nat.le_of_ble_eq_true rfl) dM_call_24 ⟨Nat.le_of_ble_eq_true rfl, Nat.le_of_ble_eq_true rfl⟩) (fun q24 S24 H locs hp24 hW => ?_)
    obtain ⟨hs24, rfl⟩ := hp24
    replace hs24 := hs24.symm
    subst hs24
    have hfi24 := b_fi (nm := nm) (p := (f_runM (f_un (m_0 S y) y) y)) hU6 sU6 (by omega)
    refine lv_istore_n (lv' := [(3, .int (nI (f_fi (f_un (m_0 S y) y) y (f_runM (f_un (m_0 S y) y) y) nm))), (0, va_rf (some y)), (1, .int (nI (f_runM (f_un (m_0 S y) y) y))), (2, .int nm)]) hx hb dM_call_27 rfl hl (by decide) rfl (fun ls hl => ?_)
    refine lv_iload_n hx hb dM_call_28 rfl (lv_at hl 0 rfl) ?_
    refine lv_if_ne (tgt := 35) hx hb dM_call_29 (by decide) (fun c_29 => ?_) (fun c_29 => ?_)
    · skip
      refine s_aload_n (x := some y) hx hb dM_call_35 rfl (lv_at hl 1 rfl) ?_
      obtain ⟨a_activeTimes, ea_activeTimes, sa_activeTimes⟩ := w_m_activeTimes hU6 sU6
      refine s_getr hC hW gc_M iw_M 6 (by decide) uw_396 rfl sU6 (v := some a_activeTimes) ea_activeTimes dM_call_36 ?_
      refine lv_iload_n hx hb dM_call_39 rfl (lv_at hl 0 rfl) ?_
      refine k_iald hC hW sa_activeTimes rfl rfl (by decide) (f_fi (f_un (m_0 S y) y) y (f_runM (f_un (m_0 S y) y) y) nm) rfl (by omega) (v := m_activeTimes (f_un (m_0 S y) y) y (f_fi (f_un (m_0 S y) y) y (f_runM (f_un (m_0 S y) y) y) nm)) (e_activeTimes (S := f_un (m_0 S y) y) ea_activeTimes) dM_call_40 ?_
      refine lv_if_le (tgt := 56) hx hb dM_call_41 (by decide) (fun c_41 => ?_) (fun c_41 => ?_)
      · skip
        refine s_aload_n (x := some y) hx hb dM_call_56 rfl (lv_at hl 1 rfl) ?_
        refine s_geti hC hW gc_M iw_M 22 (by decide) uw_412 rfl sU6 (v := nI (m_active (f_un (m_0 S y) y) y)) (e_active (S := f_un (m_0 S y) y) hU6 sU6) dM_call_57 ?_
        refine s_aload_n (x := some y) hx hb dM_call_60 rfl (lv_at hl 1 rfl) ?_
        refine s_geti hC hW gc_M iw_M 1 (by decide) uw_391 rfl sU6 rfl dM_call_61 ?_
        refine lv_icmp_lt (tgt := 70) hx hb dM_call_64 (by decide) (fun c_64 => ?_) (fun c_64 => ?_)
        · skip
          refine s_aload_n (x := some y) hx hb dM_call_70 rfl (lv_at hl 1 rfl) ?_
          refine lv_iload_n hx hb dM_call_71 rfl (lv_at hl 0 rfl) ?_
          refine s_puti hC hW gc_M iw_M 23 (by decide) uw_413 (Or.inl rfl) rfl rfl rfl sU6 dM_call_72 (fun H locs hW => ?_)
          refine s_aload_n (x := some y) hx hb dM_call_75 rfl (lv_at hl 1 rfl) ?_
          refine s_aload_n (x := some y) hx hb dM_call_76 rfl (lv_at hl 1 rfl) ?_
          refine s_geti hC hW gc_M iw_M 17 (by decide) uw_407 rfl sU6 (v := nI (m_used (f_un (m_0 S y) y) y)) (e_used (S := f_un (m_0 S y) y) hU6 sU6) dM_call_77 ?_
          refine s_puti hC hW gc_M iw_M 25 (by decide) uw_415 (Or.inl rfl) rfl rfl rfl sU6 dM_call_80 (fun H locs hW => ?_)
          refine lv_iload_n hx hb dM_call_83 rfl (lv_at hl 0 rfl) ?_
          exact s_iret hC hr hlocks rfl hW dM_call_84 ⟨by rw [f_caM, if_neg c_15, if_neg (fun z => c_29 ((x_n0 (by omega)).mpr z)), if_pos c_41, f_caD, if_pos c_64], by rw [f_caM, if_neg c_15, if_neg (fun z => c_29 ((x_n0 (by omega)).mpr z)), if_pos c_41, f_caD, if_pos c_64]⟩
        · skip
          refine lv_bipush (v := (-6)) hx hb dM_call_67 (by decide) ?_
          exact s_iret hC hr hlocks rfl hW dM_call_69 ⟨by rw [f_caM, if_neg c_15, if_neg (fun z => c_29 ((x_n0 (by omega)).mpr z)), if_pos c_41, f_caD, if_neg c_64], by rw [f_caM, if_neg c_15, if_neg (fun z => c_29 ((x_n0 (by omega)).mpr z)), if_pos c_41, f_caD, if_neg c_64]⟩
      · skip
        refine s_aload_n (x := some y) hx hb dM_call_44 rfl (lv_at hl 1 rfl) ?_
        refine lv_iload_n hx hb dM_call_45 rfl (lv_at hl 0 rfl) ?_
        refine lv_iconst (v := 4) hx hb dM_call_46 (by decide) ?_
        refine s_calli hW (s_runV (n := 2) (As := [.int (nI (f_fi (f_un (m_0 S y) y) y (f_runM (f_un (m_0 S y) y) y) nm)), .int 4]) (rest := []) hC (c_M_is l G (f_un (m_0 S y) y) H.size y (f_fi (f_un (m_0 S y) y) y (f_runM (f_un (m_0 S y) y) y) nm) 4 hU6 sU6 (by omega)) uc_M_is uw_523 uw_525 us_M_is uw_4 rfl rfl (by decide +kernel) ⟨by decide, by decide⟩ (g_preV hW gc_M sU6 [.int (nI (f_fi (f_un (m_0 S y) y) y (f_runM (f_un (m_0 S y) y) y) nm)), .int 4]) rfl hl.1 rfl (Nat.le_of_ble_eq_true rfl) dM_call_47 ⟨Nat.le_of_ble_eq_true rfl, Nat.le_of_ble_eq_true rfl⟩) (fun q47 S47 H locs hp47 hW => ?_)
        obtain ⟨hs47, rfl⟩ := hp47
        replace hs47 := hs47.symm
        subst hs47
        refine lv_if_ne (tgt := 56) hx hb dM_call_50 (by decide) (fun c_50 => ?_) (fun c_50 => ?_)
        · skip
          refine s_aload_n (x := some y) hx hb dM_call_56 rfl (lv_at hl 1 rfl) ?_
          refine s_geti hC hW gc_M iw_M 22 (by decide) uw_412 rfl sU6 (v := nI (m_active (f_un (m_0 S y) y) y)) (e_active (S := f_un (m_0 S y) y) hU6 sU6) dM_call_57 ?_
          refine s_aload_n (x := some y) hx hb dM_call_60 rfl (lv_at hl 1 rfl) ?_
          refine s_geti hC hW gc_M iw_M 1 (by decide) uw_391 rfl sU6 rfl dM_call_61 ?_
          refine lv_icmp_lt (tgt := 70) hx hb dM_call_64 (by decide) (fun c_64 => ?_) (fun c_64 => ?_)
          · skip
            refine s_aload_n (x := some y) hx hb dM_call_70 rfl (lv_at hl 1 rfl) ?_
            refine lv_iload_n hx hb dM_call_71 rfl (lv_at hl 0 rfl) ?_
            refine s_puti hC hW gc_M iw_M 23 (by decide) uw_413 (Or.inl rfl) rfl rfl rfl sU6 dM_call_72 (fun H locs hW => ?_)
            refine s_aload_n (x := some y) hx hb dM_call_75 rfl (lv_at hl 1 rfl) ?_
            refine s_aload_n (x := some y) hx hb dM_call_76 rfl (lv_at hl 1 rfl) ?_
            refine s_geti hC hW gc_M iw_M 17 (by decide) uw_407 rfl sU6 (v := nI (m_used (f_un (m_0 S y) y) y)) (e_used (S := f_un (m_0 S y) y) hU6 sU6) dM_call_77 ?_
            refine s_puti hC hW gc_M iw_M 25 (by decide) uw_415 (Or.inl rfl) rfl rfl rfl sU6 dM_call_80 (fun H locs hW => ?_)
            refine lv_iload_n hx hb dM_call_83 rfl (lv_at hl 0 rfl) ?_
            exact s_iret hC hr hlocks rfl hW dM_call_84 ⟨by rw [f_caM, if_neg c_15, if_neg (fun z => c_29 ((x_n0 (by omega)).mpr z)), if_neg c_41, if_neg c_50, f_caD, if_pos c_64], by rw [f_caM, if_neg c_15, if_neg (fun z => c_29 ((x_n0 (by omega)).mpr z)), if_neg c_41, if_neg c_50, f_caD, if_pos c_64]⟩
          · skip
            refine lv_bipush (v := (-6)) hx hb dM_call_67 (by decide) ?_
            exact s_iret hC hr hlocks rfl hW dM_call_69 ⟨by rw [f_caM, if_neg c_15, if_neg (fun z => c_29 ((x_n0 (by omega)).mpr z)), if_neg c_41, if_neg c_50, f_caD, if_neg c_64], by rw [f_caM, if_neg c_15, if_neg (fun z => c_29 ((x_n0 (by omega)).mpr z)), if_neg c_41, if_neg c_50, f_caD, if_neg c_64]⟩
        · skip
          refine lv_bipush (v := (-5)) hx hb dM_call_53 (by decide) ?_
          exact s_iret hC hr hlocks rfl hW dM_call_55 ⟨by rw [f_caM, if_neg c_15, if_neg (fun z => c_29 ((x_n0 (by omega)).mpr z)), if_neg c_41, if_pos c_50], by rw [f_caM, if_neg c_15, if_neg (fun z => c_29 ((x_n0 (by omega)).mpr z)), if_neg c_41, if_pos c_50]⟩
    · skip
      refine lv_bipush (v := (-3)) hx hb dM_call_32 (by decide) ?_
      exact s_iret hC hr hlocks rfl hW dM_call_34 ⟨by rw [f_caM, if_neg c_15, if_pos ((x_n0 (by omega)).mp c_29)], by rw [f_caM, if_neg c_15, if_pos ((x_n0 (by omega)).mp c_29)]⟩
  · skip
    refine lv_bipush (v := (-2)) hx hb dM_call_18 (by decide) ?_
    exact s_iret hC hr hlocks rfl hW dM_call_20 ⟨by rw [f_caM, if_pos c_15], by rw [f_caM, if_pos c_15]⟩

/-! M.leave -/
def l_3 (U : gs_S) (y : Nat) : gs_S := p_ai (p_i (p_i U 3 22 y (nI (m_active U y - 1))) 3 17 y (nI (m_usedAhead U y (m_active U y - 1)))) 14 (m_q U y 6) (f_runM U y) (m_activeTimes U y (f_runM U y) - 1)
def l_d (U : gs_S) (y : Nat) : Int32 := if m_data U y (f_runM U y) = 0 then 0 else if f_is U y (f_runM U y) 1 = 0 then (if f_is U y (f_runM U y) 4 = 0 then 1 else 0) else 0
def l_4 (U : gs_S) (y : Nat) (v : Int64) : gs_S := p_l (p_ai (l_3 U y) 15 (m_q U y 7) (f_runM U y) (l_d U y)) 3 28 y v
theorem mt_l3 {U : gs_S} {y : Nat} (h : m_t U) (hY : g_sh U y = some (.inl 3)) (ha : m_active U y ≠ 0) : m_t (l_3 U y) := by
  have h1 := b_active h hY
  exact mt_pai (mt_used (mt_active h (by omega)) (b_usedAhead h hY (by omega))) (fun _ => True.intro)
theorem mt_l4 {U : gs_S} {y : Nat} {v : Int64} (h : m_t U) (hY : g_sh U y = some (.inl 3)) (ha : m_active U y ≠ 0) : m_t (l_4 U y v) := mt_pl (mt_pai (mt_l3 h hY ha) (fun _ => True.intro))
def f_leM (T : gs_S) (y : Nat) (v : Int64) : Int32 × gs_S := if m_active T y = 0 then (-4, T) else (nI (f_runM (l_4 (f_un T y) y v) y), l_4 (f_un T y) y v)
theorem un_active (T : gs_S) (y : Nat) : m_active (f_un T y) y = m_active T y := by unfold m_active f_un; split <;> rfl

set_option maxHeartbeats 4000000 in
set_option maxRecDepth 100000 in
theorem c_M_leave (l : Launch) (G : gs_G) (S : gs_S) (sz : Nat) (y : Nat) (v : Int64) (hM : m_t S) (hY : g_sh S y = some (.inl 3)) : Met l yM_leave (kM_leave :: gU) { frames := 1, cells := 0, slots := 0, locals := 22 } (g_Pc G S sz [va_rf (some y), .long v]) (g_Qi G S sz (fun r S' => r = (f_leM (m_0 S y) y v).1 ∧ S' = (f_leM (m_0 S y) y v).2)) 0 0 (g_A S sz) := by
  refine s_head (by decide) (Nat.le_of_ble_eq_true rfl) ?_
  intro p e s m below meth c ls hsz hC hr hlocks hnm hl hW
  subst hsz
  obtain ⟨hx, hb, hml, hown, hts⟩ := id hC
  have hl : lv_has ls 4 [(0, va_rf (some y)), (1, .long v)] := hl
  refine s_aload_n (x := some y) hx hb dM_leave_0 rfl (lv_at hl 0 rfl) ?_
  refine lv_iconst (v := 0) hx hb dM_leave_1 (by decide) ?_
  refine s_puti hC hW gc_M iw_M 0 (by decide) uw_390 (Or.inl rfl) rfl rfl rfl hY dM_leave_2 (fun H locs hW => ?_)
  have hT : m_t (m_0 S y) := mt_0 hM
  have hT0 : g_sh (m_0 S y) y = some (.inl 3) := hY
  have hW : g_W G (g_A S s.heap.size) s (m_0 S y) H locs := hW
  have h_programs := b_programs hT hT0
  have h_cells := b_cells hT hT0
  have h_active := b_active hT hT0
  have h_prepared := b_prepared hT hT0
  have h_arguments := b_arguments hT hT0
  have h_used := b_used hT hT0
  have h_preparedAhead := b_preparedAhead hT hT0
  refine s_aload_n (x := some y) hx hb dM_leave_5 rfl (lv_at hl 0 rfl) ?_
  refine s_geti hC hW gc_M iw_M 22 (by decide) uw_412 rfl hT0 (v := nI (m_active (m_0 S y) y)) (e_active (S := m_0 S y) hT hT0) dM_leave_6 ?_
  refine lv_if_ne (tgt := 15) hx hb dM_leave_9 (by decide) (fun c_9 => ?_) (fun c_9 => ?_)
  · skip
    refine s_aload_n (x := some y) hx hb dM_leave_15 rfl (lv_at hl 0 rfl) ?_
    refine s_callv hW (s_runV (n := 0) (As := []) (rest := []) hC (c_M_unprepare l G (m_0 S y) H.size y hT hT0) uc_M_unprepare uw_550 uw_552 us_M_unprepare uw_4 rfl rfl (by decide +kernel) ⟨by decide, by decide⟩ (g_preV hW gc_M hT0 []) rfl hl.1 rfl (Nat.le_of_ble_eq_true rfl) dM_leave_16 ⟨Nat.le_of_ble_eq_true rfl, Nat.le_of_ble_eq_true rfl⟩) (fun S16 H locs hp16 hW => ?_)
    subst hp16
    have hU16 := mt_un hT hT0
    have sU16 := (f_un_sh (m_0 S y) y y).trans hT0
    have h_programs := b_programs hU16 sU16
    have h_cells := b_cells hU16 sU16
    have h_active := b_active hU16 sU16
    have h_prepared := b_prepared hU16 sU16
    have h_arguments := b_arguments hU16 sU16
    have h_used := b_used hU16 sU16
    have h_preparedAhead := b_preparedAhead hU16 sU16
    have hrun := b_runM hU16 sU16
    have hac0 : m_active (m_0 S y) y ≠ 0 := fun z => c_9 ((x_n0 (by omega)).mpr z)
    have hac : m_active (f_un (m_0 S y) y) y ≠ 0 := by rw [un_active]; exact hac0
    refine s_aload_n (x := some y) hx hb dM_leave_19 rfl (lv_at hl 0 rfl) ?_
    refine s_calli hW (s_runV (n := 0) (As := []) (rest := []) hC (c_M_running l G (f_un (m_0 S y) y) H.size y hU16 sU16) uc_M_running uw_518 uw_520 us_M_running uw_4 rfl rfl (by decide +kernel) ⟨by decide, by decide⟩ (g_preV hW gc_M sU16 []) rfl hl.1 rfl (Nat.le_of_ble_eq_true rfl) dM_leave_20 ⟨Nat.le_of_ble_eq_true rfl, Nat.le_of_ble_eq_true rfl⟩) (fun q20 S20 H locs hp20 hW => ?_)
    obtain ⟨hs20, rfl⟩ := hp20
    replace hs20 := hs20.symm
    subst hs20
    have hrun20 := b_runM hU16 sU16
    refine lv_istore_n (lv' := [(3, .int (nI (f_runM (f_un (m_0 S y) y) y))), (0, va_rf (some y)), (1, .long v)]) hx hb dM_leave_23 rfl hl (by decide) rfl (fun ls hl => ?_)
    refine s_aload_n (x := some y) hx hb dM_leave_24 rfl (lv_at hl 1 rfl) ?_
    refine lv_dup hx hb dM_leave_25 rfl ?_
    refine s_geti hC hW gc_M iw_M 22 (by decide) uw_412 rfl sU16 (v := nI (m_active (f_un (m_0 S y) y) y)) (e_active (S := f_un (m_0 S y) y) hU16 sU16) dM_leave_26 ?_
    refine lv_iconst (v := 1) hx hb dM_leave_29 (by decide) ?_
    refine lv_isub hx hb dM_leave_30 ?_
    refine s_topi (x_sub1 (by omega)) ?_
    refine s_puti hC hW gc_M iw_M 22 (by decide) uw_412 (Or.inl rfl) rfl rfl rfl sU16 dM_leave_31 (fun H locs hW => ?_)
    refine s_aload_n (x := some y) hx hb dM_leave_34 rfl (lv_at hl 1 rfl) ?_
    refine s_aload_n (x := some y) hx hb dM_leave_35 rfl (lv_at hl 1 rfl) ?_
    obtain ⟨a_usedAhead, ea_usedAhead, sa_usedAhead⟩ := w_m_usedAhead hU16 sU16
    refine s_getr hC hW gc_M iw_M 20 (by decide) uw_410 rfl sU16 (v := some a_usedAhead) ea_usedAhead dM_leave_36 ?_
    refine s_aload_n (x := some y) hx hb dM_leave_39 rfl (lv_at hl 1 rfl) ?_
    refine s_geti hC hW gc_M iw_M 22 (by decide) uw_412 rfl sU16 (v := nI ((m_active (f_un (m_0 S y) y) y) - 1)) (by simp [x_gs]) dM_leave_40 ?_
    refine k_iald hC hW sa_usedAhead rfl rfl (by decide) ((m_active (f_un (m_0 S y) y) y) - 1) rfl (by omega) (v := nI (m_usedAhead (f_un (m_0 S y) y) y ((m_active (f_un (m_0 S y) y) y) - 1))) (e_usedAhead (S := f_un (m_0 S y) y) hU16 sU16 ea_usedAhead (by omega)) dM_leave_43 ?_
    have h43 := b_usedAhead hU16 sU16 (i := (m_active (f_un (m_0 S y) y) y) - 1) (by omega)
    refine s_puti hC hW gc_M iw_M 17 (by decide) uw_407 (Or.inl rfl) rfl rfl rfl sU16 dM_leave_44 (fun H locs hW => ?_)
    refine s_aload_n (x := some y) hx hb dM_leave_47 rfl (lv_at hl 1 rfl) ?_
    obtain ⟨a_activeTimes, ea_activeTimes, sa_activeTimes⟩ := w_m_activeTimes hU16 sU16
    refine s_getr hC hW gc_M iw_M 6 (by decide) uw_396 rfl sU16 (v := some a_activeTimes) ea_activeTimes dM_leave_48 ?_
    refine lv_iload_n hx hb dM_leave_51 rfl (lv_at hl 0 rfl) ?_
    refine lv_dup2_11 hx hb dM_leave_52 rfl rfl ?_
    refine k_iald hC hW sa_activeTimes rfl rfl (by decide) (f_runM (f_un (m_0 S y) y) y) rfl (by omega) (v := m_activeTimes (f_un (m_0 S y) y) y (f_runM (f_un (m_0 S y) y) y)) (e_activeTimes (S := f_un (m_0 S y) y) ea_activeTimes) dM_leave_53 ?_
    refine lv_iconst (v := 1) hx hb dM_leave_54 (by decide) ?_
    refine lv_isub hx hb dM_leave_55 ?_
    refine k_iast hC hW sa_activeTimes rfl rfl (by decide) (f_runM (f_un (m_0 S y) y) y) rfl (by omega) dM_leave_56 (fun H locs hW => ?_)
    have e3 : l_3 (f_un (m_0 S y) y) y = p_ai (p_i (p_i (f_un (m_0 S y) y) 3 22 y (nI ((m_active (f_un (m_0 S y) y) y) - 1))) 3 17 y (nI (m_usedAhead (f_un (m_0 S y) y) y ((m_active (f_un (m_0 S y) y) y) - 1)))) 14 a_activeTimes (f_runM (f_un (m_0 S y) y) y) ((m_activeTimes (f_un (m_0 S y) y) y (f_runM (f_un (m_0 S y) y) y)) - 1) := by rw [l_3, m_q, ea_activeTimes, v_a_s]
    have hW : g_W G (g_A S s.heap.size) s (l_3 (f_un (m_0 S y) y) y) H locs := by rw [e3]; exact hW
    have hV := mt_l3 hU16 sU16 hac
    have hV0 : g_sh (l_3 (f_un (m_0 S y) y) y) y = some (.inl 3) := sU16
    refine s_aload_n (x := some y) hx hb dM_leave_57 rfl (lv_at hl 1 rfl) ?_
    obtain ⟨a_data, ea_data, sa_data⟩ := w_m_data hU16 sU16
    refine s_getr hC hW gc_M iw_M 7 (by decide) uw_397 rfl hV0 (v := some a_data) ea_data dM_leave_58 ?_
    refine lv_iload_n hx hb dM_leave_61 rfl (lv_at hl 0 rfl) ?_
    refine s_aload_n (x := some y) hx hb dM_leave_62 rfl (lv_at hl 1 rfl) ?_
    refine s_getr hC hW gc_M iw_M 7 (by decide) uw_397 rfl hV0 (v := some a_data) ea_data dM_leave_63 ?_
    refine lv_iload_n hx hb dM_leave_66 rfl (lv_at hl 0 rfl) ?_
    refine k_zald hC hW sa_data rfl rfl (by decide) (f_runM (f_un (m_0 S y) y) y) rfl (by omega) (v := m_data (f_un (m_0 S y) y) y (f_runM (f_un (m_0 S y) y) y)) (e_data (S := f_un (m_0 S y) y) ea_data) dM_leave_67 ?_
    refine lv_if_eq (tgt := 93) hx hb dM_leave_68 (by decide) (fun c_68 => ?_) (fun c_68 => ?_)
    · skip
      refine lv_iconst (v := 0) hx hb dM_leave_93 (by decide) ?_
      refine k_zast hC hW sa_data rfl rfl (by decide) (f_runM (f_un (m_0 S y) y) y) rfl (by omega) dM_leave_94 (fun H locs hW => ?_)
      refine s_aload_n (x := some y) hx hb dM_leave_95 rfl (lv_at hl 1 rfl) ?_
      refine lv_lload_n hx hb dM_leave_96 rfl (lv_at hl 2 rfl) ?_
      refine s_putl hC hW gc_M iw_M 28 (by decide) uw_418 (Or.inl rfl) rfl rfl rfl hV0 dM_leave_97 (fun H locs hW => ?_)
      have e4 : l_4 (f_un (m_0 S y) y) y v = p_l (p_ai (l_3 (f_un (m_0 S y) y) y) 15 a_data (f_runM (f_un (m_0 S y) y) y) (vp_nar .boolean 0)) 3 28 y v := by rw [l_4, show l_d (f_un (m_0 S y) y) y = 0 from by rw [l_d, if_pos c_68], m_q, ea_data, v_a_s]; rfl
      have hW : g_W G (g_A S s.heap.size) s (l_4 (f_un (m_0 S y) y) y v) H locs := by rw [e4]; exact hW
      have hX := mt_l4 (v := v) hU16 sU16 hac
      have hX0 : g_sh (l_4 (f_un (m_0 S y) y) y v) y = some (.inl 3) := sU16
      refine s_aload_n (x := some y) hx hb dM_leave_100 rfl (lv_at hl 1 rfl) ?_
      refine s_calli hW (s_runV (n := 0) (As := []) (rest := []) hC (c_M_running l G (l_4 (f_un (m_0 S y) y) y v) H.size y hX hX0) uc_M_running uw_518 uw_520 us_M_running uw_4 rfl rfl (by decide +kernel) ⟨by decide, by decide⟩ (g_preV hW gc_M hX0 []) rfl hl.1 rfl (Nat.le_of_ble_eq_true rfl) dM_leave_101 ⟨Nat.le_of_ble_eq_true rfl, Nat.le_of_ble_eq_true rfl⟩) (fun q101 S101 H locs hp101 hW => ?_)
      obtain ⟨hs101, rfl⟩ := hp101
      replace hs101 := hs101.symm
      subst hs101
      have hrun101 := b_runM hX hX0
      exact s_iret hC hr hlocks rfl hW dM_leave_104 ⟨by rw [f_leM, if_neg hac0], by rw [f_leM, if_neg hac0]⟩
    · skip
      refine s_aload_n (x := some y) hx hb dM_leave_71 rfl (lv_at hl 1 rfl) ?_
      refine lv_iload_n hx hb dM_leave_72 rfl (lv_at hl 0 rfl) ?_
      refine lv_iconst (v := 1) hx hb dM_leave_73 (by decide) ?_
      refine s_calli hW (s_runV (n := 2) (As := [.int (nI (f_runM (f_un (m_0 S y) y) y)), .int 1]) (rest := [.int (nI (f_runM (f_un (m_0 S y) y) y)), va_rf (some a_data)]) hC (c_M_is l G (l_3 (f_un (m_0 S y) y) y) H.size y (f_runM (f_un (m_0 S y) y) y) 1 hV hV0 (by omega)) uc_M_is uw_523 uw_525 us_M_is uw_4 rfl rfl (by decide +kernel) ⟨by decide, by decide⟩ (g_preV hW gc_M hV0 [.int (nI (f_runM (f_un (m_0 S y) y) y)), .int 1]) rfl hl.1 rfl (Nat.le_of_ble_eq_true rfl) dM_leave_74 ⟨Nat.le_of_ble_eq_true rfl, Nat.le_of_ble_eq_true rfl⟩) (fun q74 S74 H locs hp74 hW => ?_)
      obtain ⟨hs74, rfl⟩ := hp74
      replace hs74 := hs74.symm
      subst hs74
      refine lv_if_ne (tgt := 93) hx hb dM_leave_77 (by decide) (fun c_77 => ?_) (fun c_77 => ?_)
      · skip
        refine lv_iconst (v := 0) hx hb dM_leave_93 (by decide) ?_
        refine k_zast hC hW sa_data rfl rfl (by decide) (f_runM (f_un (m_0 S y) y) y) rfl (by omega) dM_leave_94 (fun H locs hW => ?_)
        refine s_aload_n (x := some y) hx hb dM_leave_95 rfl (lv_at hl 1 rfl) ?_
        refine lv_lload_n hx hb dM_leave_96 rfl (lv_at hl 2 rfl) ?_
        refine s_putl hC hW gc_M iw_M 28 (by decide) uw_418 (Or.inl rfl) rfl rfl rfl hV0 dM_leave_97 (fun H locs hW => ?_)
        have e4 : l_4 (f_un (m_0 S y) y) y v = p_l (p_ai (l_3 (f_un (m_0 S y) y) y) 15 a_data (f_runM (f_un (m_0 S y) y) y) (vp_nar .boolean 0)) 3 28 y v := by rw [l_4, show l_d (f_un (m_0 S y) y) y = 0 from by rw [l_d, if_neg c_68, if_neg (show ¬ f_is (f_un (m_0 S y) y) y (f_runM (f_un (m_0 S y) y) y) 1 = 0 from c_77)], m_q, ea_data, v_a_s]; rfl
        have hW : g_W G (g_A S s.heap.size) s (l_4 (f_un (m_0 S y) y) y v) H locs := by rw [e4]; exact hW
        have hX := mt_l4 (v := v) hU16 sU16 hac
        have hX0 : g_sh (l_4 (f_un (m_0 S y) y) y v) y = some (.inl 3) := sU16
        refine s_aload_n (x := some y) hx hb dM_leave_100 rfl (lv_at hl 1 rfl) ?_
        refine s_calli hW (s_runV (n := 0) (As := []) (rest := []) hC (c_M_running l G (l_4 (f_un (m_0 S y) y) y v) H.size y hX hX0) uc_M_running uw_518 uw_520 us_M_running uw_4 rfl rfl (by decide +kernel) ⟨by decide, by decide⟩ (g_preV hW gc_M hX0 []) rfl hl.1 rfl (Nat.le_of_ble_eq_true rfl) dM_leave_101 ⟨Nat.le_of_ble_eq_true rfl, Nat.le_of_ble_eq_true rfl⟩) (fun q101 S101 H locs hp101 hW => ?_)
        obtain ⟨hs101, rfl⟩ := hp101
        replace hs101 := hs101.symm
        subst hs101
        have hrun101 := b_runM hX hX0
        exact s_iret hC hr hlocks rfl hW dM_leave_104 ⟨by rw [f_leM, if_neg hac0], by rw [f_leM, if_neg hac0]⟩
      · skip
        refine s_aload_n (x := some y) hx hb dM_leave_80 rfl (lv_at hl 1 rfl) ?_
        refine lv_iload_n hx hb dM_leave_81 rfl (lv_at hl 0 rfl) ?_
        refine lv_iconst (v := 4) hx hb dM_leave_82 (by decide) ?_
        refine s_calli hW (s_runV (n := 2) (As := [.int (nI (f_runM (f_un (m_0 S y) y) y)), .int 4]) (rest := [.int (nI (f_runM (f_un (m_0 S y) y) y)), va_rf (some a_data)]) hC (c_M_is l G (l_3 (f_un (m_0 S y) y) y) H.size y (f_runM (f_un (m_0 S y) y) y) 4 hV hV0 (by omega)) uc_M_is uw_523 uw_525 us_M_is uw_4 rfl rfl (by decide +kernel) ⟨by decide, by decide⟩ (g_preV hW gc_M hV0 [.int (nI (f_runM (f_un (m_0 S y) y) y)), .int 4]) rfl hl.1 rfl (Nat.le_of_ble_eq_true rfl) dM_leave_83 ⟨Nat.le_of_ble_eq_true rfl, Nat.le_of_ble_eq_true rfl⟩) (fun q83 S83 H locs hp83 hW => ?_)
        obtain ⟨hs83, rfl⟩ := hp83
        replace hs83 := hs83.symm
        subst hs83
        refine lv_if_ne (tgt := 93) hx hb dM_leave_86 (by decide) (fun c_86 => ?_) (fun c_86 => ?_)
        · skip
          refine lv_iconst (v := 0) hx hb dM_leave_93 (by decide) ?_
          refine k_zast hC hW sa_data rfl rfl (by decide) (f_runM (f_un (m_0 S y) y) y) rfl (by omega) dM_leave_94 (fun H locs hW => ?_)
          refine s_aload_n (x := some y) hx hb dM_leave_95 rfl (lv_at hl 1 rfl) ?_
          refine lv_lload_n hx hb dM_leave_96 rfl (lv_at hl 2 rfl) ?_
          refine s_putl hC hW gc_M iw_M 28 (by decide) uw_418 (Or.inl rfl) rfl rfl rfl hV0 dM_leave_97 (fun H locs hW => ?_)
          have e4 : l_4 (f_un (m_0 S y) y) y v = p_l (p_ai (l_3 (f_un (m_0 S y) y) y) 15 a_data (f_runM (f_un (m_0 S y) y) y) (vp_nar .boolean 0)) 3 28 y v := by rw [l_4, show l_d (f_un (m_0 S y) y) y = 0 from by rw [l_d, if_neg c_68, if_pos (show f_is (f_un (m_0 S y) y) y (f_runM (f_un (m_0 S y) y) y) 1 = 0 from c_77), if_neg (show ¬ f_is (f_un (m_0 S y) y) y (f_runM (f_un (m_0 S y) y) y) 4 = 0 from c_86)], m_q, ea_data, v_a_s]; rfl
          have hW : g_W G (g_A S s.heap.size) s (l_4 (f_un (m_0 S y) y) y v) H locs := by rw [e4]; exact hW
          have hX := mt_l4 (v := v) hU16 sU16 hac
          have hX0 : g_sh (l_4 (f_un (m_0 S y) y) y v) y = some (.inl 3) := sU16
          refine s_aload_n (x := some y) hx hb dM_leave_100 rfl (lv_at hl 1 rfl) ?_
          refine s_calli hW (s_runV (n := 0) (As := []) (rest := []) hC (c_M_running l G (l_4 (f_un (m_0 S y) y) y v) H.size y hX hX0) uc_M_running uw_518 uw_520 us_M_running uw_4 rfl rfl (by decide +kernel) ⟨by decide, by decide⟩ (g_preV hW gc_M hX0 []) rfl hl.1 rfl (Nat.le_of_ble_eq_true rfl) dM_leave_101 ⟨Nat.le_of_ble_eq_true rfl, Nat.le_of_ble_eq_true rfl⟩) (fun q101 S101 H locs hp101 hW => ?_)
          obtain ⟨hs101, rfl⟩ := hp101
          replace hs101 := hs101.symm
          subst hs101
          have hrun101 := b_runM hX hX0
          exact s_iret hC hr hlocks rfl hW dM_leave_104 ⟨by rw [f_leM, if_neg hac0], by rw [f_leM, if_neg hac0]⟩
        · skip
          refine lv_iconst (v := 1) hx hb dM_leave_89 (by decide) ?_
          refine lv_goto (tgt := 94) hx hb dM_leave_90 (by decide) ?_
          refine k_zast hC hW sa_data rfl rfl (by decide) (f_runM (f_un (m_0 S y) y) y) rfl (by omega) dM_leave_94 (fun H locs hW => ?_)
          refine s_aload_n (x := some y) hx hb dM_leave_95 rfl (lv_at hl 1 rfl) ?_
          refine lv_lload_n hx hb dM_leave_96 rfl (lv_at hl 2 rfl) ?_
          refine s_putl hC hW gc_M iw_M 28 (by decide) uw_418 (Or.inl rfl) rfl rfl rfl hV0 dM_leave_97 (fun H locs hW => ?_)
          have e4 : l_4 (f_un (m_0 S y) y) y v = p_l (p_ai (l_3 (f_un (m_0 S y) y) y) 15 a_data (f_runM (f_un (m_0 S y) y) y) (vp_nar .boolean 1)) 3 28 y v := by rw [l_4, show l_d (f_un (m_0 S y) y) y = 1 from by rw [l_d, if_neg c_68, if_pos (show f_is (f_un (m_0 S y) y) y (f_runM (f_un (m_0 S y) y) y) 1 = 0 from c_77), if_pos (show f_is (f_un (m_0 S y) y) y (f_runM (f_un (m_0 S y) y) y) 4 = 0 from c_86)], m_q, ea_data, v_a_s]; rfl
          have hW : g_W G (g_A S s.heap.size) s (l_4 (f_un (m_0 S y) y) y v) H locs := by rw [e4]; exact hW
          have hX := mt_l4 (v := v) hU16 sU16 hac
          have hX0 : g_sh (l_4 (f_un (m_0 S y) y) y v) y = some (.inl 3) := sU16
          refine s_aload_n (x := some y) hx hb dM_leave_100 rfl (lv_at hl 1 rfl) ?_
          refine s_calli hW (s_runV (n := 0) (As := []) (rest := []) hC (c_M_running l G (l_4 (f_un (m_0 S y) y) y v) H.size y hX hX0) uc_M_running uw_518 uw_520 us_M_running uw_4 rfl rfl (by decide +kernel) ⟨by decide, by decide⟩ (g_preV hW gc_M hX0 []) rfl hl.1 rfl (Nat.le_of_ble_eq_true rfl) dM_leave_101 ⟨Nat.le_of_ble_eq_true rfl, Nat.le_of_ble_eq_true rfl⟩) (fun q101 S101 H locs hp101 hW => ?_)
          obtain ⟨hs101, rfl⟩ := hp101
          replace hs101 := hs101.symm
          subst hs101
          have hrun101 := b_runM hX hX0
          exact s_iret hC hr hlocks rfl hW dM_leave_104 ⟨by rw [f_leM, if_neg hac0], by rw [f_leM, if_neg hac0]⟩
  · skip
    refine lv_bipush (v := (-4)) hx hb dM_leave_12 (by decide) ?_
    exact s_iret hC hr hlocks rfl hW dM_leave_14 ⟨by rw [f_leM, if_pos ((x_n0 (by omega)).mp c_9)], by rw [f_leM, if_pos ((x_n0 (by omega)).mp c_9)]⟩

/-! M.actual -/
def a_V (T : gs_S) (y : Nat) (n h : Int32) : gs_S := if h = 0 then p_ai T 27 (m_q T y 26) (m_arguments T y) (f_plM T y n) else if h = 1 then p_ai (f_cp T y (m_memory T y (f_plM T y n).toNatClampNeg)) 27 (m_q T y 26) (m_arguments T y) (nI (m_used T y)) else p_ai T 27 (m_q T y 26) (m_arguments T y) (-1)
def a_W (T : gs_S) (y : Nat) (n h : Int32) : gs_S := p_i (p_ai (a_V T y n h) 28 (m_q T y 27) (m_arguments T y) (if h = 2 then 0 else f_byM T y n)) 3 24 y (nI (m_arguments T y + 1))
def f_acM (T : gs_S) (y : Nat) (n h : Int32) : Int32 × gs_S := if m_prepared T y = 0 then (-4, T) else if h < 0 then (-2, T) else if 2 < h then (-2, T) else if h = 2 then (if nI (m_arguments T y) = 16 then (-1, T) else (nI (m_arguments T y), a_W T y n h)) else if f_plM T y n = -1 then (-2, T) else if nI (m_arguments T y) = 16 then (-1, T) else (nI (m_arguments T y), a_W T y n h)

theorem x_h012 {h : Int32} {P : Prop} (h0 : ¬ h < 0) (h2 : ¬ 2 < h) (c0 : ¬ h = 0) (c1 : ¬ h = 1) (c2 : ¬ h = 2) : P := by
  exfalso
  obtain ⟨j, hj, rfl⟩ := nI_of h0
  have h2 : ¬ nI 2 < nI j := h2
  rw [nI_ltI (by decide) hj] at h2
  have : j = 0 ∨ j = 1 ∨ j = 2 := by omega
  rcases this with rfl | rfl | rfl
  · exact c0 rfl
  · exact c1 rfl
  · exact c2 rfl

set_option maxHeartbeats 4000000 in
set_option maxRecDepth 100000 in
theorem c_M_actual (l : Launch) (G : gs_G) (S : gs_S) (sz : Nat) (y : Nat) (n h : Int32) (hM : m_t S) (hY : g_sh S y = some (.inl 3)) (hu : m_used S y < 60000) : Met l yM_actual (kM_actual :: gU) { frames := 2, cells := 0, slots := 0, locals := 49 } (g_Pc G S sz [va_rf (some y), .int n, .int h]) (g_Qi G S sz (fun r S' => r = (f_acM (m_0 S y) y n h).1 ∧ S' = (f_acM (m_0 S y) y n h).2)) 0 0 (g_A S sz) := by
  refine s_head (by decide) (Nat.le_of_ble_eq_true rfl) ?_
  intro p e s m below meth c ls hsz hC hr hlocks hnm hl hW
  subst hsz
  obtain ⟨hx, hb, hml, hown, hts⟩ := id hC
  have hl : lv_has ls 4 [(0, va_rf (some y)), (1, .int n), (2, .int h)] := hl
  refine s_aload_n (x := some y) hx hb dM_actual_0 rfl (lv_at hl 0 rfl) ?_
  refine lv_iconst (v := 0) hx hb dM_actual_1 (by decide) ?_
  refine s_puti hC hW gc_M iw_M 0 (by decide) uw_390 (Or.inl rfl) rfl rfl rfl hY dM_actual_2 (fun H locs hW => ?_)
  have hT : m_t (m_0 S y) := mt_0 hM
  have hT0 : g_sh (m_0 S y) y = some (.inl 3) := hY
  have hW : g_W G (g_A S s.heap.size) s (m_0 S y) H locs := hW
  have h_programs := b_programs hT hT0
  have h_cells := b_cells hT hT0
  have h_active := b_active hT hT0
  have h_prepared := b_prepared hT hT0
  have h_arguments := b_arguments hT hT0
  have h_used := b_used hT hT0
  have h_preparedAhead := b_preparedAhead hT hT0
  refine s_aload_n (x := some y) hx hb dM_actual_5 rfl (lv_at hl 0 rfl) ?_
  refine s_geti hC hW gc_M iw_M 23 (by decide) uw_413 rfl hT0 (v := nI (m_prepared (m_0 S y) y)) (e_prepared (S := m_0 S y) hT hT0) dM_actual_6 ?_
  refine lv_if_ne (tgt := 15) hx hb dM_actual_9 (by decide) (fun c_9 => ?_) (fun c_9 => ?_)
  · skip
    refine lv_iload_n hx hb dM_actual_15 rfl (lv_at hl 2 rfl) ?_
    refine lv_iconst (v := 2) hx hb dM_actual_16 (by decide) ?_
    refine lv_icmp_ne (tgt := 24) hx hb dM_actual_17 (by decide) (fun c_17 => ?_) (fun c_17 => ?_)
    · skip
      refine s_aload_n (x := some y) hx hb dM_actual_24 rfl (lv_at hl 0 rfl) ?_
      refine lv_iload_n hx hb dM_actual_25 rfl (lv_at hl 1 rfl) ?_
      refine s_calli hW (s_runV (n := 1) (As := [.int n]) (rest := []) hC (c_M_place l G (m_0 S y) H.size y n hT hT0) uc_M_place uw_514 uw_516 us_M_place uw_4 rfl rfl (by decide +kernel) ⟨by decide, by decide⟩ (g_preV hW gc_M hT0 [.int n]) rfl hl.1 rfl (Nat.le_of_ble_eq_true rfl) dM_actual_26 ⟨Nat.le_of_ble_eq_true rfl, Nat.le_of_ble_eq_true rfl⟩) (fun q26 S26 H locs hp26 hW => ?_)
      obtain ⟨hs26, rfl⟩ := hp26
      replace hs26 := hs26.symm
      subst hs26
      refine lv_topi (fun v_29 ev_29 => ?_)
      refine lv_istore_n (lv' := [(3, .int v_29), (0, va_rf (some y)), (1, .int n), (2, .int h)]) hx hb dM_actual_29 rfl hl (by decide) rfl (fun ls hl => ?_)
      refine lv_iload_n hx hb dM_actual_30 rfl (lv_at hl 3 rfl) ?_
      refine lv_if_lt (tgt := 49) hx hb dM_actual_31 (by decide) (fun c_31 => ?_) (fun c_31 => ?_)
      · skip
        refine lv_bipush (v := (-2)) hx hb dM_actual_49 (by decide) ?_
        exact s_iret hC hr hlocks rfl hW dM_actual_51 ⟨by rw [f_acM, if_neg (fun z => c_9 ((x_n0 (by omega)).mpr z)), if_pos c_31], by rw [f_acM, if_neg (fun z => c_9 ((x_n0 (by omega)).mpr z)), if_pos c_31]⟩
      · skip
        refine lv_iload_n hx hb dM_actual_34 rfl (lv_at hl 3 rfl) ?_
        refine lv_iconst (v := 2) hx hb dM_actual_35 (by decide) ?_
        refine lv_icmp_gt (tgt := 49) hx hb dM_actual_36 (by decide) (fun c_36 => ?_) (fun c_36 => ?_)
        · skip
          refine lv_bipush (v := (-2)) hx hb dM_actual_49 (by decide) ?_
          exact s_iret hC hr hlocks rfl hW dM_actual_51 ⟨by rw [f_acM, if_neg (fun z => c_9 ((x_n0 (by omega)).mpr z)), if_neg c_31, if_pos c_36], by rw [f_acM, if_neg (fun z => c_9 ((x_n0 (by omega)).mpr z)), if_neg c_31, if_pos c_36]⟩
        · skip
          refine lv_iload_n hx hb dM_actual_39 rfl (lv_at hl 3 rfl) ?_
          refine lv_iconst (v := 2) hx hb dM_actual_40 (by decide) ?_
          refine lv_icmp_eq (tgt := 52) hx hb dM_actual_41 (by decide) (fun c => absurd c c_17) (fun c_41 => ?_)
          refine lv_iload_n hx hb dM_actual_44 rfl (lv_at hl 0 rfl) ?_
          refine lv_iconst (v := (-1)) hx hb dM_actual_45 (by decide) ?_
          refine lv_icmp_ne (tgt := 52) hx hb dM_actual_46 (by decide) (fun c_46 => ?_) (fun c_46 => ?_)
          · skip
            obtain ⟨hc, q, hq, eq⟩ := x_plM hT hT0 (fun z => c_46 (ev_29.trans z))
            refine s_aload_n (x := some y) hx hb dM_actual_52 rfl (lv_at hl 1 rfl) ?_
            refine s_geti hC hW gc_M iw_M 24 (by decide) uw_414 rfl hT0 (v := nI (m_arguments (m_0 S y) y)) (e_arguments (S := m_0 S y) hT hT0) dM_actual_53 ?_
            refine lv_bipush (v := 16) hx hb dM_actual_56 (by decide) ?_
            refine lv_icmp_ne (tgt := 63) hx hb dM_actual_58 (by decide) (fun c_58 => ?_) (fun c_58 => ?_)
            · skip
              have hg16 : m_arguments (m_0 S y) y ≠ 16 := fun z => c_58 (by rw [z]; rfl)
              refine s_aload_n (x := some y) hx hb dM_actual_63 rfl (lv_at hl 1 rfl) ?_
              obtain ⟨a_argument, ea_argument, sa_argument⟩ := w_m_argument hT hT0
              refine s_getr hC hW gc_M iw_M 26 (by decide) uw_416 rfl hT0 (v := some a_argument) ea_argument dM_actual_64 ?_
              refine s_aload_n (x := some y) hx hb dM_actual_67 rfl (lv_at hl 1 rfl) ?_
              refine s_geti hC hW gc_M iw_M 24 (by decide) uw_414 rfl hT0 (v := nI (m_arguments (m_0 S y) y)) (e_arguments (S := m_0 S y) hT hT0) dM_actual_68 ?_
              refine lv_iload_n hx hb dM_actual_71 rfl (lv_at hl 3 rfl) ?_
              refine lv_if_ne (tgt := 79) hx hb dM_actual_72 (by decide) (fun c_72 => ?_) (fun c_72 => ?_)
              · skip
                refine lv_iload_n hx hb dM_actual_79 rfl (lv_at hl 3 rfl) ?_
                refine lv_iconst (v := 1) hx hb dM_actual_80 (by decide) ?_
                refine lv_icmp_ne (tgt := 97) hx hb dM_actual_81 (by decide) (fun c => x_h012 c_31 c_36 c_72 c c_17) (fun c_81 => ?_)
                refine s_aload_n (x := some y) hx hb dM_actual_84 rfl (lv_at hl 1 rfl) ?_
                refine s_aload_n (x := some y) hx hb dM_actual_85 rfl (lv_at hl 1 rfl) ?_
                obtain ⟨a_memory, ea_memory, sa_memory⟩ := w_m_memory hT hT0
                refine s_getr hC hW gc_M iw_M 16 (by decide) uw_406 rfl hT0 (v := some a_memory) ea_memory dM_actual_86 ?_
                refine lv_iload_n hx hb dM_actual_89 rfl (lv_at hl 0 rfl) ?_
                refine k_lald hC hW sa_memory rfl rfl (by decide) q (ev_29.trans eq) hq (v := m_memory (m_0 S y) y q) (e_memory (S := m_0 S y) ea_memory) dM_actual_90 ?_
                refine s_calli hW (s_runV (n := 1) (As := [.long (m_memory (m_0 S y) y q)]) (rest := [.int (nI (m_arguments (m_0 S y) y)), va_rf (some a_argument)]) hC (c_M_copy l G (m_0 S y) H.size y (m_memory (m_0 S y) y q) hT hT0 hu) uc_M_copy uw_566 uw_568 us_M_copy uw_4 rfl rfl (by decide +kernel) ⟨by decide, by decide⟩ (g_preV hW gc_M hT0 [.long (m_memory (m_0 S y) y q)]) rfl hl.1 rfl (Nat.le_of_ble_eq_true rfl) dM_actual_91 ⟨Nat.le_of_ble_eq_true rfl, Nat.le_of_ble_eq_true rfl⟩) (fun q91 S91 H locs hp91 hW => ?_)
                obtain ⟨eq91, hS91⟩ := hp91
                subst hS91
                subst eq91
                refine lv_goto (tgt := 98) hx hb dM_actual_94 (by decide) ?_
                refine k_iast hC hW sa_argument rfl rfl (by decide) (m_arguments (m_0 S y) y) rfl (by omega) dM_actual_98 (fun H locs hW => ?_)
                have eV : a_V (m_0 S y) y n h = p_ai (f_cp (m_0 S y) y (m_memory (m_0 S y) y q)) 27 a_argument (m_arguments (m_0 S y) y) (nI (m_used (m_0 S y) y)) := by rw [a_V, if_neg c_72, if_pos c_81, m_q, ea_argument, v_a_s, eq, nI_clamp (by omega)]
                have hW : g_W G (g_A S s.heap.size) s (a_V (m_0 S y) y n h) H locs := by rw [eV]; exact hW
                have hV : m_t (a_V (m_0 S y) y n h) := by rw [eV]; exact mt_pai (mt_cp hT hu) (fun _ => Or.inr ⟨_, rfl, hu⟩)
                have hV0 : g_sh (a_V (m_0 S y) y n h) y = some (.inl 3) := by rw [eV]; exact hY
                have eg : g_i (a_V (m_0 S y) y n h) 3 24 y = nI (m_arguments (m_0 S y) y) := by rw [eV]; exact e_arguments (S := m_0 S y) hT hT0
                have ebb : f_byM (a_V (m_0 S y) y n h) y n = f_byM (m_0 S y) y n := by rw [eV]; rfl
                have hr0 : f_runM (a_V (m_0 S y) y n h) y = f_runM (m_0 S y) y := by rw [eV]; rfl
                obtain ⟨a_argumentBytes, ea_argumentBytes, sa_argumentBytes⟩ := w_m_argumentBytes hT hT0
                have eq2 : g_r (a_V (m_0 S y) y n h) 3 27 y = some a_argumentBytes := by rw [eV]; exact ea_argumentBytes
                have sq2 : g_sh (a_V (m_0 S y) y n h) a_argumentBytes = some (.inr (28, 16)) := by rw [eV]; exact sa_argumentBytes
                refine s_aload_n (x := some y) hx hb dM_actual_99 rfl (lv_at hl 1 rfl) ?_
                refine s_getr hC hW gc_M iw_M 27 (by decide) uw_417 rfl hV0 (v := some a_argumentBytes) eq2 dM_actual_100 ?_
                refine s_aload_n (x := some y) hx hb dM_actual_103 rfl (lv_at hl 1 rfl) ?_
                refine s_geti hC hW gc_M iw_M 24 (by decide) uw_414 rfl hV0 (v := nI (m_arguments (m_0 S y) y)) eg dM_actual_104 ?_
                refine lv_iload_n hx hb dM_actual_107 rfl (lv_at hl 3 rfl) ?_
                refine lv_iconst (v := 2) hx hb dM_actual_108 (by decide) ?_
                refine lv_icmp_ne (tgt := 116) hx hb dM_actual_109 (by decide) (fun c_109 => ?_) (fun c => absurd c c_17)
                refine s_aload_n (x := some y) hx hb dM_actual_116 rfl (lv_at hl 1 rfl) ?_
                refine lv_iload_n hx hb dM_actual_117 rfl (lv_at hl 2 rfl) ?_
                refine s_calli hW (s_runV (n := 1) (As := [.int n]) (rest := [.int (nI (m_arguments (m_0 S y) y)), va_rf (some a_argumentBytes)]) hC (c_M_bytesOf l G (a_V (m_0 S y) y n h) H.size y n hV hV0 (fun z => by rw [hr0]; exact hc z)) uc_M_bytesOf uw_531 uw_533 us_M_bytesOf uw_4 rfl rfl (by decide +kernel) ⟨by decide, by decide⟩ (g_preV hW gc_M hV0 [.int n]) rfl hl.1 rfl (Nat.le_of_ble_eq_true rfl) dM_actual_118 ⟨Nat.le_of_ble_eq_true rfl, Nat.le_of_ble_eq_true rfl⟩) (fun q118 S118 H locs hp118 hW => ?_)
                obtain ⟨hs118, rfl⟩ := hp118
                replace hs118 := hs118.symm
                subst hs118
                refine k_iast hC hW sq2 rfl rfl (by decide) (m_arguments (m_0 S y) y) rfl (by omega) dM_actual_121 (fun H locs hW => ?_)
                refine s_aload_n (x := some y) hx hb dM_actual_122 rfl (lv_at hl 1 rfl) ?_
                refine lv_dup hx hb dM_actual_123 rfl ?_
                refine s_geti hC hW gc_M iw_M 24 (by decide) uw_414 rfl hV0 (v := nI (m_arguments (m_0 S y) y)) eg dM_actual_124 ?_
                refine lv_iconst (v := 1) hx hb dM_actual_127 (by decide) ?_
                refine lv_iadd hx hb dM_actual_128 ?_
                refine s_topi (nI_1 _) ?_
                refine s_puti hC hW gc_M iw_M 24 (by decide) uw_414 (Or.inl rfl) rfl rfl rfl hV0 dM_actual_129 (fun H locs hW => ?_)
                refine s_aload_n (x := some y) hx hb dM_actual_132 rfl (lv_at hl 1 rfl) ?_
                refine s_geti hC hW gc_M iw_M 24 (by decide) uw_414 rfl hV0 (v := nI ((m_arguments (m_0 S y) y) + 1)) (by simp [x_gs]) dM_actual_133 ?_
                refine lv_iconst (v := 1) hx hb dM_actual_136 (by decide) ?_
                refine lv_isub hx hb dM_actual_137 ?_
                refine s_topi (x_sub1 (by omega)) ?_
                exact s_iret hC hr hlocks rfl hW dM_actual_138 ⟨by rw [f_acM, if_neg (fun z => c_9 ((x_n0 (by omega)).mpr z)), if_neg c_31, if_neg c_36, if_neg c_17, if_neg (fun z => c_46 (ev_29.trans z)), if_neg c_58]; simp, by rw [f_acM, if_neg (fun z => c_9 ((x_n0 (by omega)).mpr z)), if_neg c_31, if_neg c_36, if_neg c_17, if_neg (fun z => c_46 (ev_29.trans z)), if_neg c_58, a_W, m_q, ea_argumentBytes, v_a_s, if_neg c_17, ← ebb]⟩
              · skip
                refine lv_iload_n hx hb dM_actual_75 rfl (lv_at hl 0 rfl) ?_
                refine lv_goto (tgt := 98) hx hb dM_actual_76 (by decide) ?_
                refine k_iast hC hW sa_argument rfl rfl (by decide) (m_arguments (m_0 S y) y) rfl (by omega) dM_actual_98 (fun H locs hW => ?_)
                have eV : a_V (m_0 S y) y n h = p_ai (m_0 S y) 27 a_argument (m_arguments (m_0 S y) y) v_29 := by rw [a_V, if_pos c_72, m_q, ea_argument, v_a_s, ← ev_29]
                have hW : g_W G (g_A S s.heap.size) s (a_V (m_0 S y) y n h) H locs := by rw [eV]; exact hW
                have hV : m_t (a_V (m_0 S y) y n h) := by rw [eV]; exact mt_pai hT (fun _ => Or.inr ⟨q, ev_29.trans eq, hq⟩)
                have hV0 : g_sh (a_V (m_0 S y) y n h) y = some (.inl 3) := by rw [eV]; exact hY
                have eg : g_i (a_V (m_0 S y) y n h) 3 24 y = nI (m_arguments (m_0 S y) y) := by rw [eV]; exact e_arguments (S := m_0 S y) hT hT0
                have ebb : f_byM (a_V (m_0 S y) y n h) y n = f_byM (m_0 S y) y n := by rw [eV]; rfl
                have hr0 : f_runM (a_V (m_0 S y) y n h) y = f_runM (m_0 S y) y := by rw [eV]; rfl
                obtain ⟨a_argumentBytes, ea_argumentBytes, sa_argumentBytes⟩ := w_m_argumentBytes hT hT0
                have eq2 : g_r (a_V (m_0 S y) y n h) 3 27 y = some a_argumentBytes := by rw [eV]; exact ea_argumentBytes
                have sq2 : g_sh (a_V (m_0 S y) y n h) a_argumentBytes = some (.inr (28, 16)) := by rw [eV]; exact sa_argumentBytes
                refine s_aload_n (x := some y) hx hb dM_actual_99 rfl (lv_at hl 1 rfl) ?_
                refine s_getr hC hW gc_M iw_M 27 (by decide) uw_417 rfl hV0 (v := some a_argumentBytes) eq2 dM_actual_100 ?_
                refine s_aload_n (x := some y) hx hb dM_actual_103 rfl (lv_at hl 1 rfl) ?_
                refine s_geti hC hW gc_M iw_M 24 (by decide) uw_414 rfl hV0 (v := nI (m_arguments (m_0 S y) y)) eg dM_actual_104 ?_
                refine lv_iload_n hx hb dM_actual_107 rfl (lv_at hl 3 rfl) ?_
                refine lv_iconst (v := 2) hx hb dM_actual_108 (by decide) ?_
                refine lv_icmp_ne (tgt := 116) hx hb dM_actual_109 (by decide) (fun c_109 => ?_) (fun c => absurd c c_17)
                refine s_aload_n (x := some y) hx hb dM_actual_116 rfl (lv_at hl 1 rfl) ?_
                refine lv_iload_n hx hb dM_actual_117 rfl (lv_at hl 2 rfl) ?_
                refine s_calli hW (s_runV (n := 1) (As := [.int n]) (rest := [.int (nI (m_arguments (m_0 S y) y)), va_rf (some a_argumentBytes)]) hC (c_M_bytesOf l G (a_V (m_0 S y) y n h) H.size y n hV hV0 (fun z => by rw [hr0]; exact hc z)) uc_M_bytesOf uw_531 uw_533 us_M_bytesOf uw_4 rfl rfl (by decide +kernel) ⟨by decide, by decide⟩ (g_preV hW gc_M hV0 [.int n]) rfl hl.1 rfl (Nat.le_of_ble_eq_true rfl) dM_actual_118 ⟨Nat.le_of_ble_eq_true rfl, Nat.le_of_ble_eq_true rfl⟩) (fun q118 S118 H locs hp118 hW => ?_)
                obtain ⟨hs118, rfl⟩ := hp118
                replace hs118 := hs118.symm
                subst hs118
                refine k_iast hC hW sq2 rfl rfl (by decide) (m_arguments (m_0 S y) y) rfl (by omega) dM_actual_121 (fun H locs hW => ?_)
                refine s_aload_n (x := some y) hx hb dM_actual_122 rfl (lv_at hl 1 rfl) ?_
                refine lv_dup hx hb dM_actual_123 rfl ?_
                refine s_geti hC hW gc_M iw_M 24 (by decide) uw_414 rfl hV0 (v := nI (m_arguments (m_0 S y) y)) eg dM_actual_124 ?_
                refine lv_iconst (v := 1) hx hb dM_actual_127 (by decide) ?_
                refine lv_iadd hx hb dM_actual_128 ?_
                refine s_topi (nI_1 _) ?_
                refine s_puti hC hW gc_M iw_M 24 (by decide) uw_414 (Or.inl rfl) rfl rfl rfl hV0 dM_actual_129 (fun H locs hW => ?_)
                refine s_aload_n (x := some y) hx hb dM_actual_132 rfl (lv_at hl 1 rfl) ?_
                refine s_geti hC hW gc_M iw_M 24 (by decide) uw_414 rfl hV0 (v := nI ((m_arguments (m_0 S y) y) + 1)) (by simp [x_gs]) dM_actual_133 ?_
                refine lv_iconst (v := 1) hx hb dM_actual_136 (by decide) ?_
                refine lv_isub hx hb dM_actual_137 ?_
                refine s_topi (x_sub1 (by omega)) ?_
                exact s_iret hC hr hlocks rfl hW dM_actual_138 ⟨by rw [f_acM, if_neg (fun z => c_9 ((x_n0 (by omega)).mpr z)), if_neg c_31, if_neg c_36, if_neg c_17, if_neg (fun z => c_46 (ev_29.trans z)), if_neg c_58]; simp, by rw [f_acM, if_neg (fun z => c_9 ((x_n0 (by omega)).mpr z)), if_neg c_31, if_neg c_36, if_neg c_17, if_neg (fun z => c_46 (ev_29.trans z)), if_neg c_58, a_W, m_q, ea_argumentBytes, v_a_s, if_neg c_17, ← ebb]⟩
            · skip
              refine lv_iconst (v := (-1)) hx hb dM_actual_61 (by decide) ?_
              exact s_iret hC hr hlocks rfl hW dM_actual_62 ⟨by rw [f_acM, if_neg (fun z => c_9 ((x_n0 (by omega)).mpr z)), if_neg c_31, if_neg c_36, if_neg c_17, if_neg (fun z => c_46 (ev_29.trans z)), if_pos c_58], by rw [f_acM, if_neg (fun z => c_9 ((x_n0 (by omega)).mpr z)), if_neg c_31, if_neg c_36, if_neg c_17, if_neg (fun z => c_46 (ev_29.trans z)), if_pos c_58]⟩
          · skip
            refine lv_bipush (v := (-2)) hx hb dM_actual_49 (by decide) ?_
            exact s_iret hC hr hlocks rfl hW dM_actual_51 ⟨by rw [f_acM, if_neg (fun z => c_9 ((x_n0 (by omega)).mpr z)), if_neg c_31, if_neg c_36, if_neg c_17, if_pos (ev_29.symm.trans c_46)], by rw [f_acM, if_neg (fun z => c_9 ((x_n0 (by omega)).mpr z)), if_neg c_31, if_neg c_36, if_neg c_17, if_pos (ev_29.symm.trans c_46)]⟩
    · skip
      refine lv_iconst (v := (-1)) hx hb dM_actual_20 (by decide) ?_
      refine lv_goto (tgt := 29) hx hb dM_actual_21 (by decide) ?_
      refine lv_istore_n (lv' := [(3, .int (-1)), (0, va_rf (some y)), (1, .int n), (2, .int h)]) hx hb dM_actual_29 rfl hl (by decide) rfl (fun ls hl => ?_)
      refine lv_iload_n hx hb dM_actual_30 rfl (lv_at hl 3 rfl) ?_
      refine lv_if_lt (tgt := 49) hx hb dM_actual_31 (by decide) (fun c_31 => ?_) (fun c_31 => ?_)
      · skip
        refine lv_bipush (v := (-2)) hx hb dM_actual_49 (by decide) ?_
        exact s_iret hC hr hlocks rfl hW dM_actual_51 ⟨by rw [f_acM, if_neg (fun z => c_9 ((x_n0 (by omega)).mpr z)), if_pos c_31], by rw [f_acM, if_neg (fun z => c_9 ((x_n0 (by omega)).mpr z)), if_pos c_31]⟩
      · skip
        refine lv_iload_n hx hb dM_actual_34 rfl (lv_at hl 3 rfl) ?_
        refine lv_iconst (v := 2) hx hb dM_actual_35 (by decide) ?_
        refine lv_icmp_gt (tgt := 49) hx hb dM_actual_36 (by decide) (fun c_36 => ?_) (fun c_36 => ?_)
        · skip
          refine lv_bipush (v := (-2)) hx hb dM_actual_49 (by decide) ?_
          exact s_iret hC hr hlocks rfl hW dM_actual_51 ⟨by rw [f_acM, if_neg (fun z => c_9 ((x_n0 (by omega)).mpr z)), if_neg c_31, if_pos c_36], by rw [f_acM, if_neg (fun z => c_9 ((x_n0 (by omega)).mpr z)), if_neg c_31, if_pos c_36]⟩
        · skip
          refine lv_iload_n hx hb dM_actual_39 rfl (lv_at hl 3 rfl) ?_
          refine lv_iconst (v := 2) hx hb dM_actual_40 (by decide) ?_
          refine lv_icmp_eq (tgt := 52) hx hb dM_actual_41 (by decide) (fun c_41 => ?_) (fun c => absurd c_17 c)
          refine s_aload_n (x := some y) hx hb dM_actual_52 rfl (lv_at hl 1 rfl) ?_
          refine s_geti hC hW gc_M iw_M 24 (by decide) uw_414 rfl hT0 (v := nI (m_arguments (m_0 S y) y)) (e_arguments (S := m_0 S y) hT hT0) dM_actual_53 ?_
          refine lv_bipush (v := 16) hx hb dM_actual_56 (by decide) ?_
          refine lv_icmp_ne (tgt := 63) hx hb dM_actual_58 (by decide) (fun c_58 => ?_) (fun c_58 => ?_)
          · skip
            have hg16 : m_arguments (m_0 S y) y ≠ 16 := fun z => c_58 (by rw [z]; rfl)
            refine s_aload_n (x := some y) hx hb dM_actual_63 rfl (lv_at hl 1 rfl) ?_
            obtain ⟨a_argument, ea_argument, sa_argument⟩ := w_m_argument hT hT0
            refine s_getr hC hW gc_M iw_M 26 (by decide) uw_416 rfl hT0 (v := some a_argument) ea_argument dM_actual_64 ?_
            refine s_aload_n (x := some y) hx hb dM_actual_67 rfl (lv_at hl 1 rfl) ?_
            refine s_geti hC hW gc_M iw_M 24 (by decide) uw_414 rfl hT0 (v := nI (m_arguments (m_0 S y) y)) (e_arguments (S := m_0 S y) hT hT0) dM_actual_68 ?_
            refine lv_iload_n hx hb dM_actual_71 rfl (lv_at hl 3 rfl) ?_
            refine lv_if_ne (tgt := 79) hx hb dM_actual_72 (by decide) (fun c_72 => ?_) (fun c => absurd (c.symm.trans c_17) (by decide))
            refine lv_iload_n hx hb dM_actual_79 rfl (lv_at hl 3 rfl) ?_
            refine lv_iconst (v := 1) hx hb dM_actual_80 (by decide) ?_
            refine lv_icmp_ne (tgt := 97) hx hb dM_actual_81 (by decide) (fun c_81 => ?_) (fun c => absurd (c.symm.trans c_17) (by decide))
            refine lv_iconst (v := (-1)) hx hb dM_actual_97 (by decide) ?_
            refine k_iast hC hW sa_argument rfl rfl (by decide) (m_arguments (m_0 S y) y) rfl (by omega) dM_actual_98 (fun H locs hW => ?_)
            have eV : a_V (m_0 S y) y n h = p_ai (m_0 S y) 27 a_argument (m_arguments (m_0 S y) y) (-1) := by rw [a_V, if_neg c_72, if_neg c_81, m_q, ea_argument, v_a_s]
            have hW : g_W G (g_A S s.heap.size) s (a_V (m_0 S y) y n h) H locs := by rw [eV]; exact hW
            have hV : m_t (a_V (m_0 S y) y n h) := by rw [eV]; exact mt_pai hT (fun _ => Or.inl rfl)
            have hV0 : g_sh (a_V (m_0 S y) y n h) y = some (.inl 3) := by rw [eV]; exact hY
            have eg : g_i (a_V (m_0 S y) y n h) 3 24 y = nI (m_arguments (m_0 S y) y) := by rw [eV]; exact e_arguments (S := m_0 S y) hT hT0
            have ebb : f_byM (a_V (m_0 S y) y n h) y n = f_byM (m_0 S y) y n := by rw [eV]; rfl
            have hr0 : f_runM (a_V (m_0 S y) y n h) y = f_runM (m_0 S y) y := by rw [eV]; rfl
            obtain ⟨a_argumentBytes, ea_argumentBytes, sa_argumentBytes⟩ := w_m_argumentBytes hT hT0
            have eq2 : g_r (a_V (m_0 S y) y n h) 3 27 y = some a_argumentBytes := by rw [eV]; exact ea_argumentBytes
            have sq2 : g_sh (a_V (m_0 S y) y n h) a_argumentBytes = some (.inr (28, 16)) := by rw [eV]; exact sa_argumentBytes
            refine s_aload_n (x := some y) hx hb dM_actual_99 rfl (lv_at hl 1 rfl) ?_
            refine s_getr hC hW gc_M iw_M 27 (by decide) uw_417 rfl hV0 (v := some a_argumentBytes) eq2 dM_actual_100 ?_
            refine s_aload_n (x := some y) hx hb dM_actual_103 rfl (lv_at hl 1 rfl) ?_
            refine s_geti hC hW gc_M iw_M 24 (by decide) uw_414 rfl hV0 (v := nI (m_arguments (m_0 S y) y)) eg dM_actual_104 ?_
            refine lv_iload_n hx hb dM_actual_107 rfl (lv_at hl 3 rfl) ?_
            refine lv_iconst (v := 2) hx hb dM_actual_108 (by decide) ?_
            refine lv_icmp_ne (tgt := 116) hx hb dM_actual_109 (by decide) (fun c => absurd c_17 c) (fun c_109 => ?_)
            refine lv_iconst (v := 0) hx hb dM_actual_112 (by decide) ?_
            refine lv_goto (tgt := 121) hx hb dM_actual_113 (by decide) ?_
            refine k_iast hC hW sq2 rfl rfl (by decide) (m_arguments (m_0 S y) y) rfl (by omega) dM_actual_121 (fun H locs hW => ?_)
            refine s_aload_n (x := some y) hx hb dM_actual_122 rfl (lv_at hl 1 rfl) ?_
            refine lv_dup hx hb dM_actual_123 rfl ?_
            refine s_geti hC hW gc_M iw_M 24 (by decide) uw_414 rfl hV0 (v := nI (m_arguments (m_0 S y) y)) eg dM_actual_124 ?_
            refine lv_iconst (v := 1) hx hb dM_actual_127 (by decide) ?_
            refine lv_iadd hx hb dM_actual_128 ?_
            refine s_topi (nI_1 _) ?_
            refine s_puti hC hW gc_M iw_M 24 (by decide) uw_414 (Or.inl rfl) rfl rfl rfl hV0 dM_actual_129 (fun H locs hW => ?_)
            refine s_aload_n (x := some y) hx hb dM_actual_132 rfl (lv_at hl 1 rfl) ?_
            refine s_geti hC hW gc_M iw_M 24 (by decide) uw_414 rfl hV0 (v := nI ((m_arguments (m_0 S y) y) + 1)) (by simp [x_gs]) dM_actual_133 ?_
            refine lv_iconst (v := 1) hx hb dM_actual_136 (by decide) ?_
            refine lv_isub hx hb dM_actual_137 ?_
            refine s_topi (x_sub1 (by omega)) ?_
            exact s_iret hC hr hlocks rfl hW dM_actual_138 ⟨by rw [f_acM, if_neg (fun z => c_9 ((x_n0 (by omega)).mpr z)), if_neg c_31, if_neg c_36, if_pos c_17, if_neg c_58]; simp, by rw [f_acM, if_neg (fun z => c_9 ((x_n0 (by omega)).mpr z)), if_neg c_31, if_neg c_36, if_pos c_17, if_neg c_58, a_W, m_q, ea_argumentBytes, v_a_s, if_pos c_17]⟩
          · skip
            refine lv_iconst (v := (-1)) hx hb dM_actual_61 (by decide) ?_
            exact s_iret hC hr hlocks rfl hW dM_actual_62 ⟨by rw [f_acM, if_neg (fun z => c_9 ((x_n0 (by omega)).mpr z)), if_neg c_31, if_neg c_36, if_pos c_17, if_pos c_58], by rw [f_acM, if_neg (fun z => c_9 ((x_n0 (by omega)).mpr z)), if_neg c_31, if_neg c_36, if_pos c_17, if_pos c_58]⟩
  · skip
    refine lv_bipush (v := (-4)) hx hb dM_actual_12 (by decide) ?_
    exact s_iret hC hr hlocks rfl hW dM_actual_14 ⟨by rw [f_acM, if_pos ((x_n0 (by omega)).mp c_9)], by rw [f_acM, if_pos ((x_n0 (by omega)).mp c_9)]⟩
