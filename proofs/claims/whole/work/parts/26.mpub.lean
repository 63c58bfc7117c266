/-! the reference's code is 0 first -/
def m_0 (S : gs_S) (y : Nat) : gs_S := p_i S 3 0 y 0
theorem mt_0 {S : gs_S} {y : Nat} (hM : m_t S) : m_t (m_0 S y) := mt_pi0 hM (by decide)

/-! M.set, M.get -/
def f_setM (T : gs_S) (y : Nat) (n : Int32) (v : Int64) : Int32 × gs_S := if f_plM T y n = -1 then (-2, T) else (1, f_st T y (f_plM T y n).toNatClampNeg (f_byM T y n) v)

set_option maxHeartbeats 4000000 in
set_option maxRecDepth 100000 in
theorem c_M_set (l : Launch) (G : gs_G) (S : gs_S) (sz : Nat) (y : Nat) (n : Int32) (v : Int64) (hM : m_t S) (hY : g_sh S y = some (.inl 3)) : Met l yM_set (kM_set :: gU) { frames := 2, cells := 0, slots := 0, locals := 49 } (g_Pc G S sz [va_rf (some y), .int n, .long v]) (g_Qi G S sz (fun r S' => r = (f_setM (m_0 S y) y n v).1 ∧ S' = (f_setM (m_0 S y) y n v).2)) 0 0 (g_A S sz) := by
  refine s_head (by decide) (Nat.le_of_ble_eq_true rfl) ?_
  intro p e s m below meth c ls hsz hC hr hlocks hnm hl hW
  subst hsz
  obtain ⟨hx, hb, hml, hown, hts⟩ := id hC
  have hl : lv_has ls 5 [(0, va_rf (some y)), (1, .int n), (2, .long v)] := hl
  refine s_aload_n (x := some y) hx hb dM_set_0 rfl (lv_at hl 0 rfl) ?_
  refine lv_iconst (v := 0) hx hb dM_set_1 (by decide) ?_
  refine s_puti hC hW gc_M iw_M 0 (by decide) uw_390 (Or.inl rfl) rfl rfl rfl hY dM_set_2 (fun H locs hW => ?_)
  have hT : m_t (m_0 S y) := mt_0 hM
  have hT0 : g_sh (m_0 S y) y = some (.inl 3) := hY
  have hW : g_W G (g_A S s.heap.size) s (m_0 S y) H locs := hW
  have h_programs := b_programs hT hT0
  have h_cells := b_cells hT hT0
  have h_active := b_active hT hT0
  have h_prepared := b_prepared hT hT0
  have h_arguments := b_arguments hT hT0
  have h_used := b_used hT hT0
  have h_preparedAhead := b_preparedAhead hT hT0
  refine s_aload_n (x := some y) hx hb dM_set_5 rfl (lv_at hl 0 rfl) ?_
  refine lv_iload_n hx hb dM_set_6 rfl (lv_at hl 1 rfl) ?_
  refine s_calli hW (s_runV (n := 1) (As := [.int n]) (rest := []) hC (c_M_place l G (m_0 S y) H.size y n hT hT0) uc_M_place uw_514 uw_516 us_M_place uw_4 rfl rfl (by decide +kernel) ⟨by decide, by decide⟩ (g_preV hW gc_M hT0 [.int n]) rfl hl.1 rfl (Nat.le_of_ble_eq_true rfl) dM_set_7 ⟨Nat.le_of_ble_eq_true rfl, Nat.le_of_ble_eq_true rfl⟩) (fun q7 S7 H locs hp7 hW => ?_)
  obtain ⟨hs7, rfl⟩ := hp7
  replace hs7 := hs7.symm
  subst hs7
  refine lv_topi (fun v_10 ev_10 => ?_)
  refine lv_istore (lv' := [(4, .int v_10), (0, va_rf (some y)), (1, .int n), (2, .long v)]) hx hb dM_set_10 hl (by decide) rfl (fun ls hl => ?_)
  refine lv_iload hx hb dM_set_12 (lv_at hl 0 rfl) ?_
  refine lv_iconst (v := (-1)) hx hb dM_set_14 (by decide) ?_
  refine lv_icmp_ne (tgt := 21) hx hb dM_set_15 (by decide) (fun c_15 => ?_) (fun c_15 => ?_)
  · skip
    obtain ⟨hc, q, hq, eq⟩ := x_plM hT hT0 (fun z => c_15 (ev_10.trans z))
    refine s_aload_n (x := some y) hx hb dM_set_21 rfl (lv_at hl 1 rfl) ?_
    refine lv_iload hx hb dM_set_22 (lv_at hl 0 rfl) ?_
    refine s_topi (ev_10.trans eq) ?_
    refine s_aload_n (x := some y) hx hb dM_set_24 rfl (lv_at hl 1 rfl) ?_
    refine lv_iload_n hx hb dM_set_25 rfl (lv_at hl 2 rfl) ?_
    refine s_calli hW (s_runV (n := 1) (As := [.int n]) (rest := [.int (nI q), va_rf (some y)]) hC (c_M_bytesOf l G (m_0 S y) H.size y n hT hT0 hc) uc_M_bytesOf uw_531 uw_533 us_M_bytesOf uw_4 rfl rfl (by decide +kernel) ⟨by decide, by decide⟩ (g_preV hW gc_M hT0 [.int n]) rfl hl.1 rfl (Nat.le_of_ble_eq_true rfl) dM_set_26 ⟨Nat.le_of_ble_eq_true rfl, Nat.le_of_ble_eq_true rfl⟩) (fun q26 S26 H locs hp26 hW => ?_)
    obtain ⟨hs26, rfl⟩ := hp26
    replace hs26 := hs26.symm
    subst hs26
    refine lv_lload_n hx hb dM_set_29 rfl (lv_at hl 3 rfl) ?_
    refine s_callv hW (s_runV (n := 3) (As := [.int (nI q), .int (f_byM (m_0 S y) y n), .long v]) (rest := []) hC (c_M_store l G (m_0 S y) H.size y q (f_byM (m_0 S y) y n) v hT hT0 (by omega)) uc_M_store uw_535 uw_537 us_M_store uw_4 rfl rfl (by decide +kernel) ⟨by decide, by decide⟩ (g_preV hW gc_M hT0 [.int (nI q), .int (f_byM (m_0 S y) y n), .long v]) rfl hl.1 rfl (Nat.le_of_ble_eq_true rfl) dM_set_30 ⟨Nat.le_of_ble_eq_true rfl, Nat.le_of_ble_eq_true rfl⟩) (fun S30 H locs hp30 hW => ?_)
    subst hp30
    refine lv_iconst (v := 1) hx hb dM_set_33 (by decide) ?_
    exact s_iret hC hr hlocks rfl hW dM_set_34 ⟨by rw [f_setM, if_neg (fun z => c_15 (ev_10.trans z)), eq, nI_clamp (by omega)], by rw [f_setM, if_neg (fun z => c_15 (ev_10.trans z)), eq, nI_clamp (by omega)]⟩
  · skip
    refine lv_bipush (v := (-2)) hx hb dM_set_18 (by decide) ?_
    exact s_iret hC hr hlocks rfl hW dM_set_20 ⟨by rw [f_setM, if_pos (ev_10.symm.trans c_15)], by rw [f_setM, if_pos (ev_10.symm.trans c_15)]⟩

def f_getM (S : gs_S) (y : Nat) (n : Int32) : Int64 × gs_S := if f_plM S y n = -1 then (0, p_i S 3 0 y 1) else (f_sg (m_memory S y (f_plM S y n).toNatClampNeg) (f_byM S y n), p_i S 3 0 y 0)

set_option maxHeartbeats 4000000 in
set_option maxRecDepth 100000 in
theorem c_M_get (l : Launch) (G : gs_G) (S : gs_S) (sz : Nat) (y : Nat) (n : Int32) (hM : m_t S) (hY : g_sh S y = some (.inl 3)) : Met l yM_get (kM_get :: gU) { frames := 2, cells := 0, slots := 0, locals := 49 } (g_Pc G S sz [va_rf (some y), .int n]) (g_Ql G S sz (fun r S' => r = (f_getM S y n).1 ∧ S' = (f_getM S y n).2)) 0 0 (g_A S sz) := by
  refine s_head (by decide) (Nat.le_of_ble_eq_true rfl) ?_
  intro p e s m below meth c ls hsz hC hr hlocks hnm hl hW
  subst hsz
  obtain ⟨hx, hb, hml, hown, hts⟩ := id hC
  have hl : lv_has ls 3 [(0, va_rf (some y)), (1, .int n)] := hl
  refine s_aload_n (x := some y) hx hb dM_get_0 rfl (lv_at hl 0 rfl) ?_
  refine lv_iload_n hx hb dM_get_1 rfl (lv_at hl 1 rfl) ?_
  refine s_calli hW (s_runV (n := 1) (As := [.int n]) (rest := []) hC (c_M_place l G S s.heap.size y n hM hY) uc_M_place uw_514 uw_516 us_M_place uw_4 rfl rfl (by decide +kernel) ⟨by decide, by decide⟩ (g_preV hW gc_M hY [.int n]) rfl hl.1 rfl (Nat.le_of_ble_eq_true rfl) dM_get_2 ⟨Nat.le_of_ble_eq_true rfl, Nat.le_of_ble_eq_true rfl⟩) (fun q2 S2 H locs hp2 hW => ?_)
  obtain ⟨hs2, rfl⟩ := hp2
  replace hs2 := hs2.symm
  subst hs2
  refine lv_topi (fun v_5 ev_5 => ?_)
  refine lv_istore_n (lv' := [(2, .int v_5), (0, va_rf (some y)), (1, .int n)]) hx hb dM_get_5 rfl hl (by decide) rfl (fun ls hl => ?_)
  refine s_aload_n (x := some y) hx hb dM_get_6 rfl (lv_at hl 1 rfl) ?_
  refine lv_iload_n hx hb dM_get_7 rfl (lv_at hl 0 rfl) ?_
  refine lv_iconst (v := (-1)) hx hb dM_get_8 (by decide) ?_
  refine lv_icmp_ne (tgt := 16) hx hb dM_get_9 (by decide) (fun c_9 => ?_) (fun c_9 => ?_)
  · skip
    refine lv_iconst (v := 0) hx hb dM_get_16 (by decide) ?_
    refine s_puti hC hW gc_M iw_M 0 (by decide) uw_390 (Or.inl rfl) rfl rfl rfl hY dM_get_17 (fun H locs hW => ?_)
    refine lv_iload_n hx hb dM_get_20 rfl (lv_at hl 0 rfl) ?_
    refine lv_iconst (v := (-1)) hx hb dM_get_21 (by decide) ?_
    refine lv_icmp_ne (tgt := 29) hx hb dM_get_22 (by decide) (fun c_22 => ?_) (fun c => absurd c c_9)
    obtain ⟨hc, q, hq, eq⟩ := x_plM hM hY (fun z => c_9 (ev_5.trans z))
    refine s_aload_n (x := some y) hx hb dM_get_29 rfl (lv_at hl 1 rfl) ?_
    obtain ⟨a_memory, ea_memory, sa_memory⟩ := w_m_memory hM hY
    refine s_getr hC hW gc_M iw_M 16 (by decide) uw_406 rfl hY (v := some a_memory) ea_memory dM_get_30 ?_
    refine lv_iload_n hx hb dM_get_33 rfl (lv_at hl 0 rfl) ?_
    refine k_lald hC hW sa_memory rfl rfl (by decide) q (ev_5.trans eq) hq (v := m_memory S y q) (e_memory (S := S) ea_memory) dM_get_34 ?_
    refine s_aload_n (x := some y) hx hb dM_get_35 rfl (lv_at hl 1 rfl) ?_
    refine lv_iload_n hx hb dM_get_36 rfl (lv_at hl 2 rfl) ?_
    refine s_calli hW (s_runV (n := 1) (As := [.int n]) (rest := [.long (m_memory S y q)]) hC (c_M_bytesOf l G (p_i S 3 0 y 0) H.size y n (mt_pi0 hM (by decide)) hY hc) uc_M_bytesOf uw_531 uw_533 us_M_bytesOf uw_4 rfl rfl (by decide +kernel) ⟨by decide, by decide⟩ (g_preV hW gc_M hY [.int n]) rfl hl.1 rfl (Nat.le_of_ble_eq_true rfl) dM_get_37 ⟨Nat.le_of_ble_eq_true rfl, Nat.le_of_ble_eq_true rfl⟩) (fun q37 S37 H locs hp37 hW => ?_)
    obtain ⟨hs37, rfl⟩ := hp37
    replace hs37 := hs37.symm
    subst hs37
    refine s_calll hW (s_runS (n := 2) (As := [.long (m_memory S y q), .int (f_byM (p_i S 3 0 y 0) y n)]) (rest := []) hC (c_M_signed l G (p_i S 3 0 y 0) H.size (m_memory S y q) (f_byM (p_i S 3 0 y 0) y n)) uc_M_signed uw_543 uw_544 uw_4 rfl rfl (by decide +kernel) ⟨by decide, by decide⟩ (g_preS hW [.long (m_memory S y q), .int (f_byM (p_i S 3 0 y 0) y n)]) rfl hl.1 rfl (Nat.le_of_ble_eq_true rfl) dM_get_40 ⟨Nat.le_of_ble_eq_true rfl, Nat.le_of_ble_eq_true rfl⟩) (fun q40 S40 H locs hp40 hW => ?_)
    obtain ⟨hs40, rfl⟩ := hp40
    replace hs40 := hs40.symm
    subst hs40
    exact s_lret hC hr hlocks hW dM_get_43 ⟨by rw [f_getM, if_neg (fun z => c_9 (ev_5.trans z)), eq, nI_clamp (by omega)]; rfl, by rw [f_getM, if_neg (fun z => c_9 (ev_5.trans z))]⟩
  · skip
    refine lv_iconst (v := 1) hx hb dM_get_12 (by decide) ?_
    refine lv_goto (tgt := 17) hx hb dM_get_13 (by decide) ?_
    refine s_puti hC hW gc_M iw_M 0 (by decide) uw_390 (Or.inl rfl) rfl rfl rfl hY dM_get_17 (fun H locs hW => ?_)
    refine lv_iload_n hx hb dM_get_20 rfl (lv_at hl 0 rfl) ?_
    refine lv_iconst (v := (-1)) hx hb dM_get_21 (by decide) ?_
    refine lv_icmp_ne (tgt := 29) hx hb dM_get_22 (by decide) (fun c => absurd c_9 c) (fun c_22 => ?_)
    refine lv_lconst (v := 0) hx hb dM_get_25 (by decide) ?_
    refine lv_goto (tgt := 43) hx hb dM_get_26 (by decide) ?_
    exact s_lret hC hr hlocks hW dM_get_43 ⟨by rw [f_getM, if_pos (ev_5.symm.trans c_9)], by rw [f_getM, if_pos (ev_5.symm.trans c_9)]⟩

/-! M.program -/
def f_prM (T : gs_S) (y : Nat) (wi nm mk : Int32) : Int32 × gs_S := if wi < 0 then (-2, T) else if nI (m_programs T y) < wi then (-2, T) else if f_isName nm = 0 then (-2, T) else if mk < 0 then (-2, T) else if mk ≤ 15 then (if nI (m_active T y) ≤ 0 then (if nI (f_dyM T y wi nm) = 0 then (if nI (m_programs T y) = 60 then (-1, T) else (nI (m_programs T y + 1), p_ai (p_ai (p_ai (p_i T 3 8 y (nI (m_programs T y + 1))) 10 (m_q T y 2) (m_programs T y + 1) wi) 11 (m_q T y 3) (m_programs T y + 1) nm) 12 (m_q T y 4) (m_programs T y + 1) mk)) else (-3, T)) else (-4, T)) else (-2, T)

set_option maxHeartbeats 4000000 in
set_option maxRecDepth 100000 in
theorem c_M_program (l : Launch) (G : gs_G) (S : gs_S) (sz : Nat) (y : Nat) (wi nm mk : Int32) (hM : m_t S) (hY : g_sh S y = some (.inl 3)) : Met l yM_program (kM_program :: gU) { frames := 1, cells := 0, slots := 0, locals := 24 } (g_Pc G S sz [va_rf (some y), .int wi, .int nm, .int mk]) (g_Qi G S sz (fun r S' => r = (f_prM (m_0 S y) y wi nm mk).1 ∧ S' = (f_prM (m_0 S y) y wi nm mk).2)) 0 0 (g_A S sz) := by
  refine s_head (by decide) (Nat.le_of_ble_eq_true rfl) ?_
  intro p e s m below meth c ls hsz hC hr hlocks hnm hl hW
  subst hsz
  obtain ⟨hx, hb, hml, hown, hts⟩ := id hC
  have hl : lv_has ls 4 [(0, va_rf (some y)), (1, .int wi), (2, .int nm), (3, .int mk)] := hl
  refine s_aload_n (x := some y) hx hb dM_program_0 rfl (lv_at hl 0 rfl) ?_
  refine lv_iconst (v := 0) hx hb dM_program_1 (by decide) ?_
  refine s_puti hC hW gc_M iw_M 0 (by decide) uw_390 (Or.inl rfl) rfl rfl rfl hY dM_program_2 (fun H locs hW => ?_)
  have hT : m_t (m_0 S y) := mt_0 hM
  have hT0 : g_sh (m_0 S y) y = some (.inl 3) := hY
  have hW : g_W G (g_A S s.heap.size) s (m_0 S y) H locs := hW
  have h_programs := b_programs hT hT0
  have h_cells := b_cells hT hT0
  have h_active := b_active hT hT0
  have h_prepared := b_prepared hT hT0
  have h_arguments := b_arguments hT hT0
  have h_used := b_used hT hT0
  have h_preparedAhead := b_preparedAhead hT hT0
  refine lv_iload_n hx hb dM_program_5 rfl (lv_at hl 1 rfl) ?_
  refine lv_if_lt (tgt := 34) hx hb dM_program_6 (by decide) (fun c_6 => ?_) (fun c_6 => ?_)
  · skip
    refine lv_bipush (v := (-2)) hx hb dM_program_34 (by decide) ?_
    exact s_iret hC hr hlocks rfl hW dM_program_36 ⟨by rw [f_prM, if_pos c_6], by rw [f_prM, if_pos c_6]⟩
  · skip
    refine lv_iload_n hx hb dM_program_9 rfl (lv_at hl 1 rfl) ?_
    refine s_aload_n (x := some y) hx hb dM_program_10 rfl (lv_at hl 0 rfl) ?_
    refine s_geti hC hW gc_M iw_M 8 (by decide) uw_398 rfl hT0 (v := nI (m_programs (m_0 S y) y)) (e_programs (S := m_0 S y) hT hT0) dM_program_11 ?_
    refine lv_icmp_gt (tgt := 34) hx hb dM_program_14 (by decide) (fun c_14 => ?_) (fun c_14 => ?_)
    · skip
      refine lv_bipush (v := (-2)) hx hb dM_program_34 (by decide) ?_
      exact s_iret hC hr hlocks rfl hW dM_program_36 ⟨by rw [f_prM, if_neg c_6, if_pos c_14], by rw [f_prM, if_neg c_6, if_pos c_14]⟩
    · skip
      refine lv_iload_n hx hb dM_program_17 rfl (lv_at hl 2 rfl) ?_
      refine s_calli hW (s_runS (n := 1) (As := [.int nm]) (rest := []) hC (c_M_isName l G (m_0 S y) H.size nm) uc_M_isName uw_487 uw_488 uw_4 rfl rfl (by decide +kernel) ⟨by decide, by decide⟩ (g_preS hW [.int nm]) rfl hl.1 rfl (Nat.le_of_ble_eq_true rfl) dM_program_18 ⟨Nat.le_of_ble_eq_true rfl, Nat.le_of_ble_eq_true rfl⟩) (fun q18 S18 H locs hp18 hW => ?_)
      obtain ⟨hs18, rfl⟩ := hp18
      replace hs18 := hs18.symm
      subst hs18
      refine lv_if_eq (tgt := 34) hx hb dM_program_21 (by decide) (fun c_21 => ?_) (fun c_21 => ?_)
      · skip
        refine lv_bipush (v := (-2)) hx hb dM_program_34 (by decide) ?_
        exact s_iret hC hr hlocks rfl hW dM_program_36 ⟨by rw [f_prM, if_neg c_6, if_neg c_14, if_pos c_21], by rw [f_prM, if_neg c_6, if_neg c_14, if_pos c_21]⟩
      · skip
        refine lv_iload_n hx hb dM_program_24 rfl (lv_at hl 3 rfl) ?_
        refine lv_if_lt (tgt := 34) hx hb dM_program_25 (by decide) (fun c_25 => ?_) (fun c_25 => ?_)
        · skip
          refine lv_bipush (v := (-2)) hx hb dM_program_34 (by decide) ?_
          exact s_iret hC hr hlocks rfl hW dM_program_36 ⟨by rw [f_prM, if_neg c_6, if_neg c_14, if_neg c_21, if_pos c_25], by rw [f_prM, if_neg c_6, if_neg c_14, if_neg c_21, if_pos c_25]⟩
        · skip
          refine lv_iload_n hx hb dM_program_28 rfl (lv_at hl 3 rfl) ?_
          refine lv_bipush (v := 15) hx hb dM_program_29 (by decide) ?_
          refine lv_icmp_le (tgt := 37) hx hb dM_program_31 (by decide) (fun c_31 => ?_) (fun c_31 => ?_)
          · skip
            refine s_aload_n (x := some y) hx hb dM_program_37 rfl (lv_at hl 0 rfl) ?_
            refine s_geti hC hW gc_M iw_M 22 (by decide) uw_412 rfl hT0 (v := nI (m_active (m_0 S y) y)) (e_active (S := m_0 S y) hT hT0) dM_program_38 ?_
            refine lv_if_le (tgt := 47) hx hb dM_program_41 (by decide) (fun c_41 => ?_) (fun c_41 => ?_)
            · skip
              refine s_aload_n (x := some y) hx hb dM_program_47 rfl (lv_at hl 0 rfl) ?_
              refine lv_iload_n hx hb dM_program_48 rfl (lv_at hl 1 rfl) ?_
              refine lv_iload_n hx hb dM_program_49 rfl (lv_at hl 2 rfl) ?_
              refine s_calli hW (s_runV (n := 2) (As := [.int wi, .int nm]) (rest := []) hC (c_M_directly l G (m_0 S y) H.size y wi nm hT hT0) uc_M_directly uw_490 uw_492 us_M_directly uw_4 rfl rfl (by decide +kernel) ⟨by decide, by decide⟩ (g_preV hW gc_M hT0 [.int wi, .int nm]) rfl hl.1 rfl (Nat.le_of_ble_eq_true rfl) dM_program_50 ⟨Nat.le_of_ble_eq_true rfl, Nat.le_of_ble_eq_true rfl⟩) (fun q50 S50 H locs hp50 hW => ?_)
              obtain ⟨hs50, rfl⟩ := hp50
              replace hs50 := hs50.symm
              subst hs50
              have hdy50 := b_dyM (ins := wi) (nm := nm) hT hT0
              refine lv_if_eq (tgt := 59) hx hb dM_program_53 (by decide) (fun c_53 => ?_) (fun c_53 => ?_)
              · skip
                refine s_aload_n (x := some y) hx hb dM_program_59 rfl (lv_at hl 0 rfl) ?_
                refine s_geti hC hW gc_M iw_M 8 (by decide) uw_398 rfl hT0 (v := nI (m_programs (m_0 S y) y)) (e_programs (S := m_0 S y) hT hT0) dM_program_60 ?_
                refine lv_bipush (v := 60) hx hb dM_program_63 (by decide) ?_
                refine lv_icmp_ne (tgt := 70) hx hb dM_program_65 (by decide) (fun c_65 => ?_) (fun c_65 => ?_)
                · skip
                  have hp60 : m_programs (m_0 S y) y ≠ 60 := fun z => c_65 (by rw [z]; rfl)
                  refine s_aload_n (x := some y) hx hb dM_program_70 rfl (lv_at hl 0 rfl) ?_
                  refine lv_dup hx hb dM_program_71 rfl ?_
                  refine s_geti hC hW gc_M iw_M 8 (by decide) uw_398 rfl hT0 (v := nI (m_programs (m_0 S y) y)) (e_programs (S := m_0 S y) hT hT0) dM_program_72 ?_
                  refine lv_iconst (v := 1) hx hb dM_program_75 (by decide) ?_
                  refine lv_iadd hx hb dM_program_76 ?_
                  refine s_topi (nI_1 _) ?_
                  refine s_puti hC hW gc_M iw_M 8 (by decide) uw_398 (Or.inl rfl) rfl rfl rfl hT0 dM_program_77 (fun H locs hW => ?_)
                  refine s_aload_n (x := some y) hx hb dM_program_80 rfl (lv_at hl 0 rfl) ?_
                  obtain ⟨a_within, ea_within, sa_within⟩ := w_m_within hT hT0
                  refine s_getr hC hW gc_M iw_M 2 (by decide) uw_392 rfl hT0 (v := some a_within) ea_within dM_program_81 ?_
                  refine s_aload_n (x := some y) hx hb dM_program_84 rfl (lv_at hl 0 rfl) ?_
                  refine s_geti hC hW gc_M iw_M 8 (by decide) uw_398 rfl hT0 (v := nI ((m_programs (m_0 S y) y) + 1)) (by simp [x_gs]) dM_program_85 ?_
                  refine lv_iload_n hx hb dM_program_88 rfl (lv_at hl 1 rfl) ?_
                  refine k_iast hC hW sa_within rfl rfl (by decide) ((m_programs (m_0 S y) y) + 1) rfl (by omega) dM_program_89 (fun H locs hW => ?_)
                  refine s_aload_n (x := some y) hx hb dM_program_90 rfl (lv_at hl 0 rfl) ?_
                  obtain ⟨a_names, ea_names, sa_names⟩ := w_m_names hT hT0
                  refine s_getr hC hW gc_M iw_M 3 (by decide) uw_393 rfl hT0 (v := some a_names) ea_names dM_program_91 ?_
                  refine s_aload_n (x := some y) hx hb dM_program_94 rfl (lv_at hl 0 rfl) ?_
                  refine s_geti hC hW gc_M iw_M 8 (by decide) uw_398 rfl hT0 (v := nI ((m_programs (m_0 S y) y) + 1)) (by simp [x_gs]) dM_program_95 ?_
                  refine lv_iload_n hx hb dM_program_98 rfl (lv_at hl 2 rfl) ?_
                  refine k_iast hC hW sa_names rfl rfl (by decide) ((m_programs (m_0 S y) y) + 1) rfl (by omega) dM_program_99 (fun H locs hW => ?_)
                  refine s_aload_n (x := some y) hx hb dM_program_100 rfl (lv_at hl 0 rfl) ?_
                  obtain ⟨a_marks, ea_marks, sa_marks⟩ := w_m_marks hT hT0
                  refine s_getr hC hW gc_M iw_M 4 (by decide) uw_394 rfl hT0 (v := some a_marks) ea_marks dM_program_101 ?_
                  refine s_aload_n (x := some y) hx hb dM_program_104 rfl (lv_at hl 0 rfl) ?_
                  refine s_geti hC hW gc_M iw_M 8 (by decide) uw_398 rfl hT0 (v := nI ((m_programs (m_0 S y) y) + 1)) (by simp [x_gs]) dM_program_105 ?_
                  refine lv_iload_n hx hb dM_program_108 rfl (lv_at hl 3 rfl) ?_
                  refine k_iast hC hW sa_marks rfl rfl (by decide) ((m_programs (m_0 S y) y) + 1) rfl (by omega) dM_program_109 (fun H locs hW => ?_)
                  refine s_aload_n (x := some y) hx hb dM_program_110 rfl (lv_at hl 0 rfl) ?_
                  refine s_geti hC hW gc_M iw_M 8 (by decide) uw_398 rfl hT0 (v := nI ((m_programs (m_0 S y) y) + 1)) (by simp [x_gs]) dM_program_111 ?_
                  exact s_iret hC hr hlocks rfl hW dM_program_114 ⟨by rw [f_prM, if_neg c_6, if_neg c_14, if_neg c_21, if_neg c_25, if_pos c_31, if_pos c_41, if_pos c_53, if_neg c_65], by rw [f_prM, if_neg c_6, if_neg c_14, if_neg c_21, if_neg c_25, if_pos c_31, if_pos c_41, if_pos c_53, if_neg c_65, m_q, ea_within, v_a_s, m_q, ea_names, v_a_s, m_q, ea_marks, v_a_s]⟩
                · skip
                  refine lv_iconst (v := (-1)) hx hb dM_program_68 (by decide) ?_
                  exact s_iret hC hr hlocks rfl hW dM_program_69 ⟨by rw [f_prM, if_neg c_6, if_neg c_14, if_neg c_21, if_neg c_25, if_pos c_31, if_pos c_41, if_pos c_53, if_pos c_65], by rw [f_prM, if_neg c_6, if_neg c_14, if_neg c_21, if_neg c_25, if_pos c_31, if_pos c_41, if_pos c_53, if_pos c_65]⟩
              · skip
                refine lv_bipush (v := (-3)) hx hb dM_program_56 (by decide) ?_
                exact s_iret hC hr hlocks rfl hW dM_program_58 ⟨by rw [f_prM, if_neg c_6, if_neg c_14, if_neg c_21, if_neg c_25, if_pos c_31, if_pos c_41, if_neg c_53], by rw [f_prM, if_neg c_6, if_neg c_14, if_neg c_21, if_neg c_25, if_pos c_31, if_pos c_41, if_neg c_53]⟩
            · skip
              refine lv_bipush (v := (-4)) hx hb dM_program_44 (by decide) ?_
              exact s_iret hC hr hlocks rfl hW dM_program_46 ⟨by rw [f_prM, if_neg c_6, if_neg c_14, if_neg c_21, if_neg c_25, if_pos c_31, if_neg c_41], by rw [f_prM, if_neg c_6, if_neg c_14, if_neg c_21, if_neg c_25, if_pos c_31, if_neg c_41]⟩
          · skip
            refine lv_bipush (v := (-2)) hx hb dM_program_34 (by decide) ?_
            exact s_iret hC hr hlocks rfl hW dM_program_36 ⟨by rw [f_prM, if_neg c_6, if_neg c_14, if_neg c_21, if_neg c_25, if_neg c_31], by rw [f_prM, if_neg c_6, if_neg c_14, if_neg c_21, if_neg c_25, if_neg c_31]⟩

/-! M.cell -/
theorem x_isP {S : gs_S} {y : Nat} {p : Int32} (hM : m_t S) (hY : g_sh S y = some (.inl 3)) (h : ¬ f_isP S y p = 0) : ∃ j : Nat, 1 ≤ j ∧ j ≤ m_programs S y ∧ p = nI j := by
  have hb := b_programs hM hY
  unfold f_isP at h
  split at h
  · exact absurd rfl h
  · rename_i c1
    split at h
    · exact absurd rfl h
    · rename_i c2
      have h0 : ¬ p < 0 := fun z => c1 (by rw [Int32.lt_iff_toInt_lt] at z; rw [Int32.le_iff_toInt_le]; omega)
      obtain ⟨j, hj, rfl⟩ := nI_of h0
      rw [nI_ltI (by omega) hj] at c2
      refine ⟨j, ?_, by omega, rfl⟩
      rcases Nat.eq_zero_or_pos j with rfl | z
      · exact absurd (by decide) c1
      · exact z
def f_ck (S : gs_S) (y : Nat) (p : Int32) : Nat → Nat → Nat → Nat
  | 0, _, acc => acc
  | k + 1, i, acc => f_ck S y p k (i + 1) (if nI (m_owner S y i) = p then acc + 1 else acc)
theorem b_ck {S : gs_S} {y : Nat} {p : Int32} : ∀ (k i acc : Nat), f_ck S y p k i acc ≤ acc + k := by
  intro k
  induction k with
  | zero => intro i acc; exact Nat.le_refl _
  | succ k ih =>
    intro i acc
    rw [f_ck]
    split
    · have := ih (i + 1) (acc + 1); omega
    · have := ih (i + 1) acc; omega
def f_ceM (T : gs_S) (y : Nat) (p : Int32) (v : Int64) : Int32 × gs_S := if f_isP T y p = 0 then (-2, T) else if nI (m_active T y) ≤ 0 then (if nI (m_cells T y) = 200 then (-1, T) else (nI (m_cells T y), p_i (p_al (p_al (p_ai (p_ai T 16 (m_q T y 9) (m_cells T y) p) 17 (m_q T y 10) (m_cells T y) (nI (f_ck T y p (m_cells T y) 0 0))) 19 (m_q T y 12) (m_cells T y) v) 22 (m_q T y 16) (m_cells T y) v) 3 13 y (nI (m_cells T y + 1)))) else (-4, T)

set_option maxHeartbeats 4000000 in
set_option maxRecDepth 100000 in
theorem lp_ce (l : Launch) (G : gs_G) (S : gs_S) (T : gs_S) (y : Nat) (p0 : Int32) (v : Int64) (hT : m_t T) (hT0 : g_sh T y = some (.inl 3)) (h_cells : m_cells T y < 200) (hfin : f_ceM T y p0 v = (nI (m_cells T y), p_i (p_al (p_al (p_ai (p_ai T 16 (m_q T y 9) (m_cells T y) p0) 17 (m_q T y 10) (m_cells T y) (nI (f_ck T y p0 (m_cells T y) 0 0))) 19 (m_q T y 12) (m_cells T y) v) 22 (m_q T y 16) (m_cells T y) v) 3 13 y (nI (m_cells T y + 1)))) {p : Program} {e : Env} {s : State} {m : MethodId} {below : List Frame} {meth : Method} {c : Code} (hC : CallFix p m c cM_cell 6 s #[va_rf (some y), Value.int p0, Value.long v] gU yM_cell.cls) (hr : meth.sig.returnType = some .int) (hlocks : meth.locks = false) {H : Heap} {locs : List Loc} (hW : g_W G (g_A S s.heap.size) s T H locs) :
    ∀ (k : Nat) (i acc : Nat), i + k = m_cells T y → acc ≤ i → f_ck T y p0 (m_cells T y) 0 0 = f_ck T y p0 k i acc → ∀ (ls : Array Slot), lv_has ls 6 [(5, .int (nI i)), (4, .int (nI acc)), (0, va_rf (some y)), (1, .int p0), (2, .long v)] → W p l e { frames := 1, cells := 0, slots := 0, locals := 21 } s m #[va_rf (some y), Value.int p0, Value.long v] below meth c H locs 0 0 (MQ below (g_Qi G S s.heap.size (fun r S' => r = (f_ceM T y p0 v).1 ∧ S' = (f_ceM T y p0 v).2)) #[va_rf (some y), Value.int p0, Value.long v] s 0 0 (g_A S s.heap.size)) (F0 m 44 ls []) := by
  obtain ⟨hx, hb, hml, hown, hts⟩ := id hC
  intro k
  induction k with
  | zero =>
    intro i acc  hi hac hf ls hl
    refine lv_iload hx hb dM_cell_44 (lv_at hl 0 rfl) ?_
    refine s_aload_n (x := some y) hx hb dM_cell_46 rfl (lv_at hl 2 rfl) ?_
    refine s_geti hC hW gc_M iw_M 13 (by decide) uw_403 rfl hT0 (v := nI (m_cells T y)) (e_cells (S := T) hT hT0) dM_cell_47 ?_
    refine lv_icmp_ge (tgt := 80) hx hb dM_cell_50 (by decide) (fun c_50 => ?_) (fun c => absurd ((nI_leI (by omega) (by omega)).mpr (by omega)) c)
    refine s_aload_n (x := some y) hx hb dM_cell_80 rfl (lv_at hl 2 rfl) ?_
    obtain ⟨a_owner, ea_owner, sa_owner⟩ := w_m_owner hT hT0
    refine s_getr hC hW gc_M iw_M 9 (by decide) uw_399 rfl hT0 (v := some a_owner) ea_owner dM_cell_81 ?_
    refine s_aload_n (x := some y) hx hb dM_cell_84 rfl (lv_at hl 2 rfl) ?_
    refine s_geti hC hW gc_M iw_M 13 (by decide) uw_403 rfl hT0 (v := nI (m_cells T y)) (e_cells (S := T) hT hT0) dM_cell_85 ?_
    refine lv_iload_n hx hb dM_cell_88 rfl (lv_at hl 3 rfl) ?_
    refine k_iast hC hW sa_owner rfl rfl (by decide) (m_cells T y) rfl (by omega) dM_cell_89 (fun H locs hW => ?_)
    refine s_aload_n (x := some y) hx hb dM_cell_90 rfl (lv_at hl 2 rfl) ?_
    obtain ⟨a_rank, ea_rank, sa_rank⟩ := w_m_rank hT hT0
    refine s_getr hC hW gc_M iw_M 10 (by decide) uw_400 rfl hT0 (v := some a_rank) ea_rank dM_cell_91 ?_
    refine s_aload_n (x := some y) hx hb dM_cell_94 rfl (lv_at hl 2 rfl) ?_
    refine s_geti hC hW gc_M iw_M 13 (by decide) uw_403 rfl hT0 (v := nI (m_cells T y)) (e_cells (S := T) hT hT0) dM_cell_95 ?_
    refine lv_iload hx hb dM_cell_98 (lv_at hl 1 rfl) ?_
    refine k_iast hC hW sa_rank rfl rfl (by decide) (m_cells T y) rfl (by omega) dM_cell_100 (fun H locs hW => ?_)
    refine s_aload_n (x := some y) hx hb dM_cell_101 rfl (lv_at hl 2 rfl) ?_
    obtain ⟨a_first, ea_first, sa_first⟩ := w_m_first hT hT0
    refine s_getr hC hW gc_M iw_M 12 (by decide) uw_402 rfl hT0 (v := some a_first) ea_first dM_cell_102 ?_
    refine s_aload_n (x := some y) hx hb dM_cell_105 rfl (lv_at hl 2 rfl) ?_
    refine s_geti hC hW gc_M iw_M 13 (by decide) uw_403 rfl hT0 (v := nI (m_cells T y)) (e_cells (S := T) hT hT0) dM_cell_106 ?_
    refine lv_lload_n hx hb dM_cell_109 rfl (lv_at hl 4 rfl) ?_
    refine k_last hC hW sa_first rfl rfl (by decide) (m_cells T y) rfl (by omega) dM_cell_110 (fun H locs hW => ?_)
    refine s_aload_n (x := some y) hx hb dM_cell_111 rfl (lv_at hl 2 rfl) ?_
    obtain ⟨a_memory, ea_memory, sa_memory⟩ := w_m_memory hT hT0
    refine s_getr hC hW gc_M iw_M 16 (by decide) uw_406 rfl hT0 (v := some a_memory) ea_memory dM_cell_112 ?_
    refine s_aload_n (x := some y) hx hb dM_cell_115 rfl (lv_at hl 2 rfl) ?_
    refine s_geti hC hW gc_M iw_M 13 (by decide) uw_403 rfl hT0 (v := nI (m_cells T y)) (e_cells (S := T) hT hT0) dM_cell_116 ?_
    refine lv_lload_n hx hb dM_cell_119 rfl (lv_at hl 4 rfl) ?_
    refine k_last hC hW sa_memory rfl rfl (by decide) (m_cells T y) rfl (by omega) dM_cell_120 (fun H locs hW => ?_)
    refine s_aload_n (x := some y) hx hb dM_cell_121 rfl (lv_at hl 2 rfl) ?_
    refine lv_dup hx hb dM_cell_122 rfl ?_
    refine s_geti hC hW gc_M iw_M 13 (by decide) uw_403 rfl hT0 (v := nI (m_cells T y)) (e_cells (S := T) hT hT0) dM_cell_123 ?_
    refine lv_iconst (v := 1) hx hb dM_cell_126 (by decide) ?_
    refine lv_iadd hx hb dM_cell_127 ?_
    refine s_topi (nI_1 _) ?_
    refine s_puti hC hW gc_M iw_M 13 (by decide) uw_403 (Or.inl rfl) rfl rfl rfl hT0 dM_cell_128 (fun H locs hW => ?_)
    refine s_aload_n (x := some y) hx hb dM_cell_131 rfl (lv_at hl 2 rfl) ?_
    refine s_geti hC hW gc_M iw_M 13 (by decide) uw_403 rfl hT0 (v := nI ((m_cells T y) + 1)) (by simp [x_gs]) dM_cell_132 ?_
    refine lv_iconst (v := 1) hx hb dM_cell_135 (by decide) ?_
    refine lv_isub hx hb dM_cell_136 ?_
    refine s_topi (x_sub1 (by omega)) ?_
    exact s_iret hC hr hlocks rfl hW dM_cell_137 ⟨by rw [hfin]; simp, by rw [hfin, m_q, ea_owner, v_a_s, m_q, ea_rank, v_a_s, m_q, ea_first, v_a_s, m_q, ea_memory, v_a_s, hf]; rfl⟩
  | succ k ih =>
    intro i acc  hi hac hf ls hl
    refine lv_iload hx hb dM_cell_44 (lv_at hl 0 rfl) ?_
    refine s_aload_n (x := some y) hx hb dM_cell_46 rfl (lv_at hl 2 rfl) ?_
    refine s_geti hC hW gc_M iw_M 13 (by decide) uw_403 rfl hT0 (v := nI (m_cells T y)) (e_cells (S := T) hT hT0) dM_cell_47 ?_
    refine lv_icmp_ge (tgt := 80) hx hb dM_cell_50 (by decide) (fun c => absurd ((nI_leI (by omega) (by omega)).mp c) (by omega)) (fun c_50 => ?_)
    refine lv_iload hx hb dM_cell_53 (lv_at hl 1 rfl) ?_
    refine s_aload_n (x := some y) hx hb dM_cell_55 rfl (lv_at hl 2 rfl) ?_
    obtain ⟨a_owner, ea_owner, sa_owner⟩ := w_m_owner hT hT0
    refine s_getr hC hW gc_M iw_M 9 (by decide) uw_399 rfl hT0 (v := some a_owner) ea_owner dM_cell_56 ?_
    refine lv_iload hx hb dM_cell_59 (lv_at hl 0 rfl) ?_
    refine k_iald hC hW sa_owner rfl rfl (by decide) i rfl (by omega) (v := nI (m_owner T y i)) (e_owner (S := T) hT hT0 ea_owner (by omega)) dM_cell_61 ?_
    have h61 := b_owner hT hT0 (i := i) (by omega)
    refine lv_iload_n hx hb dM_cell_62 rfl (lv_at hl 3 rfl) ?_
    refine lv_icmp_ne (tgt := 70) hx hb dM_cell_63 (by decide) (fun c_63 => ?_) (fun c_63 => ?_)
    · skip
      refine lv_iconst (v := 0) hx hb dM_cell_70 (by decide) ?_
      refine lv_iadd hx hb dM_cell_71 ?_
      refine s_topi (Int32.add_zero _) ?_
      refine lv_istore (lv' := [(4, .int (nI acc)), (5, .int (nI i)), (0, va_rf (some y)), (1, .int p0), (2, .long v)]) hx hb dM_cell_72 hl (by decide) rfl (fun ls hl => ?_)
      refine lv_iinc (v := nI (i + 1)) (lv' := [(5, .int (nI (i + 1))), (4, .int (nI acc)), (0, va_rf (some y)), (1, .int p0), (2, .long v)]) hx hb dM_cell_74 hl (k := 1) rfl (nI_1 _) (by decide) rfl (fun ls hl => ?_)
      refine lv_goto (tgt := 44) hx hb dM_cell_77 (by decide) ?_
      exact ih (i + 1) acc (by omega) (by omega) (by rw [hf, f_ck, if_neg c_63]) ls (lv_sub hl [0, 1, 2, 3, 4] rfl)
    · skip
      refine lv_iconst (v := 1) hx hb dM_cell_66 (by decide) ?_
      refine lv_goto (tgt := 71) hx hb dM_cell_67 (by decide) ?_
      refine lv_iadd hx hb dM_cell_71 ?_
      refine s_topi (nI_1 _) ?_
      refine lv_istore (lv' := [(4, .int (nI (acc + 1))), (5, .int (nI i)), (0, va_rf (some y)), (1, .int p0), (2, .long v)]) hx hb dM_cell_72 hl (by decide) rfl (fun ls hl => ?_)
      refine lv_iinc (v := nI (i + 1)) (lv' := [(5, .int (nI (i + 1))), (4, .int (nI (acc + 1))), (0, va_rf (some y)), (1, .int p0), (2, .long v)]) hx hb dM_cell_74 hl (k := 1) rfl (nI_1 _) (by decide) rfl (fun ls hl => ?_)
      refine lv_goto (tgt := 44) hx hb dM_cell_77 (by decide) ?_
      exact ih (i + 1) (acc + 1) (by omega) (by omega) (by rw [hf, f_ck, if_pos c_63]) ls (lv_sub hl [0, 1, 2, 3, 4] rfl)

set_option maxHeartbeats 4000000 in
set_option maxRecDepth 100000 in
theorem c_M_cell (l : Launch) (G : gs_G) (S : gs_S) (sz : Nat) (y : Nat) (p0 : Int32) (v : Int64) (hM : m_t S) (hY : g_sh S y = some (.inl 3)) : Met l yM_cell (kM_cell :: gU) { frames := 1, cells := 0, slots := 0, locals := 21 } (g_Pc G S sz [va_rf (some y), .int p0, .long v]) (g_Qi G S sz (fun r S' => r = (f_ceM (m_0 S y) y p0 v).1 ∧ S' = (f_ceM (m_0 S y) y p0 v).2)) 0 0 (g_A S sz) := by
  refine s_head (by decide) (Nat.le_of_ble_eq_true rfl) ?_
  intro p e s m below meth c ls hsz hC hr hlocks hnm hl hW
  subst hsz
  obtain ⟨hx, hb, hml, hown, hts⟩ := id hC
  have hl : lv_has ls 6 [(0, va_rf (some y)), (1, .int p0), (2, .long v)] := hl
  refine s_aload_n (x := some y) hx hb dM_cell_0 rfl (lv_at hl 0 rfl) ?_
  refine lv_iconst (v := 0) hx hb dM_cell_1 (by decide) ?_
  refine s_puti hC hW gc_M iw_M 0 (by decide) uw_390 (Or.inl rfl) rfl rfl rfl hY dM_cell_2 (fun H locs hW => ?_)
  have hT : m_t (m_0 S y) := mt_0 hM
  have hT0 : g_sh (m_0 S y) y = some (.inl 3) := hY
  have hW : g_W G (g_A S s.heap.size) s (m_0 S y) H locs := hW
  have h_programs := b_programs hT hT0
  have h_cells := b_cells hT hT0
  have h_active := b_active hT hT0
  have h_prepared := b_prepared hT hT0
  have h_arguments := b_arguments hT hT0
  have h_used := b_used hT hT0
  have h_preparedAhead := b_preparedAhead hT hT0
  refine s_aload_n (x := some y) hx hb dM_cell_5 rfl (lv_at hl 0 rfl) ?_
  refine lv_iload_n hx hb dM_cell_6 rfl (lv_at hl 1 rfl) ?_
  refine s_calli hW (s_runV (n := 1) (As := [.int p0]) (rest := []) hC (c_M_isProgram l G (m_0 S y) H.size y p0 hT hT0) uc_M_isProgram uw_498 uw_500 us_M_isProgram uw_4 rfl rfl (by decide +kernel) ⟨by decide, by decide⟩ (g_preV hW gc_M hT0 [.int p0]) rfl hl.1 rfl (Nat.le_of_ble_eq_true rfl) dM_cell_7 ⟨Nat.le_of_ble_eq_true rfl, Nat.le_of_ble_eq_true rfl⟩) (fun q7 S7 H locs hp7 hW => ?_)
  obtain ⟨hs7, rfl⟩ := hp7
  replace hs7 := hs7.symm
  subst hs7
  refine lv_if_ne (tgt := 16) hx hb dM_cell_10 (by decide) (fun c_10 => ?_) (fun c_10 => ?_)
  · skip
    refine s_aload_n (x := some y) hx hb dM_cell_16 rfl (lv_at hl 0 rfl) ?_
    refine s_geti hC hW gc_M iw_M 22 (by decide) uw_412 rfl hT0 (v := nI (m_active (m_0 S y) y)) (e_active (S := m_0 S y) hT hT0) dM_cell_17 ?_
    refine lv_if_le (tgt := 26) hx hb dM_cell_20 (by decide) (fun c_20 => ?_) (fun c_20 => ?_)
    · skip
      refine s_aload_n (x := some y) hx hb dM_cell_26 rfl (lv_at hl 0 rfl) ?_
      refine s_geti hC hW gc_M iw_M 13 (by decide) uw_403 rfl hT0 (v := nI (m_cells (m_0 S y) y)) (e_cells (S := m_0 S y) hT hT0) dM_cell_27 ?_
      refine lv_sipush (v := 200) hx hb dM_cell_30 (by decide) ?_
      refine lv_icmp_ne (tgt := 38) hx hb dM_cell_33 (by decide) (fun c_33 => ?_) (fun c_33 => ?_)
      · skip
        refine lv_iconst (v := 0) hx hb dM_cell_38 (by decide) ?_
        refine lv_istore (lv' := [(4, .int 0), (0, va_rf (some y)), (1, .int p0), (2, .long v)]) hx hb dM_cell_39 hl (by decide) rfl (fun ls hl => ?_)
        refine lv_iconst (v := 0) hx hb dM_cell_41 (by decide) ?_
        refine lv_istore (lv' := [(5, .int 0), (4, .int 0), (0, va_rf (some y)), (1, .int p0), (2, .long v)]) hx hb dM_cell_42 hl (by decide) rfl (fun ls hl => ?_)
        have hc200 : m_cells (m_0 S y) y ≠ 200 := fun z => c_33 (by rw [z]; rfl)
        exact lp_ce l G S (m_0 S y) y p0 v hT hT0 (by omega) (by rw [f_ceM, if_neg c_10, if_pos c_20, if_neg c_33]) hC hr hlocks hW (m_cells (m_0 S y) y) 0 0 (by omega) (by omega) rfl ls (lv_sub hl [0, 1, 2, 3, 4] rfl)
      · skip
        refine lv_iconst (v := (-1)) hx hb dM_cell_36 (by decide) ?_
        exact s_iret hC hr hlocks rfl hW dM_cell_37 ⟨by rw [f_ceM, if_neg c_10, if_pos c_20, if_pos c_33], by rw [f_ceM, if_neg c_10, if_pos c_20, if_pos c_33]⟩
    · skip
      refine lv_bipush (v := (-4)) hx hb dM_cell_23 (by decide) ?_
      exact s_iret hC hr hlocks rfl hW dM_cell_25 ⟨by rw [f_ceM, if_neg c_10, if_neg c_20], by rw [f_ceM, if_neg c_10, if_neg c_20]⟩
  · skip
    refine lv_bipush (v := (-2)) hx hb dM_cell_13 (by decide) ?_
    exact s_iret hC hr hlocks rfl hW dM_cell_15 ⟨by rw [f_ceM, if_pos c_10], by rw [f_ceM, if_pos c_10]⟩

/-! M.formal -/
def f_foM (T : gs_S) (y : Nat) (p how size : Int32) : Int32 × gs_S := if f_isP T y p = 0 then (-2, T) else if how < 0 then (-2, T) else if 3 < how then (-2, T) else if size < 1 then (-2, T) else if size ≤ 8 then (if nI (m_active T y) ≤ 0 then (if nI (m_manyFormals T y p.toNatClampNeg) = 16 then (-1, T) else (nI (m_manyFormals T y p.toNatClampNeg), p_ai (p_ai (p_ai T 20 (m_q T y 14) (16 * (p.toNatClampNeg - 1) + m_manyFormals T y p.toNatClampNeg) how) 21 (m_q T y 15) (16 * (p.toNatClampNeg - 1) + m_manyFormals T y p.toNatClampNeg) size) 13 (m_q T y 5) p.toNatClampNeg (nI (m_manyFormals T y p.toNatClampNeg + 1)))) else (-4, T)) else (-2, T)

set_option maxHeartbeats 4000000 in
set_option maxRecDepth 100000 in
theorem c_M_formal (l : Launch) (G : gs_G) (S : gs_S) (sz : Nat) (y : Nat) (p0 how size : Int32) (hM : m_t S) (hY : g_sh S y = some (.inl 3)) : Met l yM_formal (kM_formal :: gU) { frames := 1, cells := 0, slots := 0, locals := 21 } (g_Pc G S sz [va_rf (some y), .int p0, .int how, .int size]) (g_Qi G S sz (fun r S' => r = (f_foM (m_0 S y) y p0 how size).1 ∧ S' = (f_foM (m_0 S y) y p0 how size).2)) 0 0 (g_A S sz) := by
  refine s_head (by decide) (Nat.le_of_ble_eq_true rfl) ?_
  intro p e s m below meth c ls hsz hC hr hlocks hnm hl hW
  subst hsz
  obtain ⟨hx, hb, hml, hown, hts⟩ := id hC
  have hl : lv_has ls 5 [(0, va_rf (some y)), (1, .int p0), (2, .int how), (3, .int size)] := hl
  refine s_aload_n (x := some y) hx hb dM_formal_0 rfl (lv_at hl 0 rfl) ?_
  refine lv_iconst (v := 0) hx hb dM_formal_1 (by decide) ?_
  refine s_puti hC hW gc_M iw_M 0 (by decide) uw_390 (Or.inl rfl) rfl rfl rfl hY dM_formal_2 (fun H locs hW => ?_)
  have hT : m_t (m_0 S y) := mt_0 hM
  have hT0 : g_sh (m_0 S y) y = some (.inl 3) := hY
  have hW : g_W G (g_A S s.heap.size) s (m_0 S y) H locs := hW
  have h_programs := b_programs hT hT0
  have h_cells := b_cells hT hT0
  have h_active := b_active hT hT0
  have h_prepared := b_prepared hT hT0
  have h_arguments := b_arguments hT hT0
  have h_used := b_used hT hT0
  have h_preparedAhead := b_preparedAhead hT hT0
  refine s_aload_n (x := some y) hx hb dM_formal_5 rfl (lv_at hl 0 rfl) ?_
  refine lv_iload_n hx hb dM_formal_6 rfl (lv_at hl 1 rfl) ?_
  refine s_calli hW (s_runV (n := 1) (As := [.int p0]) (rest := []) hC (c_M_isProgram l G (m_0 S y) H.size y p0 hT hT0) uc_M_isProgram uw_498 uw_500 us_M_isProgram uw_4 rfl rfl (by decide +kernel) ⟨by decide, by decide⟩ (g_preV hW gc_M hT0 [.int p0]) rfl hl.1 rfl (Nat.le_of_ble_eq_true rfl) dM_formal_7 ⟨Nat.le_of_ble_eq_true rfl, Nat.le_of_ble_eq_true rfl⟩) (fun q7 S7 H locs hp7 hW => ?_)
  obtain ⟨hs7, rfl⟩ := hp7
  replace hs7 := hs7.symm
  subst hs7
  refine lv_if_eq (tgt := 33) hx hb dM_formal_10 (by decide) (fun c_10 => ?_) (fun c_10 => ?_)
  · skip
    refine lv_bipush (v := (-2)) hx hb dM_formal_33 (by decide) ?_
    exact s_iret hC hr hlocks rfl hW dM_formal_35 ⟨by rw [f_foM, if_pos c_10], by rw [f_foM, if_pos c_10]⟩
  · skip
    refine lv_iload_n hx hb dM_formal_13 rfl (lv_at hl 2 rfl) ?_
    refine lv_if_lt (tgt := 33) hx hb dM_formal_14 (by decide) (fun c_14 => ?_) (fun c_14 => ?_)
    · skip
      refine lv_bipush (v := (-2)) hx hb dM_formal_33 (by decide) ?_
      exact s_iret hC hr hlocks rfl hW dM_formal_35 ⟨by rw [f_foM, if_neg c_10, if_pos c_14], by rw [f_foM, if_neg c_10, if_pos c_14]⟩
    · skip
      refine lv_iload_n hx hb dM_formal_17 rfl (lv_at hl 2 rfl) ?_
      refine lv_iconst (v := 3) hx hb dM_formal_18 (by decide) ?_
      refine lv_icmp_gt (tgt := 33) hx hb dM_formal_19 (by decide) (fun c_19 => ?_) (fun c_19 => ?_)
      · skip
        refine lv_bipush (v := (-2)) hx hb dM_formal_33 (by decide) ?_
        exact s_iret hC hr hlocks rfl hW dM_formal_35 ⟨by rw [f_foM, if_neg c_10, if_neg c_14, if_pos c_19], by rw [f_foM, if_neg c_10, if_neg c_14, if_pos c_19]⟩
      · skip
        refine lv_iload_n hx hb dM_formal_22 rfl (lv_at hl 3 rfl) ?_
        refine lv_iconst (v := 1) hx hb dM_formal_23 (by decide) ?_
        refine lv_icmp_lt (tgt := 33) hx hb dM_formal_24 (by decide) (fun c_24 => ?_) (fun c_24 => ?_)
        · skip
          refine lv_bipush (v := (-2)) hx hb dM_formal_33 (by decide) ?_
          exact s_iret hC hr hlocks rfl hW dM_formal_35 ⟨by rw [f_foM, if_neg c_10, if_neg c_14, if_neg c_19, if_pos c_24], by rw [f_foM, if_neg c_10, if_neg c_14, if_neg c_19, if_pos c_24]⟩
        · skip
          refine lv_iload_n hx hb dM_formal_27 rfl (lv_at hl 3 rfl) ?_
          refine lv_bipush (v := 8) hx hb dM_formal_28 (by decide) ?_
          refine lv_icmp_le (tgt := 36) hx hb dM_formal_30 (by decide) (fun c_30 => ?_) (fun c_30 => ?_)
          · skip
            refine s_aload_n (x := some y) hx hb dM_formal_36 rfl (lv_at hl 0 rfl) ?_
            refine s_geti hC hW gc_M iw_M 22 (by decide) uw_412 rfl hT0 (v := nI (m_active (m_0 S y) y)) (e_active (S := m_0 S y) hT hT0) dM_formal_37 ?_
            refine lv_if_le (tgt := 46) hx hb dM_formal_40 (by decide) (fun c_40 => ?_) (fun c_40 => ?_)
            · skip
              obtain ⟨j, hj1, hj2, rfl⟩ := x_isP hT hT0 c_10
              refine s_aload_n (x := some y) hx hb dM_formal_46 rfl (lv_at hl 0 rfl) ?_
              obtain ⟨a_manyFormals, ea_manyFormals, sa_manyFormals⟩ := w_m_manyFormals hT hT0
              refine s_getr hC hW gc_M iw_M 5 (by decide) uw_395 rfl hT0 (v := some a_manyFormals) ea_manyFormals dM_formal_47 ?_
              refine lv_iload_n hx hb dM_formal_50 rfl (lv_at hl 1 rfl) ?_
              refine k_iald hC hW sa_manyFormals rfl rfl (by decide) j rfl (by omega) (v := nI (m_manyFormals (m_0 S y) y j)) (e_manyFormals (S := m_0 S y) hT hT0 ea_manyFormals (by omega)) dM_formal_51 ?_
              have h51 := b_manyFormals hT hT0 (i := j) (by omega)
              refine lv_bipush (v := 16) hx hb dM_formal_52 (by decide) ?_
              refine lv_icmp_ne (tgt := 59) hx hb dM_formal_54 (by decide) (fun c_54 => ?_) (fun c_54 => ?_)
              · skip
                have hm16 : m_manyFormals (m_0 S y) y j ≠ 16 := fun z => c_54 (by rw [z]; rfl)
                refine lv_bipush (v := 16) hx hb dM_formal_59 (by decide) ?_
                refine lv_iload_n hx hb dM_formal_61 rfl (lv_at hl 1 rfl) ?_
                refine lv_iconst (v := 1) hx hb dM_formal_62 (by decide) ?_
                refine lv_isub hx hb dM_formal_63 ?_
                refine s_topi (x_sub1 (by omega)) ?_
                refine lv_imul hx hb dM_formal_64 ?_
                refine s_topi (x_mul16 _) ?_
                refine s_aload_n (x := some y) hx hb dM_formal_65 rfl (lv_at hl 0 rfl) ?_
                refine s_getr hC hW gc_M iw_M 5 (by decide) uw_395 rfl hT0 (v := some a_manyFormals) ea_manyFormals dM_formal_66 ?_
                refine lv_iload_n hx hb dM_formal_69 rfl (lv_at hl 1 rfl) ?_
                refine k_iald hC hW sa_manyFormals rfl rfl (by decide) j rfl (by omega) (v := nI (m_manyFormals (m_0 S y) y j)) (e_manyFormals (S := m_0 S y) hT hT0 ea_manyFormals (by omega)) dM_formal_70 ?_
                have h70 := b_manyFormals hT hT0 (i := j) (by omega)
                refine lv_iadd hx hb dM_formal_71 ?_
                refine s_topi (nI_add _ _) ?_
                refine lv_istore (lv' := [(4, .int (nI ((16 * (j - 1)) + (m_manyFormals (m_0 S y) y j)))), (0, va_rf (some y)), (1, .int (nI j)), (2, .int how), (3, .int size)]) hx hb dM_formal_72 hl (by decide) rfl (fun ls hl => ?_)
                refine s_aload_n (x := some y) hx hb dM_formal_74 rfl (lv_at hl 1 rfl) ?_
                obtain ⟨a_how, ea_how, sa_how⟩ := w_m_how hT hT0
                refine s_getr hC hW gc_M iw_M 14 (by decide) uw_404 rfl hT0 (v := some a_how) ea_how dM_formal_75 ?_
                refine lv_iload hx hb dM_formal_78 (lv_at hl 0 rfl) ?_
                refine lv_iload_n hx hb dM_formal_80 rfl (lv_at hl 3 rfl) ?_
                refine k_iast hC hW sa_how rfl rfl (by decide) ((16 * (j - 1)) + (m_manyFormals (m_0 S y) y j)) rfl (by omega) dM_formal_81 (fun H locs hW => ?_)
                refine s_aload_n (x := some y) hx hb dM_formal_82 rfl (lv_at hl 1 rfl) ?_
                obtain ⟨a_bytes, ea_bytes, sa_bytes⟩ := w_m_bytes hT hT0
                refine s_getr hC hW gc_M iw_M 15 (by decide) uw_405 rfl hT0 (v := some a_bytes) ea_bytes dM_formal_83 ?_
                refine lv_iload hx hb dM_formal_86 (lv_at hl 0 rfl) ?_
                refine lv_iload_n hx hb dM_formal_88 rfl (lv_at hl 4 rfl) ?_
                refine k_iast hC hW sa_bytes rfl rfl (by decide) ((16 * (j - 1)) + (m_manyFormals (m_0 S y) y j)) rfl (by omega) dM_formal_89 (fun H locs hW => ?_)
                refine s_aload_n (x := some y) hx hb dM_formal_90 rfl (lv_at hl 1 rfl) ?_
                refine s_getr hC hW gc_M iw_M 5 (by decide) uw_395 rfl hT0 (v := some a_manyFormals) ea_manyFormals dM_formal_91 ?_
                refine lv_iload_n hx hb dM_formal_94 rfl (lv_at hl 2 rfl) ?_
                refine lv_dup2_11 hx hb dM_formal_95 rfl rfl ?_
                refine k_iald hC hW sa_manyFormals rfl rfl (by decide) j rfl (by omega) (v := nI (m_manyFormals (m_0 S y) y j)) (e_manyFormals (S := m_0 S y) hT hT0 ea_manyFormals (by omega)) dM_formal_96 ?_
                have h96 := b_manyFormals hT hT0 (i := j) (by omega)
                refine lv_iconst (v := 1) hx hb dM_formal_97 (by decide) ?_
                refine lv_iadd hx hb dM_formal_98 ?_
                refine s_topi (nI_1 _) ?_
                refine k_iast hC hW sa_manyFormals rfl rfl (by decide) j rfl (by omega) dM_formal_99 (fun H locs hW => ?_)
                refine s_aload_n (x := some y) hx hb dM_formal_100 rfl (lv_at hl 1 rfl) ?_
                refine s_getr hC hW gc_M iw_M 5 (by decide) uw_395 rfl hT0 (v := some a_manyFormals) ea_manyFormals dM_formal_101 ?_
                refine lv_iload_n hx hb dM_formal_104 rfl (lv_at hl 2 rfl) ?_
                refine k_iald hC hW sa_manyFormals rfl rfl (by decide) j rfl (by omega) rfl dM_formal_105 ?_
                refine lv_iconst (v := 1) hx hb dM_formal_106 (by decide) ?_
                refine lv_isub hx hb dM_formal_107 ?_
                exact s_iret hC hr hlocks rfl hW dM_formal_108 ⟨by rw [f_foM, if_neg c_10, if_neg c_14, if_neg c_19, if_neg c_24, if_pos c_30, if_pos c_40, nI_clamp (show j < 2 ^ 31 by omega), if_neg c_54]; rw [x_g_ai_p_ai, if_pos ⟨rfl, rfl, rfl⟩, nI_pred], by rw [f_foM, if_neg c_10, if_neg c_14, if_neg c_19, if_neg c_24, if_pos c_30, if_pos c_40, nI_clamp (show j < 2 ^ 31 by omega), if_neg c_54, m_q, ea_how, v_a_s, m_q, ea_bytes, v_a_s, m_q, ea_manyFormals, v_a_s]⟩
              · skip
                refine lv_iconst (v := (-1)) hx hb dM_formal_57 (by decide) ?_
                exact s_iret hC hr hlocks rfl hW dM_formal_58 ⟨by rw [f_foM, if_neg c_10, if_neg c_14, if_neg c_19, if_neg c_24, if_pos c_30, if_pos c_40, nI_clamp (show j < 2 ^ 31 by omega), if_pos c_54], by rw [f_foM, if_neg c_10, if_neg c_14, if_neg c_19, if_neg c_24, if_pos c_30, if_pos c_40, nI_clamp (show j < 2 ^ 31 by omega), if_pos c_54]⟩
            · skip
              refine lv_bipush (v := (-4)) hx hb dM_formal_43 (by decide) ?_
              exact s_iret hC hr hlocks rfl hW dM_formal_45 ⟨by rw [f_foM, if_neg c_10, if_neg c_14, if_neg c_19, if_neg c_24, if_pos c_30, if_neg c_40], by rw [f_foM, if_neg c_10, if_neg c_14, if_neg c_19, if_neg c_24, if_pos c_30, if_neg c_40]⟩
          · skip
            refine lv_bipush (v := (-2)) hx hb dM_formal_33 (by decide) ?_
            exact s_iret hC hr hlocks rfl hW dM_formal_35 ⟨by rw [f_foM, if_neg c_10, if_neg c_14, if_neg c_19, if_neg c_24, if_neg c_30], by rw [f_foM, if_neg c_10, if_neg c_14, if_neg c_19, if_neg c_24, if_neg c_30]⟩

/-! M.state, M.returned -/
def f_staM (T : gs_S) (y : Nat) (p : Int32) : Int32 := if f_isP T y p = 0 then -1 else if m_activeTimes T y p.toNatClampNeg ≤ 0 then (if m_data T y p.toNatClampNeg = 0 then 0 else 1) else 2

set_option maxHeartbeats 4000000 in
set_option maxRecDepth 100000 in
theorem c_M_state (l : Launch) (G : gs_G) (S : gs_S) (sz : Nat) (y : Nat) (p0 : Int32) (hM : m_t S) (hY : g_sh S y = some (.inl 3)) : Met l yM_state (kM_state :: gU) { frames := 1, cells := 0, slots := 0, locals := 21 } (g_Pc G S sz [va_rf (some y), .int p0]) (g_Qi G S sz (fun r S' => S' = m_0 S y ∧ r = f_staM (m_0 S y) y p0)) 0 0 (g_A S sz) := by
  refine s_head (by decide) (Nat.le_of_ble_eq_true rfl) ?_
  intro p e s m below meth c ls hsz hC hr hlocks hnm hl hW
  subst hsz
  obtain ⟨hx, hb, hml, hown, hts⟩ := id hC
  have hl : lv_has ls 2 [(0, va_rf (some y)), (1, .int p0)] := hl
  refine s_aload_n (x := some y) hx hb dM_state_0 rfl (lv_at hl 0 rfl) ?_
  refine lv_iconst (v := 0) hx hb dM_state_1 (by decide) ?_
  refine s_puti hC hW gc_M iw_M 0 (by decide) uw_390 (Or.inl rfl) rfl rfl rfl hY dM_state_2 (fun H locs hW => ?_)
  have hT : m_t (m_0 S y) := mt_0 hM
  have hT0 : g_sh (m_0 S y) y = some (.inl 3) := hY
  have hW : g_W G (g_A S s.heap.size) s (m_0 S y) H locs := hW
  have h_programs := b_programs hT hT0
  have h_cells := b_cells hT hT0
  have h_active := b_active hT hT0
  have h_prepared := b_prepared hT hT0
  have h_arguments := b_arguments hT hT0
  have h_used := b_used hT hT0
  have h_preparedAhead := b_preparedAhead hT hT0
  refine s_aload_n (x := some y) hx hb dM_state_5 rfl (lv_at hl 0 rfl) ?_
  refine lv_iload_n hx hb dM_state_6 rfl (lv_at hl 1 rfl) ?_
  refine s_calli hW (s_runV (n := 1) (As := [.int p0]) (rest := []) hC (c_M_isProgram l G (m_0 S y) H.size y p0 hT hT0) uc_M_isProgram uw_498 uw_500 us_M_isProgram uw_4 rfl rfl (by decide +kernel) ⟨by decide, by decide⟩ (g_preV hW gc_M hT0 [.int p0]) rfl hl.1 rfl (Nat.le_of_ble_eq_true rfl) dM_state_7 ⟨Nat.le_of_ble_eq_true rfl, Nat.le_of_ble_eq_true rfl⟩) (fun q7 S7 H locs hp7 hW => ?_)
  obtain ⟨hs7, rfl⟩ := hp7
  replace hs7 := hs7.symm
  subst hs7
  refine lv_if_ne (tgt := 17) hx hb dM_state_10 (by decide) (fun c_10 => ?_) (fun c_10 => ?_)
  · skip
    obtain ⟨j, hj1, hj2, rfl⟩ := x_isP hT hT0 c_10
    refine s_aload_n (x := some y) hx hb dM_state_17 rfl (lv_at hl 0 rfl) ?_
    obtain ⟨a_activeTimes, ea_activeTimes, sa_activeTimes⟩ := w_m_activeTimes hT hT0
    refine s_getr hC hW gc_M iw_M 6 (by decide) uw_396 rfl hT0 (v := some a_activeTimes) ea_activeTimes dM_state_18 ?_
    refine lv_iload_n hx hb dM_state_21 rfl (lv_at hl 1 rfl) ?_
    refine k_iald hC hW sa_activeTimes rfl rfl (by decide) j rfl (by omega) (v := m_activeTimes (m_0 S y) y j) (e_activeTimes (S := m_0 S y) ea_activeTimes) dM_state_22 ?_
    refine lv_if_le (tgt := 30) hx hb dM_state_23 (by decide) (fun c_23 => ?_) (fun c_23 => ?_)
    · skip
      refine s_aload_n (x := some y) hx hb dM_state_30 rfl (lv_at hl 0 rfl) ?_
      obtain ⟨a_data, ea_data, sa_data⟩ := w_m_data hT hT0
      refine s_getr hC hW gc_M iw_M 7 (by decide) uw_397 rfl hT0 (v := some a_data) ea_data dM_state_31 ?_
      refine lv_iload_n hx hb dM_state_34 rfl (lv_at hl 1 rfl) ?_
      refine k_zald hC hW sa_data rfl rfl (by decide) j rfl (by omega) (v := m_data (m_0 S y) y j) (e_data (S := m_0 S y) ea_data) dM_state_35 ?_
      refine lv_if_eq (tgt := 43) hx hb dM_state_36 (by decide) (fun c_36 => ?_) (fun c_36 => ?_)
      · skip
        refine lv_iconst (v := 0) hx hb dM_state_43 (by decide) ?_
        exact s_iret hC hr hlocks rfl hW dM_state_44 ⟨rfl, by rw [f_staM, if_neg c_10, nI_clamp (show j < 2 ^ 31 by omega), if_pos c_23, if_pos c_36]⟩
      · skip
        refine lv_iconst (v := 1) hx hb dM_state_39 (by decide) ?_
        refine lv_goto (tgt := 44) hx hb dM_state_40 (by decide) ?_
        exact s_iret hC hr hlocks rfl hW dM_state_44 ⟨rfl, by rw [f_staM, if_neg c_10, nI_clamp (show j < 2 ^ 31 by omega), if_pos c_23, if_neg c_36]⟩
    · skip
      refine lv_iconst (v := 2) hx hb dM_state_26 (by decide) ?_
      refine lv_goto (tgt := 44) hx hb dM_state_27 (by decide) ?_
      exact s_iret hC hr hlocks rfl hW dM_state_44 ⟨rfl, by rw [f_staM, if_neg c_10, nI_clamp (show j < 2 ^ 31 by omega), if_neg c_23]⟩
  · skip
    refine lv_iconst (v := (-1)) hx hb dM_state_13 (by decide) ?_
    refine lv_goto (tgt := 44) hx hb dM_state_14 (by decide) ?_
    exact s_iret hC hr hlocks rfl hW dM_state_44 ⟨rfl, by rw [f_staM, if_pos c_10]⟩

set_option maxHeartbeats 4000000 in
set_option maxRecDepth 100000 in
theorem c_M_returned (l : Launch) (G : gs_G) (S : gs_S) (sz : Nat) (y : Nat) (hM : m_t S) (hY : g_sh S y = some (.inl 3)) : Met l yM_returned (kM_returned :: gU) { frames := 0, cells := 0, slots := 0, locals := 0 } (g_Pc G S sz [va_rf (some y)]) (g_Ql G S sz (fun r S' => S' = m_0 S y ∧ r = g_l S 3 28 y)) 0 0 (g_A S sz) := by
  refine s_head (by decide) (Nat.le_of_ble_eq_true rfl) ?_
  intro p e s m below meth c ls hsz hC hr hlocks hnm hl hW
  subst hsz
  obtain ⟨hx, hb, hml, hown, hts⟩ := id hC
  have hl : lv_has ls 1 [(0, va_rf (some y))] := hl
  refine s_aload_n (x := some y) hx hb dM_returned_0 rfl (lv_at hl 0 rfl) ?_
  refine lv_iconst (v := 0) hx hb dM_returned_1 (by decide) ?_
  refine s_puti hC hW gc_M iw_M 0 (by decide) uw_390 (Or.inl rfl) rfl rfl rfl hY dM_returned_2 (fun H locs hW => ?_)
  refine s_aload_n (x := some y) hx hb dM_returned_5 rfl (lv_at hl 0 rfl) ?_
  refine s_getl hC hW gc_M iw_M 28 (by decide) uw_418 rfl hY rfl dM_returned_6 ?_
  exact s_lret hC hr hlocks hW dM_returned_9 ⟨rfl, rfl⟩

/-! M.shared -/
def f_sf (S : gs_S) (y : Nat) (nm : Int32) : Nat → Nat → Option Nat
  | 0, _ => none
  | k + 1, i => if nI (m_owner S y i) = 0 then (if m_external S y i = nm then some i else f_sf S y nm k (i + 1)) else f_sf S y nm k (i + 1)
def f_shM (T : gs_S) (y : Nat) (nm : Int32) : Int32 × gs_S := if f_isName nm = 0 then (-2, T) else match f_sf T y nm (m_cells T y) 0 with
  | some k => (nI k, T)
  | none => if nI (m_cells T y) = 200 then (-1, T) else (nI (m_cells T y), p_i (p_al (p_ai (p_ai T 16 (m_q T y 9) (m_cells T y) 0) 18 (m_q T y 11) (m_cells T y) nm) 22 (m_q T y 16) (m_cells T y) 0) 3 13 y (nI (m_cells T y + 1)))

set_option maxHeartbeats 4000000 in
set_option maxRecDepth 100000 in
theorem lp_sh (l : Launch) (G : gs_G) (S : gs_S) (T : gs_S) (y : Nat) (nm : Int32) (hT : m_t T) (hT0 : g_sh T y = some (.inl 3)) (h_cells : m_cells T y ≤ 200) (hnm0 : ¬ f_isName nm = 0) {p : Program} {e : Env} {s : State} {m : MethodId} {below : List Frame} {meth : Method} {c : Code} (hC : CallFix p m c cM_shared 3 s #[va_rf (some y), Value.int nm] gU yM_shared.cls) (hr : meth.sig.returnType = some .int) (hlocks : meth.locks = false) {H : Heap} {locs : List Loc} (hW : g_W G (g_A S s.heap.size) s T H locs) :
    ∀ (k : Nat) (i : Nat), i + k = m_cells T y → f_sf T y nm (m_cells T y) 0 = f_sf T y nm k i → ∀ (ls : Array Slot), lv_has ls 3 [(2, .int (nI i)), (0, va_rf (some y)), (1, .int nm)] → W p l e { frames := 1, cells := 0, slots := 0, locals := 20 } s m #[va_rf (some y), Value.int nm] below meth c H locs 0 0 (MQ below (g_Qi G S s.heap.size (fun r S' => r = (f_shM T y nm).1 ∧ S' = (f_shM T y nm).2)) #[va_rf (some y), Value.int nm] s 0 0 (g_A S s.heap.size)) (F0 m 17 ls []) := by
  obtain ⟨hx, hb, hml, hown, hts⟩ := id hC
  intro k
  induction k with
  | zero =>
    intro i  hi hf ls hl
    refine lv_iload_n hx hb dM_shared_17 rfl (lv_at hl 0 rfl) ?_
    refine s_aload_n (x := some y) hx hb dM_shared_18 rfl (lv_at hl 1 rfl) ?_
    refine s_geti hC hW gc_M iw_M 13 (by decide) uw_403 rfl hT0 (v := nI (m_cells T y)) (e_cells (S := T) hT hT0) dM_shared_19 ?_
    refine lv_icmp_ge (tgt := 52) hx hb dM_shared_22 (by decide) (fun c_22 => ?_) (fun c => absurd ((nI_leI (by omega) (by omega)).mpr (by omega)) c)
    refine s_aload_n (x := some y) hx hb dM_shared_52 rfl (lv_at hl 1 rfl) ?_
    refine s_geti hC hW gc_M iw_M 13 (by decide) uw_403 rfl hT0 (v := nI (m_cells T y)) (e_cells (S := T) hT hT0) dM_shared_53 ?_
    refine lv_sipush (v := 200) hx hb dM_shared_56 (by decide) ?_
    refine lv_icmp_ne (tgt := 64) hx hb dM_shared_59 (by decide) (fun c_59 => ?_) (fun c_59 => ?_)
    · skip
      have hc200 : m_cells T y ≠ 200 := fun z => c_59 (by rw [z]; rfl)
      refine s_aload_n (x := some y) hx hb dM_shared_64 rfl (lv_at hl 1 rfl) ?_
      obtain ⟨a_owner, ea_owner, sa_owner⟩ := w_m_owner hT hT0
      refine s_getr hC hW gc_M iw_M 9 (by decide) uw_399 rfl hT0 (v := some a_owner) ea_owner dM_shared_65 ?_
      refine s_aload_n (x := some y) hx hb dM_shared_68 rfl (lv_at hl 1 rfl) ?_
      refine s_geti hC hW gc_M iw_M 13 (by decide) uw_403 rfl hT0 (v := nI (m_cells T y)) (e_cells (S := T) hT hT0) dM_shared_69 ?_
      refine lv_iconst (v := 0) hx hb dM_shared_72 (by decide) ?_
      refine k_iast hC hW sa_owner rfl rfl (by decide) (m_cells T y) rfl (by omega) dM_shared_73 (fun H locs hW => ?_)
      refine s_aload_n (x := some y) hx hb dM_shared_74 rfl (lv_at hl 1 rfl) ?_
      obtain ⟨a_external, ea_external, sa_external⟩ := w_m_external hT hT0
      refine s_getr hC hW gc_M iw_M 11 (by decide) uw_401 rfl hT0 (v := some a_external) ea_external dM_shared_75 ?_
      refine s_aload_n (x := some y) hx hb dM_shared_78 rfl (lv_at hl 1 rfl) ?_
      refine s_geti hC hW gc_M iw_M 13 (by decide) uw_403 rfl hT0 (v := nI (m_cells T y)) (e_cells (S := T) hT hT0) dM_shared_79 ?_
      refine lv_iload_n hx hb dM_shared_82 rfl (lv_at hl 2 rfl) ?_
      refine k_iast hC hW sa_external rfl rfl (by decide) (m_cells T y) rfl (by omega) dM_shared_83 (fun H locs hW => ?_)
      refine s_aload_n (x := some y) hx hb dM_shared_84 rfl (lv_at hl 1 rfl) ?_
      obtain ⟨a_memory, ea_memory, sa_memory⟩ := w_m_memory hT hT0
      refine s_getr hC hW gc_M iw_M 16 (by decide) uw_406 rfl hT0 (v := some a_memory) ea_memory dM_shared_85 ?_
      refine s_aload_n (x := some y) hx hb dM_shared_88 rfl (lv_at hl 1 rfl) ?_
      refine s_geti hC hW gc_M iw_M 13 (by decide) uw_403 rfl hT0 (v := nI (m_cells T y)) (e_cells (S := T) hT hT0) dM_shared_89 ?_
      refine lv_lconst (v := 0) hx hb dM_shared_92 (by decide) ?_
      refine k_last hC hW sa_memory rfl rfl (by decide) (m_cells T y) rfl (by omega) dM_shared_93 (fun H locs hW => ?_)
      refine s_aload_n (x := some y) hx hb dM_shared_94 rfl (lv_at hl 1 rfl) ?_
      refine lv_dup hx hb dM_shared_95 rfl ?_
      refine s_geti hC hW gc_M iw_M 13 (by decide) uw_403 rfl hT0 (v := nI (m_cells T y)) (e_cells (S := T) hT hT0) dM_shared_96 ?_
      refine lv_iconst (v := 1) hx hb dM_shared_99 (by decide) ?_
      refine lv_iadd hx hb dM_shared_100 ?_
      refine s_topi (nI_1 _) ?_
      refine s_puti hC hW gc_M iw_M 13 (by decide) uw_403 (Or.inl rfl) rfl rfl rfl hT0 dM_shared_101 (fun H locs hW => ?_)
      refine s_aload_n (x := some y) hx hb dM_shared_104 rfl (lv_at hl 1 rfl) ?_
      refine s_geti hC hW gc_M iw_M 13 (by decide) uw_403 rfl hT0 (v := nI ((m_cells T y) + 1)) (by simp [x_gs]) dM_shared_105 ?_
      refine lv_iconst (v := 1) hx hb dM_shared_108 (by decide) ?_
      refine lv_isub hx hb dM_shared_109 ?_
      refine s_topi (x_sub1 (by omega)) ?_
      exact s_iret hC hr hlocks rfl hW dM_shared_110 ⟨by rw [f_shM, if_neg hnm0, hf, show f_sf T y nm 0 i = none from rfl]; simp only []; rw [if_neg c_59]; simp, by rw [f_shM, if_neg hnm0, hf, show f_sf T y nm 0 i = none from rfl]; simp only []; rw [if_neg c_59, m_q, ea_owner, v_a_s, m_q, ea_external, v_a_s, m_q, ea_memory, v_a_s]⟩
    · skip
      refine lv_iconst (v := (-1)) hx hb dM_shared_62 (by decide) ?_
      exact s_iret hC hr hlocks rfl hW dM_shared_63 ⟨by rw [f_shM, if_neg hnm0, hf, show f_sf T y nm 0 i = none from rfl]; simp only []; rw [if_pos c_59], by rw [f_shM, if_neg hnm0, hf, show f_sf T y nm 0 i = none from rfl]; simp only []; rw [if_pos c_59]⟩
  | succ k ih =>
    intro i  hi hf ls hl
    refine lv_iload_n hx hb dM_shared_17 rfl (lv_at hl 0 rfl) ?_
    refine s_aload_n (x := some y) hx hb dM_shared_18 rfl (lv_at hl 1 rfl) ?_
    refine s_geti hC hW gc_M iw_M 13 (by decide) uw_403 rfl hT0 (v := nI (m_cells T y)) (e_cells (S := T) hT hT0) dM_shared_19 ?_
    refine lv_icmp_ge (tgt := 52) hx hb dM_shared_22 (by decide) (fun c => absurd ((nI_leI (by omega) (by omega)).mp c) (by omega)) (fun c_22 => ?_)
    refine s_aload_n (x := some y) hx hb dM_shared_25 rfl (lv_at hl 1 rfl) ?_
    obtain ⟨a_owner, ea_owner, sa_owner⟩ := w_m_owner hT hT0
    refine s_getr hC hW gc_M iw_M 9 (by decide) uw_399 rfl hT0 (v := some a_owner) ea_owner dM_shared_26 ?_
    refine lv_iload_n hx hb dM_shared_29 rfl (lv_at hl 0 rfl) ?_
    refine k_iald hC hW sa_owner rfl rfl (by decide) i rfl (by omega) (v := nI (m_owner T y i)) (e_owner (S := T) hT hT0 ea_owner (by omega)) dM_shared_30 ?_
    have h30 := b_owner hT hT0 (i := i) (by omega)
    refine lv_if_ne (tgt := 46) hx hb dM_shared_31 (by decide) (fun c_31 => ?_) (fun c_31 => ?_)
    · skip
      refine lv_iinc (v := nI (i + 1)) (lv' := [(2, .int (nI (i + 1))), (0, va_rf (some y)), (1, .int nm)]) hx hb dM_shared_46 hl (k := 0) rfl (nI_1 _) (by decide) rfl (fun ls hl => ?_)
      refine lv_goto (tgt := 17) hx hb dM_shared_49 (by decide) ?_
      exact ih (i + 1) (by omega) (by rw [hf, f_sf, if_neg c_31]) ls (lv_sub hl [0, 1, 2] rfl)
    · skip
      refine s_aload_n (x := some y) hx hb dM_shared_34 rfl (lv_at hl 1 rfl) ?_
      obtain ⟨a_external, ea_external, sa_external⟩ := w_m_external hT hT0
      refine s_getr hC hW gc_M iw_M 11 (by decide) uw_401 rfl hT0 (v := some a_external) ea_external dM_shared_35 ?_
      refine lv_iload_n hx hb dM_shared_38 rfl (lv_at hl 0 rfl) ?_
      refine k_iald hC hW sa_external rfl rfl (by decide) i rfl (by omega) (v := m_external T y i) (e_external (S := T) ea_external) dM_shared_39 ?_
      refine lv_iload_n hx hb dM_shared_40 rfl (lv_at hl 2 rfl) ?_
      refine lv_icmp_ne (tgt := 46) hx hb dM_shared_41 (by decide) (fun c_41 => ?_) (fun c_41 => ?_)
      · skip
        refine lv_iinc (v := nI (i + 1)) (lv' := [(2, .int (nI (i + 1))), (0, va_rf (some y)), (1, .int nm)]) hx hb dM_shared_46 hl (k := 0) rfl (nI_1 _) (by decide) rfl (fun ls hl => ?_)
        refine lv_goto (tgt := 17) hx hb dM_shared_49 (by decide) ?_
        exact ih (i + 1) (by omega) (by rw [hf, f_sf, if_pos c_31, if_neg c_41]) ls (lv_sub hl [0, 1, 2] rfl)
      · skip
        refine lv_iload_n hx hb dM_shared_44 rfl (lv_at hl 0 rfl) ?_
        exact s_iret hC hr hlocks rfl hW dM_shared_45 ⟨by rw [f_shM, if_neg hnm0, hf, f_sf, if_pos c_31, if_pos c_41], by rw [f_shM, if_neg hnm0, hf, f_sf, if_pos c_31, if_pos c_41]⟩

set_option maxHeartbeats 4000000 in
set_option maxRecDepth 100000 in
theorem c_M_shared (l : Launch) (G : gs_G) (S : gs_S) (sz : Nat) (y : Nat) (nm : Int32) (hM : m_t S) (hY : g_sh S y = some (.inl 3)) : Met l yM_shared (kM_shared :: gU) { frames := 1, cells := 0, slots := 0, locals := 20 } (g_Pc G S sz [va_rf (some y), .int nm]) (g_Qi G S sz (fun r S' => r = (f_shM (m_0 S y) y nm).1 ∧ S' = (f_shM (m_0 S y) y nm).2)) 0 0 (g_A S sz) := by
  refine s_head (by decide) (Nat.le_of_ble_eq_true rfl) ?_
  intro p e s m below meth c ls hsz hC hr hlocks hnm hl hW
  subst hsz
  obtain ⟨hx, hb, hml, hown, hts⟩ := id hC
  have hl : lv_has ls 3 [(0, va_rf (some y)), (1, .int nm)] := hl
  refine s_aload_n (x := some y) hx hb dM_shared_0 rfl (lv_at hl 0 rfl) ?_
  refine lv_iconst (v := 0) hx hb dM_shared_1 (by decide) ?_
  refine s_puti hC hW gc_M iw_M 0 (by decide) uw_390 (Or.inl rfl) rfl rfl rfl hY dM_shared_2 (fun H locs hW => ?_)
  have hT : m_t (m_0 S y) := mt_0 hM
  have hT0 : g_sh (m_0 S y) y = some (.inl 3) := hY
  have hW : g_W G (g_A S s.heap.size) s (m_0 S y) H locs := hW
  have h_programs := b_programs hT hT0
  have h_cells := b_cells hT hT0
  have h_active := b_active hT hT0
  have h_prepared := b_prepared hT hT0
  have h_arguments := b_arguments hT hT0
  have h_used := b_used hT hT0
  have h_preparedAhead := b_preparedAhead hT hT0
  refine lv_iload_n hx hb dM_shared_5 rfl (lv_at hl 1 rfl) ?_
  refine s_calli hW (s_runS (n := 1) (As := [.int nm]) (rest := []) hC (c_M_isName l G (m_0 S y) H.size nm) uc_M_isName uw_487 uw_488 uw_4 rfl rfl (by decide +kernel) ⟨by decide, by decide⟩ (g_preS hW [.int nm]) rfl hl.1 rfl (Nat.le_of_ble_eq_true rfl) dM_shared_6 ⟨Nat.le_of_ble_eq_true rfl, Nat.le_of_ble_eq_true rfl⟩) (fun q6 S6 H locs hp6 hW => ?_)
  obtain ⟨hs6, rfl⟩ := hp6
  replace hs6 := hs6.symm
  subst hs6
  refine lv_if_ne (tgt := 15) hx hb dM_shared_9 (by decide) (fun c_9 => ?_) (fun c_9 => ?_)
  · skip
    refine lv_iconst (v := 0) hx hb dM_shared_15 (by decide) ?_
    refine lv_istore_n (lv' := [(2, .int 0), (0, va_rf (some y)), (1, .int nm)]) hx hb dM_shared_16 rfl hl (by decide) rfl (fun ls hl => ?_)
    exact lp_sh l G S (m_0 S y) y nm hT hT0 h_cells c_9 hC hr hlocks hW (m_cells (m_0 S y) y) 0 (by omega) rfl ls hl
  · skip
    refine lv_bipush (v := (-2)) hx hb dM_shared_12 (by decide) ?_
    exact s_iret hC hr hlocks rfl hW dM_shared_14 ⟨by rw [f_shM, if_pos c_9], by rw [f_shM, if_pos c_9]⟩

/-! M.count -/
def f_coM (T : gs_S) (y : Nat) (w : Int32) : Int32 := if w = 0 then nI (m_programs T y) else if w = 1 then nI (m_cells T y) else if w = 2 then nI (m_active T y) else if w = 3 then nI (f_runM T y) else if w = 4 then nI (m_prepared T y) else if w = 5 then nI (m_arguments T y) else if w = 6 then (if f_runM T y = 0 then 0 else nI (m_manyFormals T y (f_runM T y))) else -1

set_option maxHeartbeats 4000000 in
set_option maxRecDepth 100000 in
theorem c_M_count (l : Launch) (G : gs_G) (S : gs_S) (sz : Nat) (y : Nat) (w0 : Int32) (hM : m_t S) (hY : g_sh S y = some (.inl 3)) : Met l yM_count (kM_count :: gU) { frames := 1, cells := 0, slots := 0, locals := 20 } (g_Pc G S sz [va_rf (some y), .int w0]) (g_Qi G S sz (fun r S' => S' = m_0 S y ∧ r = f_coM (m_0 S y) y w0)) 0 0 (g_A S sz) := by
  refine s_head (by decide) (Nat.le_of_ble_eq_true rfl) ?_
  intro p e s m below meth c ls hsz hC hr hlocks hnm hl hW
  subst hsz
  obtain ⟨hx, hb, hml, hown, hts⟩ := id hC
  have hl : lv_has ls 2 [(0, va_rf (some y)), (1, .int w0)] := hl
  refine s_aload_n (x := some y) hx hb dM_count_0 rfl (lv_at hl 0 rfl) ?_
  refine lv_iconst (v := 0) hx hb dM_count_1 (by decide) ?_
  refine s_puti hC hW gc_M iw_M 0 (by decide) uw_390 (Or.inl rfl) rfl rfl rfl hY dM_count_2 (fun H locs hW => ?_)
  have hT : m_t (m_0 S y) := mt_0 hM
  have hT0 : g_sh (m_0 S y) y = some (.inl 3) := hY
  have hW : g_W G (g_A S s.heap.size) s (m_0 S y) H locs := hW
  have h_programs := b_programs hT hT0
  have h_cells := b_cells hT hT0
  have h_active := b_active hT hT0
  have h_prepared := b_prepared hT hT0
  have h_arguments := b_arguments hT hT0
  have h_used := b_used hT hT0
  have h_preparedAhead := b_preparedAhead hT hT0
  refine lv_iload_n hx hb dM_count_5 rfl (lv_at hl 1 rfl) ?_
  rcases x_sw w0 6 (by decide) with ⟨j, hj, rfl⟩ | hout
  · have hj : j = 0 ∨ j = 1 ∨ j = 2 ∨ j = 3 ∨ j = 4 ∨ j = 5 ∨ j = 6 := by omega
    rcases hj with rfl | rfl | rfl | rfl | rfl | rfl | rfl
    · refine lv_tableIn (x := nI 0) (off := 42) (tgt := 48) hx hb dM_count_6 (by decide) (by decide) (by decide) (by decide) ?_
      refine s_aload_n (x := some y) hx hb dM_count_48 rfl (lv_at hl 0 rfl) ?_
      refine s_geti hC hW gc_M iw_M 8 (by decide) uw_398 rfl hT0 (v := nI (m_programs (m_0 S y) y)) (e_programs (S := m_0 S y) hT hT0) dM_count_49 ?_
      exact s_iret hC hr hlocks rfl hW dM_count_52 ⟨rfl, by rw [f_coM, if_pos (show nI 0 = 0 by decide)]⟩
    · refine lv_tableIn (x := nI 1) (off := 47) (tgt := 53) hx hb dM_count_6 (by decide) (by decide) (by decide) (by decide) ?_
      refine s_aload_n (x := some y) hx hb dM_count_53 rfl (lv_at hl 0 rfl) ?_
      refine s_geti hC hW gc_M iw_M 13 (by decide) uw_403 rfl hT0 (v := nI (m_cells (m_0 S y) y)) (e_cells (S := m_0 S y) hT hT0) dM_count_54 ?_
      exact s_iret hC hr hlocks rfl hW dM_count_57 ⟨rfl, by rw [f_coM, if_neg (show ¬ nI 1 = 0 by decide), if_pos (show nI 1 = 1 by decide)]⟩
    · refine lv_tableIn (x := nI 2) (off := 52) (tgt := 58) hx hb dM_count_6 (by decide) (by decide) (by decide) (by decide) ?_
      refine s_aload_n (x := some y) hx hb dM_count_58 rfl (lv_at hl 0 rfl) ?_
      refine s_geti hC hW gc_M iw_M 22 (by decide) uw_412 rfl hT0 (v := nI (m_active (m_0 S y) y)) (e_active (S := m_0 S y) hT hT0) dM_count_59 ?_
      exact s_iret hC hr hlocks rfl hW dM_count_62 ⟨rfl, by rw [f_coM, if_neg (show ¬ nI 2 = 0 by decide), if_neg (show ¬ nI 2 = 1 by decide), if_pos (show nI 2 = 2 by decide)]⟩
    · refine lv_tableIn (x := nI 3) (off := 57) (tgt := 63) hx hb dM_count_6 (by decide) (by decide) (by decide) (by decide) ?_
      refine s_aload_n (x := some y) hx hb dM_count_63 rfl (lv_at hl 0 rfl) ?_
      refine s_calli hW (s_runV (n := 0) (As := []) (rest := []) hC (c_M_running l G (m_0 S y) H.size y hT hT0) uc_M_running uw_518 uw_520 us_M_running uw_4 rfl rfl (by decide +kernel) ⟨by decide, by decide⟩ (g_preV hW gc_M hT0 []) rfl hl.1 rfl (Nat.le_of_ble_eq_true rfl) dM_count_64 ⟨Nat.le_of_ble_eq_true rfl, Nat.le_of_ble_eq_true rfl⟩) (fun q64 S64 H locs hp64 hW => ?_)
      obtain ⟨hs64, rfl⟩ := hp64
      replace hs64 := hs64.symm
      subst hs64
      have hrun64 := b_runM hT hT0
      exact s_iret hC hr hlocks rfl hW dM_count_67 ⟨rfl, by rw [f_coM, if_neg (show ¬ nI 3 = 0 by decide), if_neg (show ¬ nI 3 = 1 by decide), if_neg (show ¬ nI 3 = 2 by decide), if_pos (show nI 3 = 3 by decide)]⟩
    · refine lv_tableIn (x := nI 4) (off := 62) (tgt := 68) hx hb dM_count_6 (by decide) (by decide) (by decide) (by decide) ?_
      refine s_aload_n (x := some y) hx hb dM_count_68 rfl (lv_at hl 0 rfl) ?_
      refine s_geti hC hW gc_M iw_M 23 (by decide) uw_413 rfl hT0 (v := nI (m_prepared (m_0 S y) y)) (e_prepared (S := m_0 S y) hT hT0) dM_count_69 ?_
      exact s_iret hC hr hlocks rfl hW dM_count_72 ⟨rfl, by rw [f_coM, if_neg (show ¬ nI 4 = 0 by decide), if_neg (show ¬ nI 4 = 1 by decide), if_neg (show ¬ nI 4 = 2 by decide), if_neg (show ¬ nI 4 = 3 by decide), if_pos (show nI 4 = 4 by decide)]⟩
    · refine lv_tableIn (x := nI 5) (off := 67) (tgt := 73) hx hb dM_count_6 (by decide) (by decide) (by decide) (by decide) ?_
      refine s_aload_n (x := some y) hx hb dM_count_73 rfl (lv_at hl 0 rfl) ?_
      refine s_geti hC hW gc_M iw_M 24 (by decide) uw_414 rfl hT0 (v := nI (m_arguments (m_0 S y) y)) (e_arguments (S := m_0 S y) hT hT0) dM_count_74 ?_
      exact s_iret hC hr hlocks rfl hW dM_count_77 ⟨rfl, by rw [f_coM, if_neg (show ¬ nI 5 = 0 by decide), if_neg (show ¬ nI 5 = 1 by decide), if_neg (show ¬ nI 5 = 2 by decide), if_neg (show ¬ nI 5 = 3 by decide), if_neg (show ¬ nI 5 = 4 by decide), if_pos (show nI 5 = 5 by decide)]⟩
    · refine lv_tableIn (x := nI 6) (off := 72) (tgt := 78) hx hb dM_count_6 (by decide) (by decide) (by decide) (by decide) ?_
      refine s_aload_n (x := some y) hx hb dM_count_78 rfl (lv_at hl 0 rfl) ?_
      refine s_calli hW (s_runV (n := 0) (As := []) (rest := []) hC (c_M_running l G (m_0 S y) H.size y hT hT0) uc_M_running uw_518 uw_520 us_M_running uw_4 rfl rfl (by decide +kernel) ⟨by decide, by decide⟩ (g_preV hW gc_M hT0 []) rfl hl.1 rfl (Nat.le_of_ble_eq_true rfl) dM_count_79 ⟨Nat.le_of_ble_eq_true rfl, Nat.le_of_ble_eq_true rfl⟩) (fun q79 S79 H locs hp79 hW => ?_)
      obtain ⟨hs79, rfl⟩ := hp79
      replace hs79 := hs79.symm
      subst hs79
      have hrun79 := b_runM hT hT0
      refine lv_if_ne (tgt := 89) hx hb dM_count_82 (by decide) (fun c_82 => ?_) (fun c_82 => ?_)
      · skip
        refine s_aload_n (x := some y) hx hb dM_count_89 rfl (lv_at hl 0 rfl) ?_
        obtain ⟨a_manyFormals, ea_manyFormals, sa_manyFormals⟩ := w_m_manyFormals hT hT0
        refine s_getr hC hW gc_M iw_M 5 (by decide) uw_395 rfl hT0 (v := some a_manyFormals) ea_manyFormals dM_count_90 ?_
        refine s_aload_n (x := some y) hx hb dM_count_93 rfl (lv_at hl 0 rfl) ?_
        refine s_calli hW (s_runV (n := 0) (As := []) (rest := [va_rf (some a_manyFormals)]) hC (c_M_running l G (m_0 S y) H.size y hT hT0) uc_M_running uw_518 uw_520 us_M_running uw_4 rfl rfl (by decide +kernel) ⟨by decide, by decide⟩ (g_preV hW gc_M hT0 []) rfl hl.1 rfl (Nat.le_of_ble_eq_true rfl) dM_count_94 ⟨Nat.le_of_ble_eq_true rfl, Nat.le_of_ble_eq_true rfl⟩) (fun q94 S94 H locs hp94 hW => ?_)
        obtain ⟨hs94, rfl⟩ := hp94
        replace hs94 := hs94.symm
        subst hs94
        have hrun94 := b_runM hT hT0
        refine k_iald hC hW sa_manyFormals rfl rfl (by decide) (f_runM (m_0 S y) y) rfl (by omega) (v := nI (m_manyFormals (m_0 S y) y (f_runM (m_0 S y) y))) (e_manyFormals (S := m_0 S y) hT hT0 ea_manyFormals (by omega)) dM_count_97 ?_
        have h97 := b_manyFormals hT hT0 (i := f_runM (m_0 S y) y) (by omega)
        exact s_iret hC hr hlocks rfl hW dM_count_98 ⟨rfl, by rw [f_coM, if_neg (show ¬ nI 6 = 0 by decide), if_neg (show ¬ nI 6 = 1 by decide), if_neg (show ¬ nI 6 = 2 by decide), if_neg (show ¬ nI 6 = 3 by decide), if_neg (show ¬ nI 6 = 4 by decide), if_neg (show ¬ nI 6 = 5 by decide), if_pos (show nI 6 = 6 by decide), if_neg (fun z => c_82 ((x_n0 (by omega)).mpr z))]⟩
      · skip
        refine lv_iconst (v := 0) hx hb dM_count_85 (by decide) ?_
        refine lv_goto (tgt := 98) hx hb dM_count_86 (by decide) ?_
        exact s_iret hC hr hlocks rfl hW dM_count_98 ⟨rfl, by rw [f_coM, if_neg (show ¬ nI 6 = 0 by decide), if_neg (show ¬ nI 6 = 1 by decide), if_neg (show ¬ nI 6 = 2 by decide), if_neg (show ¬ nI 6 = 3 by decide), if_neg (show ¬ nI 6 = 4 by decide), if_neg (show ¬ nI 6 = 5 by decide), if_pos (show nI 6 = 6 by decide), if_pos ((x_n0 (by omega)).mp c_82)]⟩
  · refine lv_tableOut (tgt := 99) hx hb dM_count_6 hout (by decide) ?_
    refine lv_iconst (v := (-1)) hx hb dM_count_99 (by decide) ?_
    exact s_iret hC hr hlocks rfl hW dM_count_100 ⟨rfl, by rw [f_coM, if_neg (fun z => by subst z; exact absurd hout (by decide)), if_neg (fun z => by subst z; exact absurd hout (by decide)), if_neg (fun z => by subst z; exact absurd hout (by decide)), if_neg (fun z => by subst z; exact absurd hout (by decide)), if_neg (fun z => by subst z; exact absurd hout (by decide)), if_neg (fun z => by subst z; exact absurd hout (by decide)), if_neg (fun z => by subst z; exact absurd hout (by decide))]⟩
