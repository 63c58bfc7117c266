section GT2
variable {p : Program} {l : Launch} {e : Env} {R : Room} {s : State} {m : MethodId} {args : Array Value} {below : List Frame} {meth : Method} {c : Code} {H : Heap} {locs : List Loc} {cells slots : Nat} {Q : State → Prop} {pc : Nat} {ls : Array Slot} {rest : List Value}
theorem s_topl {x y : Int64} (h : x = y) (kk : W p l e R s m args below meth c H locs cells slots Q (F0 m pc ls (.long y :: rest))) : W p l e R s m args below meth c H locs cells slots Q (F0 m pc ls (.long x :: rest)) := by
  subst h
  exact kk
end GT2
/-! M.bytesOf -/
def f_byM (S : gs_S) (y : Nat) (n : Int32) : Int32 := if n < 0 then m_bytes S y (16 * (f_runM S y - 1) + (-1 - n).toNatClampNeg) else 8

set_option maxHeartbeats 4000000 in
set_option maxRecDepth 100000 in
theorem c_M_bytesOf (l : Launch) (G : gs_G) (S : gs_S) (sz : Nat) (y : Nat) (n : Int32) (hM : m_t S) (hY : g_sh S y = some (.inl 3)) (hc : n < 0 → 1 ≤ f_runM S y ∧ ∃ j : Nat, j < 16 ∧ -1 - n = nI j) : Met l yM_bytesOf (kM_bytesOf :: gU) { frames := 1, cells := 0, slots := 0, locals := 20 } (g_Pc G S sz [va_rf (some y), .int n]) (g_Qi G S sz (fun r S' => S' = S ∧ r = f_byM S y n)) 0 0 (g_A S sz) := by
  refine s_head (by decide) (Nat.le_of_ble_eq_true rfl) ?_
  intro p e s m below meth c ls hsz hC hr hlocks hnm hl hW
  subst hsz
  obtain ⟨hx, hb, hml, hown, hts⟩ := id hC
  have hl : lv_has ls 2 [(0, va_rf (some y)), (1, .int n)] := hl
  refine lv_iload_n hx hb dM_bytesOf_0 rfl (lv_at hl 1 rfl) ?_
  refine lv_if_lt (tgt := 9) hx hb dM_bytesOf_1 (by decide) (fun c_1 => ?_) (fun c_1 => ?_)
  · skip
    obtain ⟨hr1, j, hj, ej⟩ := hc c_1
    refine s_aload_n (x := some y) hx hb dM_bytesOf_9 rfl (lv_at hl 0 rfl) ?_
    obtain ⟨a_bytes, ea_bytes, sa_bytes⟩ := w_m_bytes hM hY
    refine s_getr hC hW gc_M iw_M 15 (by decide) uw_405 rfl hY (v := some a_bytes) ea_bytes dM_bytesOf_10 ?_
    refine lv_bipush (v := 16) hx hb dM_bytesOf_13 (by decide) ?_
    refine s_aload_n (x := some y) hx hb dM_bytesOf_15 rfl (lv_at hl 0 rfl) ?_
    refine s_calli hW (s_runV (n := 0) (As := []) (rest := [.int 16, va_rf (some a_bytes)]) hC (c_M_running l G S s.heap.size y hM hY) uc_M_running uw_518 uw_520 us_M_running uw_4 rfl rfl (by decide +kernel) ⟨by decide, by decide⟩ (g_preV hW gc_M hY []) rfl hl.1 rfl (Nat.le_of_ble_eq_true rfl) dM_bytesOf_16 ⟨Nat.le_of_ble_eq_true rfl, Nat.le_of_ble_eq_true rfl⟩) (fun q16 S16 H locs hp16 hW => ?_)
    obtain ⟨hs16, rfl⟩ := hp16
    replace hs16 := hs16.symm
    subst hs16
    have hrun16 := b_runM hM hY
    refine lv_iconst (v := 1) hx hb dM_bytesOf_19 (by decide) ?_
    refine lv_isub hx hb dM_bytesOf_20 ?_
    refine s_topi (x_sub1 (by omega)) ?_
    refine lv_imul hx hb dM_bytesOf_21 ?_
    refine s_topi (x_mul16 _) ?_
    refine lv_iconst (v := (-1)) hx hb dM_bytesOf_22 (by decide) ?_
    refine lv_iload_n hx hb dM_bytesOf_23 rfl (lv_at hl 1 rfl) ?_
    refine lv_isub hx hb dM_bytesOf_24 ?_
    refine s_topi ej ?_
    refine lv_iadd hx hb dM_bytesOf_25 ?_
    refine s_topi (nI_add _ _) ?_
    refine k_iald hC hW sa_bytes rfl rfl (by decide) ((16 * ((f_runM S y) - 1)) + j) rfl (by omega) (v := m_bytes S y ((16 * ((f_runM S y) - 1)) + j)) (e_bytes (S := S) ea_bytes) dM_bytesOf_26 ?_
    exact s_iret hC hr hlocks rfl hW dM_bytesOf_27 ⟨rfl, by rw [f_byM, if_pos c_1, ej, nI_clamp (show j < 2 ^ 31 by omega)]⟩
  · skip
    refine lv_bipush (v := 8) hx hb dM_bytesOf_4 (by decide) ?_
    refine lv_goto (tgt := 27) hx hb dM_bytesOf_6 (by decide) ?_
    exact s_iret hC hr hlocks rfl hW dM_bytesOf_27 ⟨rfl, by rw [f_byM, if_neg c_1]⟩

/-! M.signed -/
def f_sg (v : Int64) (n : Int32) : Int64 := (v <<< ((64 - 8 * n).toInt64 &&& 63)) >>> ((64 - 8 * n).toInt64 &&& 63)

set_option maxHeartbeats 4000000 in
set_option maxRecDepth 100000 in
theorem c_M_signed (l : Launch) (G : gs_G) (S : gs_S) (sz : Nat) (v : Int64) (n : Int32) : Met l yM_signed (kM_signed :: gU) { frames := 0, cells := 0, slots := 0, locals := 0 } (g_Pc G S sz [.long v, .int n]) (g_Ql G S sz (fun r S' => S' = S ∧ r = f_sg v n)) 0 0 (g_A S sz) := by
  refine s_head (by decide) (Nat.le_of_ble_eq_true rfl) ?_
  intro p e s m below meth c ls hsz hC hr hlocks hnm hl hW
  subst hsz
  obtain ⟨hx, hb, hml, hown, hts⟩ := id hC
  have hl : lv_has ls 3 [(0, .long v), (2, .int n)] := hl
  refine lv_lload_n hx hb dM_signed_0 rfl (lv_at hl 0 rfl) ?_
  refine lv_bipush (v := 64) hx hb dM_signed_1 (by decide) ?_
  refine lv_bipush (v := 8) hx hb dM_signed_3 (by decide) ?_
  refine lv_iload_n hx hb dM_signed_5 rfl (lv_at hl 1 rfl) ?_
  refine lv_imul hx hb dM_signed_6 ?_
  refine lv_isub hx hb dM_signed_7 ?_
  refine lv_lshl hx hb dM_signed_8 rfl ?_
  refine lv_topl (fun v_8 ev_8 => ?_)
  refine lv_bipush (v := 64) hx hb dM_signed_9 (by decide) ?_
  refine lv_bipush (v := 8) hx hb dM_signed_11 (by decide) ?_
  refine lv_iload_n hx hb dM_signed_13 rfl (lv_at hl 1 rfl) ?_
  refine lv_imul hx hb dM_signed_14 ?_
  refine lv_isub hx hb dM_signed_15 ?_
  refine lv_lshr hx hb dM_signed_16 rfl ?_
  refine lv_topl (fun v_16 ev_16 => ?_)
  exact s_lret hC hr hlocks hW dM_signed_17 ⟨rfl, by rw [ev_16, ev_8]; rfl⟩

/-! M.store -/
def f_al (n : Int32) : Int64 := if n = 8 then -1 else (1 : Int64) <<< ((8 * n).toInt64 &&& 63) - 1
def f_st (S : gs_S) (y k : Nat) (n : Int32) (v : Int64) : gs_S := p_al S 22 (m_q S y 16) k ((m_memory S y k &&& (f_al n ^^^ (-1))) ||| (v &&& f_al n))

set_option maxHeartbeats 4000000 in
set_option maxRecDepth 100000 in
theorem c_M_store (l : Launch) (G : gs_G) (S : gs_S) (sz : Nat) (y k : Nat) (n : Int32) (v : Int64) (hM : m_t S) (hY : g_sh S y = some (.inl 3)) (hk : k < 60000) : Met l yM_store (kM_store :: gU) { frames := 0, cells := 0, slots := 0, locals := 0 } (g_Pc G S sz [va_rf (some y), .int (nI k), .int n, .long v]) (g_Qv G S sz (fun S' => S' = f_st S y k n v)) 0 0 (g_A S sz) := by
  refine s_head (by decide) (Nat.le_of_ble_eq_true rfl) ?_
  intro p e s m below meth c ls hsz hC hr hlocks hnm hl hW
  subst hsz
  obtain ⟨hx, hb, hml, hown, hts⟩ := id hC
  have hl : lv_has ls 7 [(0, va_rf (some y)), (1, .int (nI k)), (2, .int n), (3, .long v)] := hl
  refine lv_iload_n hx hb dM_store_0 rfl (lv_at hl 2 rfl) ?_
  refine lv_bipush (v := 8) hx hb dM_store_1 (by decide) ?_
  refine lv_icmp_ne (tgt := 12) hx hb dM_store_3 (by decide) (fun c_3 => ?_) (fun c_3 => ?_)
  · skip
    refine lv_lconst (v := 1) hx hb dM_store_12 (by decide) ?_
    refine lv_bipush (v := 8) hx hb dM_store_13 (by decide) ?_
    refine lv_iload_n hx hb dM_store_15 rfl (lv_at hl 2 rfl) ?_
    refine lv_imul hx hb dM_store_16 ?_
    refine lv_lshl hx hb dM_store_17 rfl ?_
    refine lv_topl (fun v_17 ev_17 => ?_)
    refine lv_lconst (v := 1) hx hb dM_store_18 (by decide) ?_
    refine lv_lsub hx hb dM_store_19 ?_
    refine lv_topl (fun v_20 ev_20 => ?_)
    refine lv_lstore (lv' := [(5, .long v_20), (0, va_rf (some y)), (1, .int (nI k)), (2, .int n), (3, .long v)]) hx hb dM_store_20 hl (by decide) rfl (fun ls hl => ?_)
    refine s_aload_n (x := some y) hx hb dM_store_22 rfl (lv_at hl 1 rfl) ?_
    obtain ⟨a_memory, ea_memory, sa_memory⟩ := w_m_memory hM hY
    refine s_getr hC hW gc_M iw_M 16 (by decide) uw_406 rfl hY (v := some a_memory) ea_memory dM_store_23 ?_
    refine lv_iload_n hx hb dM_store_26 rfl (lv_at hl 2 rfl) ?_
    refine s_aload_n (x := some y) hx hb dM_store_27 rfl (lv_at hl 1 rfl) ?_
    refine s_getr hC hW gc_M iw_M 16 (by decide) uw_406 rfl hY (v := some a_memory) ea_memory dM_store_28 ?_
    refine lv_iload_n hx hb dM_store_31 rfl (lv_at hl 2 rfl) ?_
    refine k_lald hC hW sa_memory rfl rfl (by decide) k rfl (by omega) (v := m_memory S y k) (e_memory (S := S) ea_memory) dM_store_32 ?_
    refine lv_lload hx hb dM_store_33 (lv_at hl 0 rfl) ?_
    refine lv_ldc2 (v := (-1)) hx hb hown (hts _ uw_522) dM_store_35 ?_
    refine lv_lxor hx hb dM_store_38 ?_
    refine lv_land hx hb dM_store_39 ?_
    refine lv_lload_n hx hb dM_store_40 rfl (lv_at hl 4 rfl) ?_
    refine lv_lload hx hb dM_store_41 (lv_at hl 0 rfl) ?_
    refine lv_land hx hb dM_store_43 ?_
    refine lv_lor hx hb dM_store_44 ?_
    refine k_last hC hW sa_memory rfl rfl (by decide) k rfl (by omega) dM_store_45 (fun H locs hW => ?_)
    exact s_vret hC hr hlocks hW dM_store_46 (by rw [f_st, f_al, if_neg c_3, m_q, ea_memory, v_a_s, ev_20, ev_17])
  · skip
    refine lv_ldc2 (v := (-1)) hx hb hown (hts _ uw_522) dM_store_6 ?_
    refine lv_goto (tgt := 20) hx hb dM_store_9 (by decide) ?_
    refine lv_lstore (lv' := [(5, .long (-1)), (0, va_rf (some y)), (1, .int (nI k)), (2, .int n), (3, .long v)]) hx hb dM_store_20 hl (by decide) rfl (fun ls hl => ?_)
    refine s_aload_n (x := some y) hx hb dM_store_22 rfl (lv_at hl 1 rfl) ?_
    obtain ⟨a_memory, ea_memory, sa_memory⟩ := w_m_memory hM hY
    refine s_getr hC hW gc_M iw_M 16 (by decide) uw_406 rfl hY (v := some a_memory) ea_memory dM_store_23 ?_
    refine lv_iload_n hx hb dM_store_26 rfl (lv_at hl 2 rfl) ?_
    refine s_aload_n (x := some y) hx hb dM_store_27 rfl (lv_at hl 1 rfl) ?_
    refine s_getr hC hW gc_M iw_M 16 (by decide) uw_406 rfl hY (v := some a_memory) ea_memory dM_store_28 ?_
    refine lv_iload_n hx hb dM_store_31 rfl (lv_at hl 2 rfl) ?_
    refine k_lald hC hW sa_memory rfl rfl (by decide) k rfl (by omega) (v := m_memory S y k) (e_memory (S := S) ea_memory) dM_store_32 ?_
    refine lv_lload hx hb dM_store_33 (lv_at hl 0 rfl) ?_
    refine lv_ldc2 (v := (-1)) hx hb hown (hts _ uw_522) dM_store_35 ?_
    refine lv_lxor hx hb dM_store_38 ?_
    refine lv_land hx hb dM_store_39 ?_
    refine lv_lload_n hx hb dM_store_40 rfl (lv_at hl 4 rfl) ?_
    refine lv_lload hx hb dM_store_41 (lv_at hl 0 rfl) ?_
    refine lv_land hx hb dM_store_43 ?_
    refine lv_lor hx hb dM_store_44 ?_
    refine k_last hC hW sa_memory rfl rfl (by decide) k rfl (by omega) dM_store_45 (fun H locs hW => ?_)
    exact s_vret hC hr hlocks hW dM_store_46 (by rw [f_st, f_al, if_pos c_3, m_q, ea_memory, v_a_s])

/-! M.copy -/
def f_cp (S : gs_S) (y : Nat) (v : Int64) : gs_S := p_i (p_al S 22 (m_q S y 16) (m_used S y) v) 3 17 y (nI (m_used S y + 1))
theorem mt_cp {S : gs_S} {y : Nat} {v : Int64} (hM : m_t S) (hu : m_used S y < 60000) : m_t (f_cp S y v) := mt_used (mt_pal hM) (by omega)

set_option maxHeartbeats 4000000 in
set_option maxRecDepth 100000 in
theorem c_M_copy (l : Launch) (G : gs_G) (S : gs_S) (sz : Nat) (y : Nat) (v : Int64) (hM : m_t S) (hY : g_sh S y = some (.inl 3)) (hu : m_used S y < 60000) : Met l yM_copy (kM_copy :: gU) { frames := 0, cells := 0, slots := 0, locals := 0 } (g_Pc G S sz [va_rf (some y), .long v]) (g_Qi G S sz (fun r S' => r = nI (m_used S y) ∧ S' = f_cp S y v)) 0 0 (g_A S sz) := by
  refine s_head (by decide) (Nat.le_of_ble_eq_true rfl) ?_
  intro p e s m below meth c ls hsz hC hr hlocks hnm hl hW
  subst hsz
  obtain ⟨hx, hb, hml, hown, hts⟩ := id hC
  have hl : lv_has ls 3 [(0, va_rf (some y)), (1, .long v)] := hl
  have h_programs := b_programs hM hY
  have h_cells := b_cells hM hY
  have h_active := b_active hM hY
  have h_prepared := b_prepared hM hY
  have h_arguments := b_arguments hM hY
  have h_used := b_used hM hY
  have h_preparedAhead := b_preparedAhead hM hY
  refine s_aload_n (x := some y) hx hb dM_copy_0 rfl (lv_at hl 0 rfl) ?_
  obtain ⟨a_memory, ea_memory, sa_memory⟩ := w_m_memory hM hY
  refine s_getr hC hW gc_M iw_M 16 (by decide) uw_406 rfl hY (v := some a_memory) ea_memory dM_copy_1 ?_
  refine s_aload_n (x := some y) hx hb dM_copy_4 rfl (lv_at hl 0 rfl) ?_
  refine s_geti hC hW gc_M iw_M 17 (by decide) uw_407 rfl hY (v := nI (m_used S y)) (e_used (S := S) hM hY) dM_copy_5 ?_
  refine lv_lload_n hx hb dM_copy_8 rfl (lv_at hl 1 rfl) ?_
  refine k_last hC hW sa_memory rfl rfl (by decide) (m_used S y) rfl (by omega) dM_copy_9 (fun H locs hW => ?_)
  refine s_aload_n (x := some y) hx hb dM_copy_10 rfl (lv_at hl 0 rfl) ?_
  refine lv_dup hx hb dM_copy_11 rfl ?_
  refine s_geti hC hW gc_M iw_M 17 (by decide) uw_407 rfl hY (v := nI (m_used S y)) (e_used (S := S) hM hY) dM_copy_12 ?_
  refine lv_iconst (v := 1) hx hb dM_copy_15 (by decide) ?_
  refine lv_iadd hx hb dM_copy_16 ?_
  refine s_topi (nI_1 _) ?_
  refine s_puti hC hW gc_M iw_M 17 (by decide) uw_407 (Or.inl rfl) rfl rfl rfl hY dM_copy_17 (fun H locs hW => ?_)
  refine s_aload_n (x := some y) hx hb dM_copy_20 rfl (lv_at hl 0 rfl) ?_
  refine s_geti hC hW gc_M iw_M 17 (by decide) uw_407 rfl hY (v := nI ((m_used S y) + 1)) (by simp [x_gs]) dM_copy_21 ?_
  refine lv_iconst (v := 1) hx hb dM_copy_24 (by decide) ?_
  refine lv_isub hx hb dM_copy_25 ?_
  refine s_topi (x_sub1 (by omega)) ?_
  exact s_iret hC hr hlocks rfl hW dM_copy_26 ⟨rfl, by rw [f_cp, m_q, ea_memory, v_a_s]⟩

/-! M.unprepare -/
def f_un (S : gs_S) (y : Nat) : gs_S := p_i (p_i (if m_prepared S y = 0 then S else p_i S 3 17 y (nI (m_preparedAhead S y))) 3 23 y 0) 3 24 y 0
theorem mt_un {S : gs_S} {y : Nat} (hM : m_t S) (hY : g_sh S y = some (.inl 3)) : m_t (f_un S y) := by
  unfold f_un
  refine mt_arguments (n := 0) (mt_prepared (n := 0) ?_ (by omega)) (by omega)
  split
  · exact hM
  · exact mt_used hM (b_preparedAhead hM hY)
theorem f_un_sh (S : gs_S) (y b : Nat) : g_sh (f_un S y) b = g_sh S b := by unfold f_un; split <;> rfl

set_option maxHeartbeats 4000000 in
set_option maxRecDepth 100000 in
theorem c_M_unprepare (l : Launch) (G : gs_G) (S : gs_S) (sz : Nat) (y : Nat) (hM : m_t S) (hY : g_sh S y = some (.inl 3)) : Met l yM_unprepare (kM_unprepare :: gU) { frames := 0, cells := 0, slots := 0, locals := 0 } (g_Pc G S sz [va_rf (some y)]) (g_Qv G S sz (fun S' => S' = f_un S y)) 0 0 (g_A S sz) := by
  refine s_head (by decide) (Nat.le_of_ble_eq_true rfl) ?_
  intro p e s m below meth c ls hsz hC hr hlocks hnm hl hW
  subst hsz
  obtain ⟨hx, hb, hml, hown, hts⟩ := id hC
  have hl : lv_has ls 1 [(0, va_rf (some y))] := hl
  have h_programs := b_programs hM hY
  have h_cells := b_cells hM hY
  have h_active := b_active hM hY
  have h_prepared := b_prepared hM hY
  have h_arguments := b_arguments hM hY
  have h_used := b_used hM hY
  have h_preparedAhead := b_preparedAhead hM hY
  refine s_aload_n (x := some y) hx hb dM_unprepare_0 rfl (lv_at hl 0 rfl) ?_
  refine s_geti hC hW gc_M iw_M 23 (by decide) uw_413 rfl hY (v := nI (m_prepared S y)) (e_prepared (S := S) hM hY) dM_unprepare_1 ?_
  refine lv_if_eq (tgt := 15) hx hb dM_unprepare_4 (by decide) (fun c_4 => ?_) (fun c_4 => ?_)
  · skip
    refine s_aload_n (x := some y) hx hb dM_unprepare_15 rfl (lv_at hl 0 rfl) ?_
    refine lv_iconst (v := 0) hx hb dM_unprepare_16 (by decide) ?_
    refine s_puti hC hW gc_M iw_M 23 (by decide) uw_413 (Or.inl rfl) rfl rfl rfl hY dM_unprepare_17 (fun H locs hW => ?_)
    refine s_aload_n (x := some y) hx hb dM_unprepare_20 rfl (lv_at hl 0 rfl) ?_
    refine lv_iconst (v := 0) hx hb dM_unprepare_21 (by decide) ?_
    refine s_puti hC hW gc_M iw_M 24 (by decide) uw_414 (Or.inl rfl) rfl rfl rfl hY dM_unprepare_22 (fun H locs hW => ?_)
    exact s_vret hC hr hlocks hW dM_unprepare_25 (by rw [f_un, if_pos ((x_n0 (by omega)).mp c_4)])
  · skip
    refine s_aload_n (x := some y) hx hb dM_unprepare_7 rfl (lv_at hl 0 rfl) ?_
    refine s_aload_n (x := some y) hx hb dM_unprepare_8 rfl (lv_at hl 0 rfl) ?_
    refine s_geti hC hW gc_M iw_M 25 (by decide) uw_415 rfl hY (v := nI (m_preparedAhead S y)) (e_preparedAhead (S := S) hM hY) dM_unprepare_9 ?_
    refine s_puti hC hW gc_M iw_M 17 (by decide) uw_407 (Or.inl rfl) rfl rfl rfl hY dM_unprepare_12 (fun H locs hW => ?_)
    refine s_aload_n (x := some y) hx hb dM_unprepare_15 rfl (lv_at hl 0 rfl) ?_
    refine lv_iconst (v := 0) hx hb dM_unprepare_16 (by decide) ?_
    refine s_puti hC hW gc_M iw_M 23 (by decide) uw_413 (Or.inl rfl) rfl rfl rfl hY dM_unprepare_17 (fun H locs hW => ?_)
    refine s_aload_n (x := some y) hx hb dM_unprepare_20 rfl (lv_at hl 0 rfl) ?_
    refine lv_iconst (v := 0) hx hb dM_unprepare_21 (by decide) ?_
    refine s_puti hC hW gc_M iw_M 24 (by decide) uw_414 (Or.inl rfl) rfl rfl rfl hY dM_unprepare_22 (fun H locs hW => ?_)
    exact s_vret hC hr hlocks hW dM_unprepare_25 (by rw [f_un, if_neg (fun z => c_4 ((x_n0 (by omega)).mpr z))])

/-! M.find -/
def f_f2 (S : gs_S) (y p : Nat) (nm : Int32) : Nat → Nat → Nat
  | 0, _ => f_dyM S y 0 nm
  | k + 1, a => if a = 0 then f_dyM S y 0 nm else if f_dyM S y (nI a) nm = 0 then f_f2 S y p nm k (m_within S y a) else if f_is S y (f_dyM S y (nI a) nm) 2 = 0 then f_f2 S y p nm k (m_within S y a) else if f_lyM S y p (nI (f_dyM S y (nI a) nm)) = 0 then f_dyM S y (nI a) nm else f_f2 S y p nm k (m_within S y a)
def f_f1 (S : gs_S) (y p : Nat) (nm : Int32) : Nat → Nat → Nat
  | 0, _ => f_f2 S y p nm 61 (m_within S y p)
  | k + 1, a => if a = 0 then f_f2 S y p nm 61 (m_within S y p) else if f_is S y a 4 = 0 then f_f1 S y p nm k (m_within S y a) else if m_names S y a = nm then a else f_f1 S y p nm k (m_within S y a)
def f_fi (S : gs_S) (y p : Nat) (nm : Int32) : Nat := if p = 0 then f_dyM S y 0 nm else if f_dyM S y (nI p) nm = 0 then f_f1 S y p nm 61 p else f_dyM S y (nI p) nm
theorem b_f2 {S : gs_S} {y p : Nat} {nm : Int32} (hM : m_t S) (hY : g_sh S y = some (.inl 3)) : ∀ (k a : Nat), f_f2 S y p nm k a ≤ 60 := by
  intro k
  induction k with
  | zero => intro a; exact b_dyM hM hY
  | succ k ih => intro a; rw [f_f2]; split; exact b_dyM hM hY; split; exact ih _; split; exact ih _; split; exact b_dyM hM hY; exact ih _
theorem b_f1 {S : gs_S} {y p : Nat} {nm : Int32} (hM : m_t S) (hY : g_sh S y = some (.inl 3)) : ∀ (k a : Nat), a ≤ 60 → f_f1 S y p nm k a ≤ 60 := by
  intro k
  induction k with
  | zero => intro a _; exact b_f2 hM hY _ _
  | succ k ih =>
    intro a ha
    have hw := b_within (i := a) hM hY (by omega)
    rw [f_f1]
    split
    · exact b_f2 hM hY _ _
    · split
      · exact ih _ (by omega)
      · split
        · exact ha
        · exact ih _ (by omega)
theorem b_fi {S : gs_S} {y p : Nat} {nm : Int32} (hM : m_t S) (hY : g_sh S y = some (.inl 3)) (hp : p ≤ 60) : f_fi S y p nm ≤ 60 := by
  unfold f_fi
  split
  · exact b_dyM hM hY
  · split
    · exact b_f1 hM hY _ _ hp
    · exact b_dyM hM hY

set_option maxHeartbeats 4000000 in
set_option maxRecDepth 100000 in
theorem lp_f2 (l : Launch) (G : gs_G) (S : gs_S) (y p0 : Nat) (nm : Int32) (hM : m_t S) (hY : g_sh S y = some (.inl 3)) (hp0 : p0 ≤ 60) {p : Program} {e : Env} {s : State} {m : MethodId} {below : List Frame} {meth : Method} {c : Code} (hC : CallFix p m c cM_find 6 s #[va_rf (some y), Value.int (nI p0), Value.int nm] gU yM_find.cls) (hr : meth.sig.returnType = some .int) (hlocks : meth.locks = false) :
    ∀ (k : Nat) (a : Nat), a < k ∨ a = 0 → a ≤ 60 → f_fi S y p0 nm = f_f2 S y p0 nm k a → ∀ (ls : Array Slot), lv_has ls 6 [(4, .int (nI a)), (0, va_rf (some y)), (1, .int (nI p0)), (2, .int nm)] → ∀ (H : Heap) (locs : List Loc), g_W G (g_A S s.heap.size) s S H locs → W p l e { frames := 1, cells := 0, slots := 0, locals := 24 } s m #[va_rf (some y), Value.int (nI p0), Value.int nm] below meth c H locs 0 0 (MQ below (g_Qi G S s.heap.size (fun r S' => S' = S ∧ r = nI (f_fi S y p0 nm))) #[va_rf (some y), Value.int (nI p0), Value.int nm] s 0 0 (g_A S s.heap.size)) (F0 m 76 ls []) := by
  obtain ⟨hx, hb, hml, hown, hts⟩ := id hC
  intro k
  induction k with
  | zero =>
    intro a  ha ha60 hf ls hl H locs hW
    refine lv_iload hx hb dM_find_76 (lv_at hl 0 rfl) ?_
    refine lv_if_eq (tgt := 130) hx hb dM_find_78 (by decide) (fun c_78 => ?_) (fun c => absurd (by rw [show a = 0 by omega]; rfl) c)
    refine s_aload_n (x := some y) hx hb dM_find_130 rfl (lv_at hl 1 rfl) ?_
    refine lv_iconst (v := 0) hx hb dM_find_131 (by decide) ?_
    refine lv_iload_n hx hb dM_find_132 rfl (lv_at hl 3 rfl) ?_
    refine s_calli hW (s_runV (n := 2) (As := [.int 0, .int nm]) (rest := []) hC (c_M_directly l G S H.size y 0 nm hM hY) uc_M_directly uw_490 uw_492 us_M_directly uw_4 rfl rfl (by decide +kernel) ⟨by decide, by decide⟩ (g_preV hW gc_M hY [.int 0, .int nm]) rfl hl.1 rfl (Nat.le_of_ble_eq_true rfl) dM_find_133 ⟨Nat.le_of_ble_eq_true rfl, Nat.le_of_ble_eq_true rfl⟩) (fun q133 S133 H locs hp133 hW => ?_)
    obtain ⟨hs133, rfl⟩ := hp133
    replace hs133 := hs133.symm
    subst hs133
    have hdy133 := b_dyM (ins := 0) (nm := nm) hM hY
    exact s_iret hC hr hlocks rfl hW dM_find_136 ⟨rfl, by rw [hf]; rfl⟩
  | succ k ih =>
    intro a  ha ha60 hf ls hl H locs hW
    refine lv_iload hx hb dM_find_76 (lv_at hl 0 rfl) ?_
    refine lv_if_eq (tgt := 130) hx hb dM_find_78 (by decide) (fun c_78 => ?_) (fun c_78 => ?_)
    · skip
      refine s_aload_n (x := some y) hx hb dM_find_130 rfl (lv_at hl 1 rfl) ?_
      refine lv_iconst (v := 0) hx hb dM_find_131 (by decide) ?_
      refine lv_iload_n hx hb dM_find_132 rfl (lv_at hl 3 rfl) ?_
      refine s_calli hW (s_runV (n := 2) (As := [.int 0, .int nm]) (rest := []) hC (c_M_directly l G S H.size y 0 nm hM hY) uc_M_directly uw_490 uw_492 us_M_directly uw_4 rfl rfl (by decide +kernel) ⟨by decide, by decide⟩ (g_preV hW gc_M hY [.int 0, .int nm]) rfl hl.1 rfl (Nat.le_of_ble_eq_true rfl) dM_find_133 ⟨Nat.le_of_ble_eq_true rfl, Nat.le_of_ble_eq_true rfl⟩) (fun q133 S133 H locs hp133 hW => ?_)
      obtain ⟨hs133, rfl⟩ := hp133
      replace hs133 := hs133.symm
      subst hs133
      have hdy133 := b_dyM (ins := 0) (nm := nm) hM hY
      exact s_iret hC hr hlocks rfl hW dM_find_136 ⟨rfl, by rw [hf, f_f2, if_pos ((x_n0 (by omega)).mp c_78)]⟩
    · skip
      refine s_aload_n (x := some y) hx hb dM_find_81 rfl (lv_at hl 1 rfl) ?_
      refine lv_iload hx hb dM_find_82 (lv_at hl 0 rfl) ?_
      refine lv_iload_n hx hb dM_find_84 rfl (lv_at hl 3 rfl) ?_
      refine s_calli hW (s_runV (n := 2) (As := [.int (nI a), .int nm]) (rest := []) hC (c_M_directly l G S H.size y (nI a) nm hM hY) uc_M_directly uw_490 uw_492 us_M_directly uw_4 rfl rfl (by decide +kernel) ⟨by decide, by decide⟩ (g_preV hW gc_M hY [.int (nI a), .int nm]) rfl hl.1 rfl (Nat.le_of_ble_eq_true rfl) dM_find_85 ⟨Nat.le_of_ble_eq_true rfl, Nat.le_of_ble_eq_true rfl⟩) (fun q85 S85 H locs hp85 hW => ?_)
      obtain ⟨hs85, rfl⟩ := hp85
      replace hs85 := hs85.symm
      subst hs85
      have hdy85 := b_dyM (ins := nI a) (nm := nm) hM hY
      refine lv_istore (lv' := [(5, .int (nI (f_dyM S y (nI a) nm))), (4, .int (nI a)), (0, va_rf (some y)), (1, .int (nI p0)), (2, .int nm)]) hx hb dM_find_88 hl (by decide) rfl (fun ls hl => ?_)
      refine lv_iload hx hb dM_find_90 (lv_at hl 0 rfl) ?_
      refine lv_if_eq (tgt := 118) hx hb dM_find_92 (by decide) (fun c_92 => ?_) (fun c_92 => ?_)
      · skip
        refine s_aload_n (x := some y) hx hb dM_find_118 rfl (lv_at hl 2 rfl) ?_
        obtain ⟨a_within, ea_within, sa_within⟩ := w_m_within hM hY
        refine s_getr hC hW gc_M iw_M 2 (by decide) uw_392 rfl hY (v := some a_within) ea_within dM_find_119 ?_
        refine lv_iload hx hb dM_find_122 (lv_at hl 1 rfl) ?_
        refine k_iald hC hW sa_within rfl rfl (by decide) a rfl (by omega) (v := nI (m_within S y a)) (e_within (S := S) hM hY ea_within (by omega)) dM_find_124 ?_
        have h124 := b_within hM hY (i := a) (by omega)
        refine lv_istore (lv' := [(4, .int (nI (m_within S y a))), (5, .int (nI (f_dyM S y (nI a) nm))), (0, va_rf (some y)), (1, .int (nI p0)), (2, .int nm)]) hx hb dM_find_125 hl (by decide) rfl (fun ls hl => ?_)
        refine lv_goto (tgt := 76) hx hb dM_find_127 (by decide) ?_
        exact ih (m_within S y a) (by omega) (by omega) (by rw [hf, f_f2, if_neg (fun z => c_78 ((x_n0 (by omega)).mpr z)), if_pos ((x_n0 (by omega)).mp c_92)]) ls (lv_sub hl [0, 2, 3, 4] rfl) H locs hW
      · skip
        refine s_aload_n (x := some y) hx hb dM_find_95 rfl (lv_at hl 2 rfl) ?_
        refine lv_iload hx hb dM_find_96 (lv_at hl 0 rfl) ?_
        refine lv_iconst (v := 2) hx hb dM_find_98 (by decide) ?_
        refine s_calli hW (s_runV (n := 2) (As := [.int (nI (f_dyM S y (nI a) nm)), .int 2]) (rest := []) hC (c_M_is l G S H.size y (f_dyM S y (nI a) nm) 2 hM hY (by omega)) uc_M_is uw_523 uw_525 us_M_is uw_4 rfl rfl (by decide +kernel) ⟨by decide, by decide⟩ (g_preV hW gc_M hY [.int (nI (f_dyM S y (nI a) nm)), .int 2]) rfl hl.1 rfl (Nat.le_of_ble_eq_true rfl) dM_find_99 ⟨Nat.le_of_ble_eq_true rfl, Nat.le_of_ble_eq_true rfl⟩) (fun q99 S99 H locs hp99 hW => ?_)
        obtain ⟨hs99, rfl⟩ := hp99
        replace hs99 := hs99.symm
        subst hs99
        refine lv_if_eq (tgt := 118) hx hb dM_find_102 (by decide) (fun c_102 => ?_) (fun c_102 => ?_)
        · skip
          refine s_aload_n (x := some y) hx hb dM_find_118 rfl (lv_at hl 2 rfl) ?_
          obtain ⟨a_within, ea_within, sa_within⟩ := w_m_within hM hY
          refine s_getr hC hW gc_M iw_M 2 (by decide) uw_392 rfl hY (v := some a_within) ea_within dM_find_119 ?_
          refine lv_iload hx hb dM_find_122 (lv_at hl 1 rfl) ?_
          refine k_iald hC hW sa_within rfl rfl (by decide) a rfl (by omega) (v := nI (m_within S y a)) (e_within (S := S) hM hY ea_within (by omega)) dM_find_124 ?_
          have h124 := b_within hM hY (i := a) (by omega)
          refine lv_istore (lv' := [(4, .int (nI (m_within S y a))), (5, .int (nI (f_dyM S y (nI a) nm))), (0, va_rf (some y)), (1, .int (nI p0)), (2, .int nm)]) hx hb dM_find_125 hl (by decide) rfl (fun ls hl => ?_)
          refine lv_goto (tgt := 76) hx hb dM_find_127 (by decide) ?_
          exact ih (m_within S y a) (by omega) (by omega) (by rw [hf, f_f2, if_neg (fun z => c_78 ((x_n0 (by omega)).mpr z)), if_neg (fun z => c_92 ((x_n0 (by omega)).mpr z)), if_pos c_102]) ls (lv_sub hl [0, 2, 3, 4] rfl) H locs hW
        · skip
          refine s_aload_n (x := some y) hx hb dM_find_105 rfl (lv_at hl 2 rfl) ?_
          refine lv_iload_n hx hb dM_find_106 rfl (lv_at hl 3 rfl) ?_
          refine lv_iload hx hb dM_find_107 (lv_at hl 0 rfl) ?_
          refine s_calli hW (s_runV (n := 2) (As := [.int (nI p0), .int (nI (f_dyM S y (nI a) nm))]) (rest := []) hC (c_M_liesIn l G S H.size y p0 (nI (f_dyM S y (nI a) nm)) hM hY (by omega)) uc_M_liesIn uw_527 uw_529 us_M_liesIn uw_4 rfl rfl (by decide +kernel) ⟨by decide, by decide⟩ (g_preV hW gc_M hY [.int (nI p0), .int (nI (f_dyM S y (nI a) nm))]) rfl hl.1 rfl (Nat.le_of_ble_eq_true rfl) dM_find_109 ⟨Nat.le_of_ble_eq_true rfl, Nat.le_of_ble_eq_true rfl⟩) (fun q109 S109 H locs hp109 hW => ?_)
          obtain ⟨hs109, rfl⟩ := hp109
          replace hs109 := hs109.symm
          subst hs109
          refine lv_if_ne (tgt := 118) hx hb dM_find_112 (by decide) (fun c_112 => ?_) (fun c_112 => ?_)
          · skip
            refine s_aload_n (x := some y) hx hb dM_find_118 rfl (lv_at hl 2 rfl) ?_
            obtain ⟨a_within, ea_within, sa_within⟩ := w_m_within hM hY
            refine s_getr hC hW gc_M iw_M 2 (by decide) uw_392 rfl hY (v := some a_within) ea_within dM_find_119 ?_
            refine lv_iload hx hb dM_find_122 (lv_at hl 1 rfl) ?_
            refine k_iald hC hW sa_within rfl rfl (by decide) a rfl (by omega) (v := nI (m_within S y a)) (e_within (S := S) hM hY ea_within (by omega)) dM_find_124 ?_
            have h124 := b_within hM hY (i := a) (by omega)
            refine lv_istore (lv' := [(4, .int (nI (m_within S y a))), (5, .int (nI (f_dyM S y (nI a) nm))), (0, va_rf (some y)), (1, .int (nI p0)), (2, .int nm)]) hx hb dM_find_125 hl (by decide) rfl (fun ls hl => ?_)
            refine lv_goto (tgt := 76) hx hb dM_find_127 (by decide) ?_
            exact ih (m_within S y a) (by omega) (by omega) (by rw [hf, f_f2, if_neg (fun z => c_78 ((x_n0 (by omega)).mpr z)), if_neg (fun z => c_92 ((x_n0 (by omega)).mpr z)), if_neg c_102, if_neg c_112]) ls (lv_sub hl [0, 2, 3, 4] rfl) H locs hW
          · skip
            refine lv_iload hx hb dM_find_115 (lv_at hl 0 rfl) ?_
            exact s_iret hC hr hlocks rfl hW dM_find_117 ⟨rfl, by rw [hf, f_f2, if_neg (fun z => c_78 ((x_n0 (by omega)).mpr z)), if_neg (fun z => c_92 ((x_n0 (by omega)).mpr z)), if_neg c_102, if_pos c_112]⟩

set_option maxHeartbeats 4000000 in
set_option maxRecDepth 100000 in
theorem lp_f1 (l : Launch) (G : gs_G) (S : gs_S) (y p0 : Nat) (nm : Int32) (hM : m_t S) (hY : g_sh S y = some (.inl 3)) (hp0 : p0 ≤ 60) {p : Program} {e : Env} {s : State} {m : MethodId} {below : List Frame} {meth : Method} {c : Code} (hC : CallFix p m c cM_find 6 s #[va_rf (some y), Value.int (nI p0), Value.int nm] gU yM_find.cls) (hr : meth.sig.returnType = some .int) (hlocks : meth.locks = false) :
    ∀ (k : Nat) (a d0 : Nat), a < k ∨ a = 0 → a ≤ 60 → f_fi S y p0 nm = f_f1 S y p0 nm k a → ∀ (ls : Array Slot), lv_has ls 6 [(4, .int (nI a)), (3, .int (nI d0)), (0, va_rf (some y)), (1, .int (nI p0)), (2, .int nm)] → ∀ (H : Heap) (locs : List Loc), g_W G (g_A S s.heap.size) s S H locs → W p l e { frames := 1, cells := 0, slots := 0, locals := 24 } s m #[va_rf (some y), Value.int (nI p0), Value.int nm] below meth c H locs 0 0 (MQ below (g_Qi G S s.heap.size (fun r S' => S' = S ∧ r = nI (f_fi S y p0 nm))) #[va_rf (some y), Value.int (nI p0), Value.int nm] s 0 0 (g_A S s.heap.size)) (F0 m 27 ls []) := by
  obtain ⟨hx, hb, hml, hown, hts⟩ := id hC
  intro k
  induction k with
  | zero =>
    intro a d0  ha ha60 hf ls hl H locs hW
    refine lv_iload hx hb dM_find_27 (lv_at hl 0 rfl) ?_
    refine lv_if_eq (tgt := 68) hx hb dM_find_29 (by decide) (fun c_29 => ?_) (fun c => absurd (by rw [show a = 0 by omega]; rfl) c)
    refine s_aload_n (x := some y) hx hb dM_find_68 rfl (lv_at hl 2 rfl) ?_
    obtain ⟨a_within, ea_within, sa_within⟩ := w_m_within hM hY
    refine s_getr hC hW gc_M iw_M 2 (by decide) uw_392 rfl hY (v := some a_within) ea_within dM_find_69 ?_
    refine lv_iload_n hx hb dM_find_72 rfl (lv_at hl 3 rfl) ?_
    refine k_iald hC hW sa_within rfl rfl (by decide) p0 rfl (by omega) (v := nI (m_within S y p0)) (e_within (S := S) hM hY ea_within (by omega)) dM_find_73 ?_
    have h73 := b_within hM hY (i := p0) (by omega)
    refine lv_istore (lv' := [(4, .int (nI (m_within S y p0))), (3, .int (nI d0)), (0, va_rf (some y)), (1, .int (nI p0)), (2, .int nm)]) hx hb dM_find_74 hl (by decide) rfl (fun ls hl => ?_)
    exact lp_f2 l G S y p0 nm hM hY hp0 hC hr hlocks 61 (m_within S y p0) (by omega) (by omega) (by rw [hf]; rfl) ls (lv_sub hl [0, 2, 3, 4] rfl) _ _ hW
  | succ k ih =>
    intro a d0  ha ha60 hf ls hl H locs hW
    refine lv_iload hx hb dM_find_27 (lv_at hl 0 rfl) ?_
    refine lv_if_eq (tgt := 68) hx hb dM_find_29 (by decide) (fun c_29 => ?_) (fun c_29 => ?_)
    · skip
      refine s_aload_n (x := some y) hx hb dM_find_68 rfl (lv_at hl 2 rfl) ?_
      obtain ⟨a_within, ea_within, sa_within⟩ := w_m_within hM hY
      refine s_getr hC hW gc_M iw_M 2 (by decide) uw_392 rfl hY (v := some a_within) ea_within dM_find_69 ?_
      refine lv_iload_n hx hb dM_find_72 rfl (lv_at hl 3 rfl) ?_
      refine k_iald hC hW sa_within rfl rfl (by decide) p0 rfl (by omega) (v := nI (m_within S y p0)) (e_within (S := S) hM hY ea_within (by omega)) dM_find_73 ?_
      have h73 := b_within hM hY (i := p0) (by omega)
      refine lv_istore (lv' := [(4, .int (nI (m_within S y p0))), (3, .int (nI d0)), (0, va_rf (some y)), (1, .int (nI p0)), (2, .int nm)]) hx hb dM_find_74 hl (by decide) rfl (fun ls hl => ?_)
      exact lp_f2 l G S y p0 nm hM hY hp0 hC hr hlocks 61 (m_within S y p0) (by omega) (by omega) (by rw [hf, f_f1, if_pos ((x_n0 (by omega)).mp c_29)]) ls (lv_sub hl [0, 2, 3, 4] rfl) _ _ hW
    · skip
      refine s_aload_n (x := some y) hx hb dM_find_32 rfl (lv_at hl 2 rfl) ?_
      refine lv_iload hx hb dM_find_33 (lv_at hl 0 rfl) ?_
      refine lv_iconst (v := 4) hx hb dM_find_35 (by decide) ?_
      refine s_calli hW (s_runV (n := 2) (As := [.int (nI a), .int 4]) (rest := []) hC (c_M_is l G S H.size y a 4 hM hY (by omega)) uc_M_is uw_523 uw_525 us_M_is uw_4 rfl rfl (by decide +kernel) ⟨by decide, by decide⟩ (g_preV hW gc_M hY [.int (nI a), .int 4]) rfl hl.1 rfl (Nat.le_of_ble_eq_true rfl) dM_find_36 ⟨Nat.le_of_ble_eq_true rfl, Nat.le_of_ble_eq_true rfl⟩) (fun q36 S36 H locs hp36 hW => ?_)
      obtain ⟨hs36, rfl⟩ := hp36
      replace hs36 := hs36.symm
      subst hs36
      refine lv_if_eq (tgt := 56) hx hb dM_find_39 (by decide) (fun c_39 => ?_) (fun c_39 => ?_)
      · skip
        refine s_aload_n (x := some y) hx hb dM_find_56 rfl (lv_at hl 2 rfl) ?_
        obtain ⟨a_within, ea_within, sa_within⟩ := w_m_within hM hY
        refine s_getr hC hW gc_M iw_M 2 (by decide) uw_392 rfl hY (v := some a_within) ea_within dM_find_57 ?_
        refine lv_iload hx hb dM_find_60 (lv_at hl 0 rfl) ?_
        refine k_iald hC hW sa_within rfl rfl (by decide) a rfl (by omega) (v := nI (m_within S y a)) (e_within (S := S) hM hY ea_within (by omega)) dM_find_62 ?_
        have h62 := b_within hM hY (i := a) (by omega)
        refine lv_istore (lv' := [(4, .int (nI (m_within S y a))), (3, .int (nI d0)), (0, va_rf (some y)), (1, .int (nI p0)), (2, .int nm)]) hx hb dM_find_63 hl (by decide) rfl (fun ls hl => ?_)
        refine lv_goto (tgt := 27) hx hb dM_find_65 (by decide) ?_
        exact ih (m_within S y a) d0 (by omega) (by omega) (by rw [hf, f_f1, if_neg (fun z => c_29 ((x_n0 (by omega)).mpr z)), if_pos c_39]) ls hl H locs hW
      · skip
        refine s_aload_n (x := some y) hx hb dM_find_42 rfl (lv_at hl 2 rfl) ?_
        obtain ⟨a_names, ea_names, sa_names⟩ := w_m_names hM hY
        refine s_getr hC hW gc_M iw_M 3 (by decide) uw_393 rfl hY (v := some a_names) ea_names dM_find_43 ?_
        refine lv_iload hx hb dM_find_46 (lv_at hl 0 rfl) ?_
        refine k_iald hC hW sa_names rfl rfl (by decide) a rfl (by omega) (v := m_names S y a) (e_names (S := S) ea_names) dM_find_48 ?_
        refine lv_iload_n hx hb dM_find_49 rfl (lv_at hl 4 rfl) ?_
        refine lv_icmp_ne (tgt := 56) hx hb dM_find_50 (by decide) (fun c_50 => ?_) (fun c_50 => ?_)
        · skip
          refine s_aload_n (x := some y) hx hb dM_find_56 rfl (lv_at hl 2 rfl) ?_
          obtain ⟨a_within, ea_within, sa_within⟩ := w_m_within hM hY
          refine s_getr hC hW gc_M iw_M 2 (by decide) uw_392 rfl hY (v := some a_within) ea_within dM_find_57 ?_
          refine lv_iload hx hb dM_find_60 (lv_at hl 0 rfl) ?_
          refine k_iald hC hW sa_within rfl rfl (by decide) a rfl (by omega) (v := nI (m_within S y a)) (e_within (S := S) hM hY ea_within (by omega)) dM_find_62 ?_
          have h62 := b_within hM hY (i := a) (by omega)
          refine lv_istore (lv' := [(4, .int (nI (m_within S y a))), (3, .int (nI d0)), (0, va_rf (some y)), (1, .int (nI p0)), (2, .int nm)]) hx hb dM_find_63 hl (by decide) rfl (fun ls hl => ?_)
          refine lv_goto (tgt := 27) hx hb dM_find_65 (by decide) ?_
          exact ih (m_within S y a) d0 (by omega) (by omega) (by rw [hf, f_f1, if_neg (fun z => c_29 ((x_n0 (by omega)).mpr z)), if_neg c_39, if_neg c_50]) ls hl H locs hW
        · skip
          refine lv_iload hx hb dM_find_53 (lv_at hl 0 rfl) ?_
          exact s_iret hC hr hlocks rfl hW dM_find_55 ⟨rfl, by rw [hf, f_f1, if_neg (fun z => c_29 ((x_n0 (by omega)).mpr z)), if_neg c_39, if_pos c_50]⟩

set_option maxHeartbeats 4000000 in
set_option maxRecDepth 100000 in
theorem c_M_find (l : Launch) (G : gs_G) (S : gs_S) (sz : Nat) (y p0 : Nat) (nm : Int32) (hM : m_t S) (hY : g_sh S y = some (.inl 3)) (hp0 : p0 ≤ 60) : Met l yM_find (kM_find :: gU) { frames := 1, cells := 0, slots := 0, locals := 24 } (g_Pc G S sz [va_rf (some y), .int (nI p0), .int nm]) (g_Qi G S sz (fun r S' => S' = S ∧ r = nI (f_fi S y p0 nm))) 0 0 (g_A S sz) := by
  refine s_head (by decide) (Nat.le_of_ble_eq_true rfl) ?_
  intro p e s m below meth c ls hsz hC hr hlocks hnm hl hW
  subst hsz
  obtain ⟨hx, hb, hml, hown, hts⟩ := id hC
  have hl : lv_has ls 6 [(0, va_rf (some y)), (1, .int (nI p0)), (2, .int nm)] := hl
  refine lv_iload_n hx hb dM_find_0 rfl (lv_at hl 1 rfl) ?_
  refine lv_if_ne (tgt := 11) hx hb dM_find_1 (by decide) (fun c_1 => ?_) (fun c_1 => ?_)
  · skip
    refine s_aload_n (x := some y) hx hb dM_find_11 rfl (lv_at hl 0 rfl) ?_
    refine lv_iload_n hx hb dM_find_12 rfl (lv_at hl 1 rfl) ?_
    refine lv_iload_n hx hb dM_find_13 rfl (lv_at hl 2 rfl) ?_
    refine s_calli hW (s_runV (n := 2) (As := [.int (nI p0), .int nm]) (rest := []) hC (c_M_directly l G S s.heap.size y (nI p0) nm hM hY) uc_M_directly uw_490 uw_492 us_M_directly uw_4 rfl rfl (by decide +kernel) ⟨by decide, by decide⟩ (g_preV hW gc_M hY [.int (nI p0), .int nm]) rfl hl.1 rfl (Nat.le_of_ble_eq_true rfl) dM_find_14 ⟨Nat.le_of_ble_eq_true rfl, Nat.le_of_ble_eq_true rfl⟩) (fun q14 S14 H locs hp14 hW => ?_)
    obtain ⟨hs14, rfl⟩ := hp14
    replace hs14 := hs14.symm
    subst hs14
    have hdy14 := b_dyM (ins := nI p0) (nm := nm) hM hY
    refine lv_istore_n (lv' := [(3, .int (nI (f_dyM S y (nI p0) nm))), (0, va_rf (some y)), (1, .int (nI p0)), (2, .int nm)]) hx hb dM_find_17 rfl hl (by decide) rfl (fun ls hl => ?_)
    refine lv_iload_n hx hb dM_find_18 rfl (lv_at hl 0 rfl) ?_
    refine lv_if_eq (tgt := 24) hx hb dM_find_19 (by decide) (fun c_19 => ?_) (fun c_19 => ?_)
    · skip
      refine lv_iload_n hx hb dM_find_24 rfl (lv_at hl 2 rfl) ?_
      refine lv_istore (lv' := [(4, .int (nI p0)), (3, .int (nI (f_dyM S y (nI p0) nm))), (0, va_rf (some y)), (1, .int (nI p0)), (2, .int nm)]) hx hb dM_find_25 hl (by decide) rfl (fun ls hl => ?_)
      exact lp_f1 l G S y p0 nm hM hY hp0 hC hr hlocks 61 p0 _ (by omega) (by omega) (by rw [f_fi, if_neg (fun z => c_1 ((x_n0 (by omega)).mpr z)), if_pos ((x_n0 (by omega)).mp c_19)]) ls (lv_sub hl [0, 1, 2, 3, 4] rfl) _ _ hW
    · skip
      refine lv_iload_n hx hb dM_find_22 rfl (lv_at hl 0 rfl) ?_
      exact s_iret hC hr hlocks rfl hW dM_find_23 ⟨rfl, by rw [f_fi, if_neg (fun z => c_1 ((x_n0 (by omega)).mpr z)), if_neg (fun z => c_19 ((x_n0 (by omega)).mpr z))]⟩
  · skip
    refine s_aload_n (x := some y) hx hb dM_find_4 rfl (lv_at hl 0 rfl) ?_
    refine lv_iconst (v := 0) hx hb dM_find_5 (by decide) ?_
    refine lv_iload_n hx hb dM_find_6 rfl (lv_at hl 2 rfl) ?_
    refine s_calli hW (s_runV (n := 2) (As := [.int 0, .int nm]) (rest := []) hC (c_M_directly l G S s.heap.size y 0 nm hM hY) uc_M_directly uw_490 uw_492 us_M_directly uw_4 rfl rfl (by decide +kernel) ⟨by decide, by decide⟩ (g_preV hW gc_M hY [.int 0, .int nm]) rfl hl.1 rfl (Nat.le_of_ble_eq_true rfl) dM_find_7 ⟨Nat.le_of_ble_eq_true rfl, Nat.le_of_ble_eq_true rfl⟩) (fun q7 S7 H locs hp7 hW => ?_)
    obtain ⟨hs7, rfl⟩ := hp7
    replace hs7 := hs7.symm
    subst hs7
    have hdy7 := b_dyM (ins := 0) (nm := nm) hM hY
    exact s_iret hC hr hlocks rfl hW dM_find_10 ⟨rfl, by rw [f_fi, if_pos ((x_n0 (by omega)).mp c_1)]⟩
