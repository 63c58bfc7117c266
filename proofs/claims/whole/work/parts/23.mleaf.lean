/-! what the reference holds, by names -/
theorem x_sub1 {n : Nat} (h : 0 < n) : nI n - 1 = nI (n - 1) := by
  obtain ⟨k, rfl⟩ : ∃ k, n = k + 1 := ⟨n - 1, by omega⟩
  exact nI_pred k
theorem x_mul16 (n : Nat) : 16 * nI n = nI (16 * n) := pk_mul 16 n

def m_programs (S : gs_S) (y : Nat) : Nat := (g_i S 3 8 y).toNatClampNeg
theorem e_programs {S : gs_S} {y : Nat} (hM : m_t S) (hY : g_sh S y = some (.inl 3)) : g_i S 3 8 y = nI (m_programs S y) := by
  obtain ⟨n, hn, en⟩ := w_m_programs hM hY
  rw [m_programs, en, nI_clamp (by omega)]
theorem b_programs {S : gs_S} {y : Nat} (hM : m_t S) (hY : g_sh S y = some (.inl 3)) : m_programs S y ≤ 60 := by
  obtain ⟨n, hn, en⟩ := w_m_programs hM hY
  rw [m_programs, en, nI_clamp (by omega)]
  exact hn
def m_cells (S : gs_S) (y : Nat) : Nat := (g_i S 3 13 y).toNatClampNeg
theorem e_cells {S : gs_S} {y : Nat} (hM : m_t S) (hY : g_sh S y = some (.inl 3)) : g_i S 3 13 y = nI (m_cells S y) := by
  obtain ⟨n, hn, en⟩ := w_m_cells hM hY
  rw [m_cells, en, nI_clamp (by omega)]
theorem b_cells {S : gs_S} {y : Nat} (hM : m_t S) (hY : g_sh S y = some (.inl 3)) : m_cells S y ≤ 200 := by
  obtain ⟨n, hn, en⟩ := w_m_cells hM hY
  rw [m_cells, en, nI_clamp (by omega)]
  exact hn
def m_active (S : gs_S) (y : Nat) : Nat := (g_i S 3 22 y).toNatClampNeg
theorem e_active {S : gs_S} {y : Nat} (hM : m_t S) (hY : g_sh S y = some (.inl 3)) : g_i S 3 22 y = nI (m_active S y) := by
  obtain ⟨n, hn, en⟩ := w_m_active hM hY
  rw [m_active, en, nI_clamp (by omega)]
theorem b_active {S : gs_S} {y : Nat} (hM : m_t S) (hY : g_sh S y = some (.inl 3)) : m_active S y ≤ 256 := by
  obtain ⟨n, hn, en⟩ := w_m_active hM hY
  rw [m_active, en, nI_clamp (by omega)]
  exact hn
def m_prepared (S : gs_S) (y : Nat) : Nat := (g_i S 3 23 y).toNatClampNeg
theorem e_prepared {S : gs_S} {y : Nat} (hM : m_t S) (hY : g_sh S y = some (.inl 3)) : g_i S 3 23 y = nI (m_prepared S y) := by
  obtain ⟨n, hn, en⟩ := w_m_prepared hM hY
  rw [m_prepared, en, nI_clamp (by omega)]
theorem b_prepared {S : gs_S} {y : Nat} (hM : m_t S) (hY : g_sh S y = some (.inl 3)) : m_prepared S y ≤ 60 := by
  obtain ⟨n, hn, en⟩ := w_m_prepared hM hY
  rw [m_prepared, en, nI_clamp (by omega)]
  exact hn
def m_arguments (S : gs_S) (y : Nat) : Nat := (g_i S 3 24 y).toNatClampNeg
theorem e_arguments {S : gs_S} {y : Nat} (hM : m_t S) (hY : g_sh S y = some (.inl 3)) : g_i S 3 24 y = nI (m_arguments S y) := by
  obtain ⟨n, hn, en⟩ := w_m_arguments hM hY
  rw [m_arguments, en, nI_clamp (by omega)]
theorem b_arguments {S : gs_S} {y : Nat} (hM : m_t S) (hY : g_sh S y = some (.inl 3)) : m_arguments S y ≤ 16 := by
  obtain ⟨n, hn, en⟩ := w_m_arguments hM hY
  rw [m_arguments, en, nI_clamp (by omega)]
  exact hn
def m_used (S : gs_S) (y : Nat) : Nat := (g_i S 3 17 y).toNatClampNeg
theorem e_used {S : gs_S} {y : Nat} (hM : m_t S) (hY : g_sh S y = some (.inl 3)) : g_i S 3 17 y = nI (m_used S y) := by
  obtain ⟨n, hn, en⟩ := w_m_used hM hY
  rw [m_used, en, nI_clamp (by omega)]
theorem b_used {S : gs_S} {y : Nat} (hM : m_t S) (hY : g_sh S y = some (.inl 3)) : m_used S y ≤ 60000 := by
  obtain ⟨n, hn, en⟩ := w_m_used hM hY
  rw [m_used, en, nI_clamp (by omega)]
  exact hn
def m_preparedAhead (S : gs_S) (y : Nat) : Nat := (g_i S 3 25 y).toNatClampNeg
theorem e_preparedAhead {S : gs_S} {y : Nat} (hM : m_t S) (hY : g_sh S y = some (.inl 3)) : g_i S 3 25 y = nI (m_preparedAhead S y) := by
  obtain ⟨n, hn, en⟩ := w_m_preparedAhead hM hY
  rw [m_preparedAhead, en, nI_clamp (by omega)]
theorem b_preparedAhead {S : gs_S} {y : Nat} (hM : m_t S) (hY : g_sh S y = some (.inl 3)) : m_preparedAhead S y ≤ 60000 := by
  obtain ⟨n, hn, en⟩ := w_m_preparedAhead hM hY
  rw [m_preparedAhead, en, nI_clamp (by omega)]
  exact hn
def m_within (S : gs_S) (y i : Nat) : Nat := (g_ai S 10 (m_q S y 2) i).toNatClampNeg
theorem e_within {S : gs_S} {y a i : Nat} (hM : m_t S) (hY : g_sh S y = some (.inl 3)) (ea : g_r S 3 2 y = some a) (hi : i < 61) : g_ai S 10 a i = nI (m_within S y i) := by
  obtain ⟨b, eb, sb⟩ := w_m_within hM hY
  obtain rfl : b = a := Option.some.inj (eb.symm.trans ea)
  obtain ⟨w, ew, hw⟩ := m_g10 hM sb hi
  rw [m_within, m_q, ea, v_a_s, ew, nI_clamp (by omega)]
theorem b_within {S : gs_S} {y i : Nat} (hM : m_t S) (hY : g_sh S y = some (.inl 3)) (hi : i < 61) : m_within S y i ≤ 60 ∧ (m_within S y i < i ∨ m_within S y i = 0) := by
  obtain ⟨b, eb, sb⟩ := w_m_within hM hY
  obtain ⟨w, ew, hw⟩ := m_g10 hM sb hi
  have : m_within S y i = w := by rw [m_within, m_q, eb, v_a_s, ew, nI_clamp (by omega)]
  rw [this]
  exact hw
def m_names (S : gs_S) (y i : Nat) : Int32 := g_ai S 11 (m_q S y 3) i
theorem e_names {S : gs_S} {y a i : Nat} (ea : g_r S 3 3 y = some a) : g_ai S 11 a i = m_names S y i := by rw [m_names, m_q, ea, v_a_s]
def m_marks (S : gs_S) (y i : Nat) : Int32 := g_ai S 12 (m_q S y 4) i
theorem e_marks {S : gs_S} {y a i : Nat} (ea : g_r S 3 4 y = some a) : g_ai S 12 a i = m_marks S y i := by rw [m_marks, m_q, ea, v_a_s]
def m_manyFormals (S : gs_S) (y i : Nat) : Nat := (g_ai S 13 (m_q S y 5) i).toNatClampNeg
theorem e_manyFormals {S : gs_S} {y a i : Nat} (hM : m_t S) (hY : g_sh S y = some (.inl 3)) (ea : g_r S 3 5 y = some a) (hi : i < 61) : g_ai S 13 a i = nI (m_manyFormals S y i) := by
  obtain ⟨b, eb, sb⟩ := w_m_manyFormals hM hY
  obtain rfl : b = a := Option.some.inj (eb.symm.trans ea)
  obtain ⟨w, ew, hw⟩ := m_g13 hM sb hi
  rw [m_manyFormals, m_q, ea, v_a_s, ew, nI_clamp (by omega)]
theorem b_manyFormals {S : gs_S} {y i : Nat} (hM : m_t S) (hY : g_sh S y = some (.inl 3)) (hi : i < 61) : m_manyFormals S y i ≤ 16 := by
  obtain ⟨b, eb, sb⟩ := w_m_manyFormals hM hY
  obtain ⟨w, ew, hw⟩ := m_g13 hM sb hi
  have : m_manyFormals S y i = w := by rw [m_manyFormals, m_q, eb, v_a_s, ew, nI_clamp (by omega)]
  rw [this]
  exact hw
def m_activeTimes (S : gs_S) (y i : Nat) : Int32 := g_ai S 14 (m_q S y 6) i
theorem e_activeTimes {S : gs_S} {y a i : Nat} (ea : g_r S 3 6 y = some a) : g_ai S 14 a i = m_activeTimes S y i := by rw [m_activeTimes, m_q, ea, v_a_s]
def m_data (S : gs_S) (y i : Nat) : Int32 := g_ai S 15 (m_q S y 7) i
theorem e_data {S : gs_S} {y a i : Nat} (ea : g_r S 3 7 y = some a) : g_ai S 15 a i = m_data S y i := by rw [m_data, m_q, ea, v_a_s]
def m_owner (S : gs_S) (y i : Nat) : Nat := (g_ai S 16 (m_q S y 9) i).toNatClampNeg
theorem e_owner {S : gs_S} {y a i : Nat} (hM : m_t S) (hY : g_sh S y = some (.inl 3)) (ea : g_r S 3 9 y = some a) (hi : i < 200) : g_ai S 16 a i = nI (m_owner S y i) := by
  obtain ⟨b, eb, sb⟩ := w_m_owner hM hY
  obtain rfl : b = a := Option.some.inj (eb.symm.trans ea)
  obtain ⟨w, ew, hw⟩ := m_g16 hM sb hi
  rw [m_owner, m_q, ea, v_a_s, ew, nI_clamp (by omega)]
theorem b_owner {S : gs_S} {y i : Nat} (hM : m_t S) (hY : g_sh S y = some (.inl 3)) (hi : i < 200) : m_owner S y i ≤ 60 := by
  obtain ⟨b, eb, sb⟩ := w_m_owner hM hY
  obtain ⟨w, ew, hw⟩ := m_g16 hM sb hi
  have : m_owner S y i = w := by rw [m_owner, m_q, eb, v_a_s, ew, nI_clamp (by omega)]
  rw [this]
  exact hw
def m_rank (S : gs_S) (y i : Nat) : Nat := (g_ai S 17 (m_q S y 10) i).toNatClampNeg
theorem e_rank {S : gs_S} {y a i : Nat} (hM : m_t S) (hY : g_sh S y = some (.inl 3)) (ea : g_r S 3 10 y = some a) (hi : i < 200) : g_ai S 17 a i = nI (m_rank S y i) := by
  obtain ⟨b, eb, sb⟩ := w_m_rank hM hY
  obtain rfl : b = a := Option.some.inj (eb.symm.trans ea)
  obtain ⟨w, ew, hw⟩ := m_g17 hM sb hi
  rw [m_rank, m_q, ea, v_a_s, ew, nI_clamp (by omega)]
theorem b_rank {S : gs_S} {y i : Nat} (hM : m_t S) (hY : g_sh S y = some (.inl 3)) (hi : i < 200) : m_rank S y i < 200 := by
  obtain ⟨b, eb, sb⟩ := w_m_rank hM hY
  obtain ⟨w, ew, hw⟩ := m_g17 hM sb hi
  have : m_rank S y i = w := by rw [m_rank, m_q, eb, v_a_s, ew, nI_clamp (by omega)]
  rw [this]
  exact hw
def m_external (S : gs_S) (y i : Nat) : Int32 := g_ai S 18 (m_q S y 11) i
theorem e_external {S : gs_S} {y a i : Nat} (ea : g_r S 3 11 y = some a) : g_ai S 18 a i = m_external S y i := by rw [m_external, m_q, ea, v_a_s]
def m_first (S : gs_S) (y i : Nat) : Int64 := g_al S 19 (m_q S y 12) i
theorem e_first {S : gs_S} {y a i : Nat} (ea : g_r S 3 12 y = some a) : g_al S 19 a i = m_first S y i := by rw [m_first, m_q, ea, v_a_s]
def m_how (S : gs_S) (y i : Nat) : Int32 := g_ai S 20 (m_q S y 14) i
theorem e_how {S : gs_S} {y a i : Nat} (ea : g_r S 3 14 y = some a) : g_ai S 20 a i = m_how S y i := by rw [m_how, m_q, ea, v_a_s]
def m_bytes (S : gs_S) (y i : Nat) : Int32 := g_ai S 21 (m_q S y 15) i
theorem e_bytes {S : gs_S} {y a i : Nat} (ea : g_r S 3 15 y = some a) : g_ai S 21 a i = m_bytes S y i := by rw [m_bytes, m_q, ea, v_a_s]
def m_memory (S : gs_S) (y i : Nat) : Int64 := g_al S 22 (m_q S y 16) i
theorem e_memory {S : gs_S} {y a i : Nat} (ea : g_r S 3 16 y = some a) : g_al S 22 a i = m_memory S y i := by rw [m_memory, m_q, ea, v_a_s]
def m_callOf (S : gs_S) (y i : Nat) : Nat := (g_ai S 23 (m_q S y 18) i).toNatClampNeg
theorem e_callOf {S : gs_S} {y a i : Nat} (hM : m_t S) (hY : g_sh S y = some (.inl 3)) (ea : g_r S 3 18 y = some a) (hi : i < 600) : g_ai S 23 a i = nI (m_callOf S y i) := by
  obtain ⟨b, eb, sb⟩ := w_m_callOf hM hY
  obtain rfl : b = a := Option.some.inj (eb.symm.trans ea)
  obtain ⟨w, ew, hw⟩ := m_g23 hM sb hi
  rw [m_callOf, m_q, ea, v_a_s, ew, nI_clamp (by omega)]
theorem b_callOf {S : gs_S} {y i : Nat} (hM : m_t S) (hY : g_sh S y = some (.inl 3)) (hi : i < 600) : m_callOf S y i ≤ 60 := by
  obtain ⟨b, eb, sb⟩ := w_m_callOf hM hY
  obtain ⟨w, ew, hw⟩ := m_g23 hM sb hi
  have : m_callOf S y i = w := by rw [m_callOf, m_q, eb, v_a_s, ew, nI_clamp (by omega)]
  rw [this]
  exact hw
def m_baseOf (S : gs_S) (y i : Nat) : Nat := (g_ai S 24 (m_q S y 19) i).toNatClampNeg
theorem e_baseOf {S : gs_S} {y a i : Nat} (hM : m_t S) (hY : g_sh S y = some (.inl 3)) (ea : g_r S 3 19 y = some a) (hi : i < 600) : g_ai S 24 a i = nI (m_baseOf S y i) := by
  obtain ⟨b, eb, sb⟩ := w_m_baseOf hM hY
  obtain rfl : b = a := Option.some.inj (eb.symm.trans ea)
  obtain ⟨w, ew, hw⟩ := m_g24 hM sb hi
  rw [m_baseOf, m_q, ea, v_a_s, ew, nI_clamp (by omega)]
theorem b_baseOf {S : gs_S} {y i : Nat} (hM : m_t S) (hY : g_sh S y = some (.inl 3)) (hi : i < 600) : m_baseOf S y i ≤ 59800 := by
  obtain ⟨b, eb, sb⟩ := w_m_baseOf hM hY
  obtain ⟨w, ew, hw⟩ := m_g24 hM sb hi
  have : m_baseOf S y i = w := by rw [m_baseOf, m_q, eb, v_a_s, ew, nI_clamp (by omega)]
  rw [this]
  exact hw
def m_usedAhead (S : gs_S) (y i : Nat) : Nat := (g_ai S 25 (m_q S y 20) i).toNatClampNeg
theorem e_usedAhead {S : gs_S} {y a i : Nat} (hM : m_t S) (hY : g_sh S y = some (.inl 3)) (ea : g_r S 3 20 y = some a) (hi : i < 600) : g_ai S 25 a i = nI (m_usedAhead S y i) := by
  obtain ⟨b, eb, sb⟩ := w_m_usedAhead hM hY
  obtain rfl : b = a := Option.some.inj (eb.symm.trans ea)
  obtain ⟨w, ew, hw⟩ := m_g25 hM sb hi
  rw [m_usedAhead, m_q, ea, v_a_s, ew, nI_clamp (by omega)]
theorem b_usedAhead {S : gs_S} {y i : Nat} (hM : m_t S) (hY : g_sh S y = some (.inl 3)) (hi : i < 600) : m_usedAhead S y i ≤ 60000 := by
  obtain ⟨b, eb, sb⟩ := w_m_usedAhead hM hY
  obtain ⟨w, ew, hw⟩ := m_g25 hM sb hi
  have : m_usedAhead S y i = w := by rw [m_usedAhead, m_q, eb, v_a_s, ew, nI_clamp (by omega)]
  rw [this]
  exact hw
def m_placeOf (S : gs_S) (y i : Nat) : Int32 := g_ai S 26 (m_q S y 21) i
theorem e_placeOf {S : gs_S} {y a i : Nat} (ea : g_r S 3 21 y = some a) : g_ai S 26 a i = m_placeOf S y i := by rw [m_placeOf, m_q, ea, v_a_s]
def m_argument (S : gs_S) (y i : Nat) : Int32 := g_ai S 27 (m_q S y 26) i
theorem e_argument {S : gs_S} {y a i : Nat} (ea : g_r S 3 26 y = some a) : g_ai S 27 a i = m_argument S y i := by rw [m_argument, m_q, ea, v_a_s]
def m_argumentBytes (S : gs_S) (y i : Nat) : Int32 := g_ai S 28 (m_q S y 27) i
theorem e_argumentBytes {S : gs_S} {y a i : Nat} (ea : g_r S 3 27 y = some a) : g_ai S 28 a i = m_argumentBytes S y i := by rw [m_argumentBytes, m_q, ea, v_a_s]
set_option maxHeartbeats 4000000 in
set_option maxRecDepth 100000 in
theorem c_M_thrown (l : Launch) (G : gs_G) (S : gs_S) (sz : Nat) (y : Nat) (hM : m_t S) (hY : g_sh S y = some (.inl 3)) : Met l yM_thrown (kM_thrown :: gU) { frames := 0, cells := 0, slots := 0, locals := 0 } (g_Pc G S sz [va_rf (some y)]) (g_Qi G S sz (fun r S' => S' = S ∧ r = g_i S 3 0 y)) 0 0 (g_A S sz) := by
  refine s_head (by decide) (Nat.le_of_ble_eq_true rfl) ?_
  intro p e s m below meth c ls hsz hC hr hlocks hnm hl hW
  subst hsz
  obtain ⟨hx, hb, hml, hown, hts⟩ := id hC
  have hl : lv_has ls 1 [(0, va_rf (some y))] := hl
  refine s_aload_n (x := some y) hx hb dM_thrown_0 rfl (lv_at hl 0 rfl) ?_
  refine s_geti hC hW gc_M iw_M 0 (by decide) uw_390 rfl hY rfl dM_thrown_1 ?_
  exact s_iret hC hr hlocks rfl hW dM_thrown_4 ⟨rfl, rfl⟩

def f_isP (S : gs_S) (y : Nat) (p : Int32) : Int32 := if p ≤ 0 then 0 else if nI (m_programs S y) < p then 0 else 1

set_option maxHeartbeats 4000000 in
set_option maxRecDepth 100000 in
theorem c_M_isProgram (l : Launch) (G : gs_G) (S : gs_S) (sz : Nat) (y : Nat) (p0 : Int32) (hM : m_t S) (hY : g_sh S y = some (.inl 3)) : Met l yM_isProgram (kM_isProgram :: gU) { frames := 0, cells := 0, slots := 0, locals := 0 } (g_Pc G S sz [va_rf (some y), .int p0]) (g_Qi G S sz (fun r S' => S' = S ∧ r = f_isP S y p0)) 0 0 (g_A S sz) := by
  refine s_head (by decide) (Nat.le_of_ble_eq_true rfl) ?_
  intro p e s m below meth c ls hsz hC hr hlocks hnm hl hW
  subst hsz
  obtain ⟨hx, hb, hml, hown, hts⟩ := id hC
  have hl : lv_has ls 2 [(0, va_rf (some y)), (1, .int p0)] := hl
  refine lv_iload_n hx hb dM_isProgram_0 rfl (lv_at hl 1 rfl) ?_
  refine lv_if_le (tgt := 16) hx hb dM_isProgram_1 (by decide) (fun c_1 => ?_) (fun c_1 => ?_)
  · skip
    refine lv_iconst (v := 0) hx hb dM_isProgram_16 (by decide) ?_
    exact s_iret hC hr hlocks rfl hW dM_isProgram_17 ⟨rfl, by simp [f_isP, c_1]⟩
  · skip
    refine lv_iload_n hx hb dM_isProgram_4 rfl (lv_at hl 1 rfl) ?_
    refine s_aload_n (x := some y) hx hb dM_isProgram_5 rfl (lv_at hl 0 rfl) ?_
    refine s_geti hC hW gc_M iw_M 8 (by decide) uw_398 rfl hY (v := nI (m_programs S y)) (e_programs (S := S) hM hY) dM_isProgram_6 ?_
    refine lv_icmp_gt (tgt := 16) hx hb dM_isProgram_9 (by decide) (fun c_9 => ?_) (fun c_9 => ?_)
    · skip
      refine lv_iconst (v := 0) hx hb dM_isProgram_16 (by decide) ?_
      exact s_iret hC hr hlocks rfl hW dM_isProgram_17 ⟨rfl, by simp [f_isP, c_1, c_9]⟩
    · skip
      refine lv_iconst (v := 1) hx hb dM_isProgram_12 (by decide) ?_
      refine lv_goto (tgt := 17) hx hb dM_isProgram_13 (by decide) ?_
      exact s_iret hC hr hlocks rfl hW dM_isProgram_17 ⟨rfl, by simp [f_isP, c_1, c_9]⟩

def f_is (S : gs_S) (y p : Nat) (k : Int32) : Int32 := if m_marks S y p &&& k = 0 then 0 else 1

set_option maxHeartbeats 4000000 in
set_option maxRecDepth 100000 in
theorem c_M_is (l : Launch) (G : gs_G) (S : gs_S) (sz : Nat) (y p0 : Nat) (k : Int32) (hM : m_t S) (hY : g_sh S y = some (.inl 3)) (hp0 : p0 ≤ 60) : Met l yM_is (kM_is :: gU) { frames := 0, cells := 0, slots := 0, locals := 0 } (g_Pc G S sz [va_rf (some y), .int (nI p0), .int k]) (g_Qi G S sz (fun r S' => S' = S ∧ r = f_is S y p0 k)) 0 0 (g_A S sz) := by
  refine s_head (by decide) (Nat.le_of_ble_eq_true rfl) ?_
  intro p e s m below meth c ls hsz hC hr hlocks hnm hl hW
  subst hsz
  obtain ⟨hx, hb, hml, hown, hts⟩ := id hC
  have hl : lv_has ls 3 [(0, va_rf (some y)), (1, .int (nI p0)), (2, .int k)] := hl
  refine s_aload_n (x := some y) hx hb dM_is_0 rfl (lv_at hl 0 rfl) ?_
  obtain ⟨a_marks, ea_marks, sa_marks⟩ := w_m_marks hM hY
  refine s_getr hC hW gc_M iw_M 4 (by decide) uw_394 rfl hY (v := some a_marks) ea_marks dM_is_1 ?_
  refine lv_iload_n hx hb dM_is_4 rfl (lv_at hl 1 rfl) ?_
  refine k_iald hC hW sa_marks rfl rfl (by decide) p0 rfl (by omega) (v := m_marks S y p0) (e_marks (S := S) ea_marks) dM_is_5 ?_
  refine lv_iload_n hx hb dM_is_6 rfl (lv_at hl 2 rfl) ?_
  refine lv_iand hx hb dM_is_7 ?_
  refine lv_if_eq (tgt := 15) hx hb dM_is_8 (by decide) (fun c_8 => ?_) (fun c_8 => ?_)
  · skip
    refine lv_iconst (v := 0) hx hb dM_is_15 (by decide) ?_
    exact s_iret hC hr hlocks rfl hW dM_is_16 ⟨rfl, by simp [f_is, c_8]⟩
  · skip
    refine lv_iconst (v := 1) hx hb dM_is_11 (by decide) ?_
    refine lv_goto (tgt := 16) hx hb dM_is_12 (by decide) ?_
    exact s_iret hC hr hlocks rfl hW dM_is_16 ⟨rfl, by simp [f_is, c_8]⟩

def f_runM (S : gs_S) (y : Nat) : Nat := if m_active S y = 0 then 0 else m_callOf S y (m_active S y - 1)
theorem b_runM {S : gs_S} {y : Nat} (hM : m_t S) (hY : g_sh S y = some (.inl 3)) : f_runM S y ≤ 60 := by
  have := b_active hM hY
  unfold f_runM
  split
  · omega
  · exact b_callOf hM hY (by omega)
theorem x_n0 {n : Nat} (h : n < 2 ^ 31) : nI n = 0 ↔ n = 0 := nI_eq (b := 0) h (by decide)

set_option maxHeartbeats 4000000 in
set_option maxRecDepth 100000 in
theorem c_M_running (l : Launch) (G : gs_G) (S : gs_S) (sz : Nat) (y : Nat) (hM : m_t S) (hY : g_sh S y = some (.inl 3)) : Met l yM_running (kM_running :: gU) { frames := 0, cells := 0, slots := 0, locals := 0 } (g_Pc G S sz [va_rf (some y)]) (g_Qi G S sz (fun r S' => S' = S ∧ r = nI (f_runM S y))) 0 0 (g_A S sz) := by
  refine s_head (by decide) (Nat.le_of_ble_eq_true rfl) ?_
  intro p e s m below meth c ls hsz hC hr hlocks hnm hl hW
  subst hsz
  obtain ⟨hx, hb, hml, hown, hts⟩ := id hC
  have hl : lv_has ls 1 [(0, va_rf (some y))] := hl
  have h_programs := b_programs hM hY
  have h_cells := b_cells hM hY
  have h_active := b_active hM hY
  have h_prepared := b_prepared hM hY
  have h_arguments := b_arguments hM hY
  have h_used := b_used hM hY
  have h_preparedAhead := b_preparedAhead hM hY
  refine s_aload_n (x := some y) hx hb dM_running_0 rfl (lv_at hl 0 rfl) ?_
  refine s_geti hC hW gc_M iw_M 22 (by decide) uw_412 rfl hY (v := nI (m_active S y)) (e_active (S := S) hM hY) dM_running_1 ?_
  refine lv_if_ne (tgt := 11) hx hb dM_running_4 (by decide) (fun c_4 => ?_) (fun c_4 => ?_)
  · skip
    have hna : m_active S y ≠ 0 := fun z => c_4 (by rw [z]; rfl)
    refine s_aload_n (x := some y) hx hb dM_running_11 rfl (lv_at hl 0 rfl) ?_
    obtain ⟨a_callOf, ea_callOf, sa_callOf⟩ := w_m_callOf hM hY
    refine s_getr hC hW gc_M iw_M 18 (by decide) uw_408 rfl hY (v := some a_callOf) ea_callOf dM_running_12 ?_
    refine s_aload_n (x := some y) hx hb dM_running_15 rfl (lv_at hl 0 rfl) ?_
    refine s_geti hC hW gc_M iw_M 22 (by decide) uw_412 rfl hY (v := nI (m_active S y)) (e_active (S := S) hM hY) dM_running_16 ?_
    refine lv_iconst (v := 1) hx hb dM_running_19 (by decide) ?_
    refine lv_isub hx hb dM_running_20 ?_
    refine s_topi (x_sub1 (by omega)) ?_
    refine k_iald hC hW sa_callOf rfl rfl (by decide) ((m_active S y) - 1) rfl (by omega) (v := nI (m_callOf S y ((m_active S y) - 1))) (e_callOf (S := S) hM hY ea_callOf (by omega)) dM_running_21 ?_
    have h21 := b_callOf hM hY (i := (m_active S y) - 1) (by omega)
    exact s_iret hC hr hlocks rfl hW dM_running_22 ⟨rfl, by rw [f_runM, if_neg hna]⟩
  · skip
    refine lv_iconst (v := 0) hx hb dM_running_7 (by decide) ?_
    refine lv_goto (tgt := 22) hx hb dM_running_8 (by decide) ?_
    exact s_iret hC hr hlocks rfl hW dM_running_22 ⟨rfl, by rw [f_runM, if_pos ((x_n0 (by omega)).mp c_4)]; rfl⟩

set_option maxHeartbeats 4000000 in
set_option maxRecDepth 100000 in
theorem c_M_isName (l : Launch) (G : gs_G) (S : gs_S) (sz : Nat) (n : Int32) : Met l yM_isName (kM_isName :: gU) { frames := 0, cells := 0, slots := 0, locals := 0 } (g_Pc G S sz [.int n]) (g_Qi G S sz (fun r S' => S' = S ∧ r = f_isName n)) 0 0 (g_A S sz) := by
  refine s_head (by decide) (Nat.le_of_ble_eq_true rfl) ?_
  intro p e s m below meth c ls hsz hC hr hlocks hnm hl hW
  subst hsz
  obtain ⟨hx, hb, hml, hown, hts⟩ := id hC
  have hl : lv_has ls 1 [(0, .int n)] := hl
  refine lv_iload_n hx hb dM_isName_0 rfl (lv_at hl 0 rfl) ?_
  refine lv_if_lt (tgt := 14) hx hb dM_isName_1 (by decide) (fun c_1 => ?_) (fun c_1 => ?_)
  · skip
    refine lv_iconst (v := 0) hx hb dM_isName_14 (by decide) ?_
    exact s_iret hC hr hlocks rfl hW dM_isName_15 ⟨rfl, by simp [f_isName, c_1]⟩
  · skip
    refine lv_iload_n hx hb dM_isName_4 rfl (lv_at hl 0 rfl) ?_
    refine lv_bipush (v := 100) hx hb dM_isName_5 (by decide) ?_
    refine lv_icmp_ge (tgt := 14) hx hb dM_isName_7 (by decide) (fun c_7 => ?_) (fun c_7 => ?_)
    · skip
      refine lv_iconst (v := 0) hx hb dM_isName_14 (by decide) ?_
      exact s_iret hC hr hlocks rfl hW dM_isName_15 ⟨rfl, by simp [f_isName, c_1, c_7]⟩
    · skip
      refine lv_iconst (v := 1) hx hb dM_isName_10 (by decide) ?_
      refine lv_goto (tgt := 15) hx hb dM_isName_11 (by decide) ?_
      exact s_iret hC hr hlocks rfl hW dM_isName_15 ⟨rfl, by simp [f_isName, c_1, c_7]⟩

def f_isF (S : gs_S) (y : Nat) (fr nm : Int32) : Int32 := if fr = nI (f_runM S y) then (if f_isName nm = 0 then 0 else 1) else 0

set_option maxHeartbeats 4000000 in
set_option maxRecDepth 100000 in
theorem c_M_isFrom (l : Launch) (G : gs_G) (S : gs_S) (sz : Nat) (y : Nat) (fr nm : Int32) (hM : m_t S) (hY : g_sh S y = some (.inl 3)) : Met l yM_isFrom (kM_isFrom :: gU) { frames := 1, cells := 0, slots := 0, locals := 20 } (g_Pc G S sz [va_rf (some y), .int fr, .int nm]) (g_Qi G S sz (fun r S' => S' = S ∧ r = f_isF S y fr nm)) 0 0 (g_A S sz) := by
  refine s_head (by decide) (Nat.le_of_ble_eq_true rfl) ?_
  intro p e s m below meth c ls hsz hC hr hlocks hnm hl hW
  subst hsz
  obtain ⟨hx, hb, hml, hown, hts⟩ := id hC
  have hl : lv_has ls 3 [(0, va_rf (some y)), (1, .int fr), (2, .int nm)] := hl
  refine lv_iload_n hx hb dM_isFrom_0 rfl (lv_at hl 1 rfl) ?_
  refine s_aload_n (x := some y) hx hb dM_isFrom_1 rfl (lv_at hl 0 rfl) ?_
  refine s_calli hW (s_runV (n := 0) (As := []) (rest := [.int fr]) hC (c_M_running l G S s.heap.size y hM hY) uc_M_running uw_518 uw_520 us_M_running uw_4 rfl rfl (by decide +kernel) ⟨by decide, by decide⟩ (g_preV hW gc_M hY []) rfl hl.1 rfl (Nat.le_of_ble_eq_true rfl) dM_isFrom_2 ⟨Nat.le_of_ble_eq_true rfl, Nat.le_of_ble_eq_true rfl⟩) (fun q2 S2 H locs hp2 hW => ?_)
  obtain ⟨hs2, rfl⟩ := hp2
  replace hs2 := hs2.symm
  subst hs2
  have hrun2 := b_runM hM hY
  refine lv_icmp_ne (tgt := 19) hx hb dM_isFrom_5 (by decide) (fun c_5 => ?_) (fun c_5 => ?_)
  · skip
    refine lv_iconst (v := 0) hx hb dM_isFrom_19 (by decide) ?_
    exact s_iret hC hr hlocks rfl hW dM_isFrom_20 ⟨rfl, by simp [f_isF, c_5]⟩
  · skip
    refine lv_iload_n hx hb dM_isFrom_8 rfl (lv_at hl 2 rfl) ?_
    refine s_calli hW (s_runS (n := 1) (As := [.int nm]) (rest := []) hC (c_M_isName l G S H.size nm) uc_M_isName uw_487 uw_488 uw_4 rfl rfl (by decide +kernel) ⟨by decide, by decide⟩ (g_preS hW [.int nm]) rfl hl.1 rfl (Nat.le_of_ble_eq_true rfl) dM_isFrom_9 ⟨Nat.le_of_ble_eq_true rfl, Nat.le_of_ble_eq_true rfl⟩) (fun q9 S9 H locs hp9 hW => ?_)
    obtain ⟨hs9, rfl⟩ := hp9
    replace hs9 := hs9.symm
    subst hs9
    refine lv_if_eq (tgt := 19) hx hb dM_isFrom_12 (by decide) (fun c_12 => ?_) (fun c_12 => ?_)
    · skip
      refine lv_iconst (v := 0) hx hb dM_isFrom_19 (by decide) ?_
      exact s_iret hC hr hlocks rfl hW dM_isFrom_20 ⟨rfl, by simp [f_isF, c_5, c_12]⟩
    · skip
      refine lv_iconst (v := 1) hx hb dM_isFrom_15 (by decide) ?_
      refine lv_goto (tgt := 20) hx hb dM_isFrom_16 (by decide) ?_
      exact s_iret hC hr hlocks rfl hW dM_isFrom_20 ⟨rfl, by simp [f_isF, c_5, c_12]⟩

def f_dy (S : gs_S) (y : Nat) (ins nm : Int32) : Nat → Nat → Nat → Nat
  | 0, _, acc => acc
  | k + 1, i, acc => f_dy S y ins nm k (i + 1) (if nI (m_within S y i) = ins then (if m_names S y i = nm then i else acc) else acc)
def f_dyM (S : gs_S) (y : Nat) (ins nm : Int32) : Nat := f_dy S y ins nm (m_programs S y) 1 0
theorem b_dy {S : gs_S} {y : Nat} {ins nm : Int32} : ∀ (k i acc n : Nat), i + k ≤ n + 1 → acc ≤ n → f_dy S y ins nm k i acc ≤ n := by
  intro k
  induction k with
  | zero => intro i acc n _ h; exact h
  | succ k ih =>
    intro i acc n h1 h2
    rw [f_dy]
    refine ih _ _ _ (by omega) ?_
    split
    · split <;> omega
    · exact h2
theorem b_dyM {S : gs_S} {y : Nat} {ins nm : Int32} (hM : m_t S) (hY : g_sh S y = some (.inl 3)) : f_dyM S y ins nm ≤ 60 := Nat.le_trans (b_dy _ _ _ (m_programs S y) (by omega) (by omega)) (b_programs hM hY)

set_option maxHeartbeats 4000000 in
set_option maxRecDepth 100000 in
theorem lp_dy (l : Launch) (G : gs_G) (S : gs_S) (y : Nat) (ins nm : Int32) (hM : m_t S) (hY : g_sh S y = some (.inl 3)) (hn : m_programs S y ≤ 60) {p : Program} {e : Env} {s : State} {m : MethodId} {below : List Frame} {meth : Method} {c : Code} (hC : CallFix p m c cM_directly 5 s #[va_rf (some y), Value.int ins, Value.int nm] gU yM_directly.cls) (hr : meth.sig.returnType = some .int) (hlocks : meth.locks = false) (hW : g_W G (g_A S s.heap.size) s S s.heap []) :
    ∀ (k : Nat) (i acc : Nat), i + k = m_programs S y + 1 → 1 ≤ i → acc ≤ 60 → f_dy S y ins nm (m_programs S y) 1 0 = f_dy S y ins nm k i acc → ∀ (ls : Array Slot), lv_has ls 5 [(4, .int (nI i)), (3, .int (nI acc)), (0, va_rf (some y)), (1, .int ins), (2, .int nm)] → W p l e { frames := 0, cells := 0, slots := 0, locals := 0 } s m #[va_rf (some y), Value.int ins, Value.int nm] below meth c s.heap [] 0 0 (MQ below (g_Qi G S s.heap.size (fun r S' => S' = S ∧ r = nI (f_dyM S y ins nm))) #[va_rf (some y), Value.int ins, Value.int nm] s 0 0 (g_A S s.heap.size)) (F0 m 5 ls []) := by
  obtain ⟨hx, hb, hml, hown, hts⟩ := id hC
  intro k
  induction k with
  | zero =>
    intro i acc  hi hi1 hac hf ls hl
    refine lv_iload hx hb dM_directly_5 (lv_at hl 0 rfl) ?_
    refine s_aload_n (x := some y) hx hb dM_directly_7 rfl (lv_at hl 2 rfl) ?_
    refine s_geti hC hW gc_M iw_M 8 (by decide) uw_398 rfl hY (v := nI (m_programs S y)) (e_programs (S := S) hM hY) dM_directly_8 ?_
    refine lv_icmp_gt (tgt := 49) hx hb dM_directly_11 (by decide) (fun c_11 => ?_) (fun c => absurd ((nI_ltI (by omega) (by omega)).mpr (by omega)) c)
    refine lv_iload_n hx hb dM_directly_49 rfl (lv_at hl 1 rfl) ?_
    exact s_iret hC hr hlocks rfl hW dM_directly_50 ⟨rfl, by rw [f_dyM, hf]; rfl⟩
  | succ k ih =>
    intro i acc  hi hi1 hac hf ls hl
    refine lv_iload hx hb dM_directly_5 (lv_at hl 0 rfl) ?_
    refine s_aload_n (x := some y) hx hb dM_directly_7 rfl (lv_at hl 2 rfl) ?_
    refine s_geti hC hW gc_M iw_M 8 (by decide) uw_398 rfl hY (v := nI (m_programs S y)) (e_programs (S := S) hM hY) dM_directly_8 ?_
    refine lv_icmp_gt (tgt := 49) hx hb dM_directly_11 (by decide) (fun c => absurd ((nI_ltI (by omega) (by omega)).mp c) (by omega)) (fun c_11 => ?_)
    refine s_aload_n (x := some y) hx hb dM_directly_14 rfl (lv_at hl 2 rfl) ?_
    obtain ⟨a_within, ea_within, sa_within⟩ := w_m_within hM hY
    refine s_getr hC hW gc_M iw_M 2 (by decide) uw_392 rfl hY (v := some a_within) ea_within dM_directly_15 ?_
    refine lv_iload hx hb dM_directly_18 (lv_at hl 0 rfl) ?_
    refine k_iald hC hW sa_within rfl rfl (by decide) i rfl (by omega) (v := nI (m_within S y i)) (e_within (S := S) hM hY ea_within (by omega)) dM_directly_20 ?_
    have h20 := b_within hM hY (i := i) (by omega)
    refine lv_iload_n hx hb dM_directly_21 rfl (lv_at hl 3 rfl) ?_
    refine lv_icmp_ne (tgt := 41) hx hb dM_directly_22 (by decide) (fun c_22 => ?_) (fun c_22 => ?_)
    · skip
      refine lv_iload_n hx hb dM_directly_41 rfl (lv_at hl 1 rfl) ?_
      refine lv_istore_n (lv' := [(3, .int (nI acc)), (4, .int (nI i)), (0, va_rf (some y)), (1, .int ins), (2, .int nm)]) hx hb dM_directly_42 rfl hl (by decide) rfl (fun ls hl => ?_)
      refine lv_iinc (v := nI (i + 1)) (lv' := [(4, .int (nI (i + 1))), (3, .int (nI acc)), (0, va_rf (some y)), (1, .int ins), (2, .int nm)]) hx hb dM_directly_43 hl (k := 1) rfl (nI_1 _) (by decide) rfl (fun ls hl => ?_)
      refine lv_goto (tgt := 5) hx hb dM_directly_46 (by decide) ?_
      exact ih (i + 1) acc (by omega) (by omega) (by omega) (by rw [hf, f_dy, if_neg c_22]) ls (lv_sub hl [0, 1, 2, 3, 4] rfl)
    · skip
      refine s_aload_n (x := some y) hx hb dM_directly_25 rfl (lv_at hl 2 rfl) ?_
      obtain ⟨a_names, ea_names, sa_names⟩ := w_m_names hM hY
      refine s_getr hC hW gc_M iw_M 3 (by decide) uw_393 rfl hY (v := some a_names) ea_names dM_directly_26 ?_
      refine lv_iload hx hb dM_directly_29 (lv_at hl 0 rfl) ?_
      refine k_iald hC hW sa_names rfl rfl (by decide) i rfl (by omega) (v := m_names S y i) (e_names (S := S) ea_names) dM_directly_31 ?_
      refine lv_iload_n hx hb dM_directly_32 rfl (lv_at hl 4 rfl) ?_
      refine lv_icmp_ne (tgt := 41) hx hb dM_directly_33 (by decide) (fun c_33 => ?_) (fun c_33 => ?_)
      · skip
        refine lv_iload_n hx hb dM_directly_41 rfl (lv_at hl 1 rfl) ?_
        refine lv_istore_n (lv' := [(3, .int (nI acc)), (4, .int (nI i)), (0, va_rf (some y)), (1, .int ins), (2, .int nm)]) hx hb dM_directly_42 rfl hl (by decide) rfl (fun ls hl => ?_)
        refine lv_iinc (v := nI (i + 1)) (lv' := [(4, .int (nI (i + 1))), (3, .int (nI acc)), (0, va_rf (some y)), (1, .int ins), (2, .int nm)]) hx hb dM_directly_43 hl (k := 1) rfl (nI_1 _) (by decide) rfl (fun ls hl => ?_)
        refine lv_goto (tgt := 5) hx hb dM_directly_46 (by decide) ?_
        exact ih (i + 1) acc (by omega) (by omega) (by omega) (by rw [hf, f_dy, if_pos c_22, if_neg c_33]) ls (lv_sub hl [0, 1, 2, 3, 4] rfl)
      · skip
        refine lv_iload hx hb dM_directly_36 (lv_at hl 0 rfl) ?_
        refine lv_goto (tgt := 42) hx hb dM_directly_38 (by decide) ?_
        refine lv_istore_n (lv' := [(3, .int (nI i)), (4, .int (nI i)), (0, va_rf (some y)), (1, .int ins), (2, .int nm)]) hx hb dM_directly_42 rfl hl (by decide) rfl (fun ls hl => ?_)
        refine lv_iinc (v := nI (i + 1)) (lv' := [(4, .int (nI (i + 1))), (3, .int (nI i)), (0, va_rf (some y)), (1, .int ins), (2, .int nm)]) hx hb dM_directly_43 hl (k := 1) rfl (nI_1 _) (by decide) rfl (fun ls hl => ?_)
        refine lv_goto (tgt := 5) hx hb dM_directly_46 (by decide) ?_
        exact ih (i + 1) i (by omega) (by omega) (by omega) (by rw [hf, f_dy, if_pos c_22, if_pos c_33]) ls (lv_sub hl [0, 1, 2, 3, 4] rfl)

set_option maxHeartbeats 4000000 in
set_option maxRecDepth 100000 in
theorem c_M_directly (l : Launch) (G : gs_G) (S : gs_S) (sz : Nat) (y : Nat) (ins nm : Int32) (hM : m_t S) (hY : g_sh S y = some (.inl 3)) : Met l yM_directly (kM_directly :: gU) { frames := 0, cells := 0, slots := 0, locals := 0 } (g_Pc G S sz [va_rf (some y), .int ins, .int nm]) (g_Qi G S sz (fun r S' => S' = S ∧ r = nI (f_dyM S y ins nm))) 0 0 (g_A S sz) := by
  refine s_head (by decide) (Nat.le_of_ble_eq_true rfl) ?_
  intro p e s m below meth c ls hsz hC hr hlocks hnm hl hW
  subst hsz
  obtain ⟨hx, hb, hml, hown, hts⟩ := id hC
  have hl : lv_has ls 5 [(0, va_rf (some y)), (1, .int ins), (2, .int nm)] := hl
  refine lv_iconst (v := 0) hx hb dM_directly_0 (by decide) ?_
  refine lv_istore_n (lv' := [(3, .int 0), (0, va_rf (some y)), (1, .int ins), (2, .int nm)]) hx hb dM_directly_1 rfl hl (by decide) rfl (fun ls hl => ?_)
  refine lv_iconst (v := 1) hx hb dM_directly_2 (by decide) ?_
  refine lv_istore (lv' := [(4, .int 1), (3, .int 0), (0, va_rf (some y)), (1, .int ins), (2, .int nm)]) hx hb dM_directly_3 hl (by decide) rfl (fun ls hl => ?_)
  exact lp_dy l G S y ins nm hM hY (b_programs hM hY) hC hr hlocks hW (m_programs S y) 1 0 (by omega) (by omega) (by omega) rfl ls hl

def f_ly (S : gs_S) (y : Nat) (q : Int32) : Nat → Nat → Nat
  | 0, a => a
  | k + 1, a => if a = 0 then a else if nI a = q then a else f_ly S y q k (m_within S y a)
def f_lyM (S : gs_S) (y p : Nat) (q : Int32) : Int32 := if nI (f_ly S y q 61 p) = q then (if q = 0 then 0 else 1) else 0

set_option maxHeartbeats 4000000 in
set_option maxRecDepth 100000 in
theorem lp_ly (l : Launch) (G : gs_G) (S : gs_S) (y p0 : Nat) (q : Int32) (hM : m_t S) (hY : g_sh S y = some (.inl 3)) {p : Program} {e : Env} {s : State} {m : MethodId} {below : List Frame} {meth : Method} {c : Code} (hC : CallFix p m c cM_liesIn 4 s #[va_rf (some y), Value.int (nI p0), Value.int q] gU yM_liesIn.cls) (hr : meth.sig.returnType = some .boolean) (hlocks : meth.locks = false) (hW : g_W G (g_A S s.heap.size) s S s.heap []) :
    ∀ (k : Nat) (a : Nat), a < k ∨ a = 0 → a ≤ 60 → f_ly S y q 61 p0 = f_ly S y q k a → ∀ (ls : Array Slot), lv_has ls 4 [(3, .int (nI a)), (0, va_rf (some y)), (1, .int (nI p0)), (2, .int q)] → W p l e { frames := 0, cells := 0, slots := 0, locals := 0 } s m #[va_rf (some y), Value.int (nI p0), Value.int q] below meth c s.heap [] 0 0 (MQ below (g_Qi G S s.heap.size (fun r S' => S' = S ∧ r = f_lyM S y p0 q)) #[va_rf (some y), Value.int (nI p0), Value.int q] s 0 0 (g_A S s.heap.size)) (F0 m 2 ls []) := by
  obtain ⟨hx, hb, hml, hown, hts⟩ := id hC
  intro k
  induction k with
  | zero =>
    intro a  ha ha60 hf ls hl
    have ha0 : a = 0 := by omega
    refine lv_iload_n hx hb dM_liesIn_2 rfl (lv_at hl 0 rfl) ?_
    refine lv_if_eq (tgt := 21) hx hb dM_liesIn_3 (by decide) (fun c_3 => ?_) (fun c => absurd (by rw [ha0]; rfl) c)
    refine lv_iload_n hx hb dM_liesIn_21 rfl (lv_at hl 0 rfl) ?_
    refine lv_iload_n hx hb dM_liesIn_22 rfl (lv_at hl 3 rfl) ?_
    refine lv_icmp_ne (tgt := 34) hx hb dM_liesIn_23 (by decide) (fun c_23 => ?_) (fun c_23 => ?_)
    · skip
      refine lv_iconst (v := 0) hx hb dM_liesIn_34 (by decide) ?_
      exact s_iret hC hr hlocks rfl hW dM_liesIn_35 ⟨rfl, by rw [f_lyM, hf, show f_ly S y q 0 a = a from rfl, if_neg c_23]⟩
    · skip
      refine lv_iload_n hx hb dM_liesIn_26 rfl (lv_at hl 3 rfl) ?_
      refine lv_if_eq (tgt := 34) hx hb dM_liesIn_27 (by decide) (fun c_27 => ?_) (fun c_27 => ?_)
      · skip
        refine lv_iconst (v := 0) hx hb dM_liesIn_34 (by decide) ?_
        exact s_iret hC hr hlocks rfl hW dM_liesIn_35 ⟨rfl, by rw [f_lyM, hf, show f_ly S y q 0 a = a from rfl, if_pos c_23, if_pos c_27]⟩
      · skip
        refine lv_iconst (v := 1) hx hb dM_liesIn_30 (by decide) ?_
        refine lv_goto (tgt := 35) hx hb dM_liesIn_31 (by decide) ?_
        exact s_iret hC hr hlocks rfl hW dM_liesIn_35 ⟨rfl, by rw [f_lyM, hf, show f_ly S y q 0 a = a from rfl, if_pos c_23, if_neg c_27]⟩
  | succ k ih =>
    intro a  ha ha60 hf ls hl
    refine lv_iload_n hx hb dM_liesIn_2 rfl (lv_at hl 0 rfl) ?_
    refine lv_if_eq (tgt := 21) hx hb dM_liesIn_3 (by decide) (fun c_3 => ?_) (fun c_3 => ?_)
    · skip
      refine lv_iload_n hx hb dM_liesIn_21 rfl (lv_at hl 0 rfl) ?_
      refine lv_iload_n hx hb dM_liesIn_22 rfl (lv_at hl 3 rfl) ?_
      refine lv_icmp_ne (tgt := 34) hx hb dM_liesIn_23 (by decide) (fun c_23 => ?_) (fun c_23 => ?_)
      · skip
        refine lv_iconst (v := 0) hx hb dM_liesIn_34 (by decide) ?_
        exact s_iret hC hr hlocks rfl hW dM_liesIn_35 ⟨rfl, by rw [f_lyM, hf, f_ly, if_pos ((x_n0 (by omega)).mp c_3), if_neg c_23]⟩
      · skip
        refine lv_iload_n hx hb dM_liesIn_26 rfl (lv_at hl 3 rfl) ?_
        refine lv_if_eq (tgt := 34) hx hb dM_liesIn_27 (by decide) (fun c_27 => ?_) (fun c_27 => ?_)
        · skip
          refine lv_iconst (v := 0) hx hb dM_liesIn_34 (by decide) ?_
          exact s_iret hC hr hlocks rfl hW dM_liesIn_35 ⟨rfl, by rw [f_lyM, hf, f_ly, if_pos ((x_n0 (by omega)).mp c_3), if_pos c_23, if_pos c_27]⟩
        · skip
          refine lv_iconst (v := 1) hx hb dM_liesIn_30 (by decide) ?_
          refine lv_goto (tgt := 35) hx hb dM_liesIn_31 (by decide) ?_
          exact s_iret hC hr hlocks rfl hW dM_liesIn_35 ⟨rfl, by rw [f_lyM, hf, f_ly, if_pos ((x_n0 (by omega)).mp c_3), if_pos c_23, if_neg c_27]⟩
    · skip
      refine lv_iload_n hx hb dM_liesIn_6 rfl (lv_at hl 0 rfl) ?_
      refine lv_iload_n hx hb dM_liesIn_7 rfl (lv_at hl 3 rfl) ?_
      refine lv_icmp_eq (tgt := 21) hx hb dM_liesIn_8 (by decide) (fun c_8 => ?_) (fun c_8 => ?_)
      · skip
        refine lv_iload_n hx hb dM_liesIn_21 rfl (lv_at hl 0 rfl) ?_
        refine lv_iload_n hx hb dM_liesIn_22 rfl (lv_at hl 3 rfl) ?_
        refine lv_icmp_ne (tgt := 34) hx hb dM_liesIn_23 (by decide) (fun c_23 => ?_) (fun c_23 => ?_)
        · skip
          refine lv_iconst (v := 0) hx hb dM_liesIn_34 (by decide) ?_
          exact s_iret hC hr hlocks rfl hW dM_liesIn_35 ⟨rfl, by rw [f_lyM, hf, f_ly, if_neg (fun z => c_3 ((x_n0 (by omega)).mpr z)), if_pos c_8, if_neg c_23]⟩
        · skip
          refine lv_iload_n hx hb dM_liesIn_26 rfl (lv_at hl 3 rfl) ?_
          refine lv_if_eq (tgt := 34) hx hb dM_liesIn_27 (by decide) (fun c_27 => ?_) (fun c_27 => ?_)
          · skip
            refine lv_iconst (v := 0) hx hb dM_liesIn_34 (by decide) ?_
            exact s_iret hC hr hlocks rfl hW dM_liesIn_35 ⟨rfl, by rw [f_lyM, hf, f_ly, if_neg (fun z => c_3 ((x_n0 (by omega)).mpr z)), if_pos c_8, if_pos c_23, if_pos c_27]⟩
          · skip
            refine lv_iconst (v := 1) hx hb dM_liesIn_30 (by decide) ?_
            refine lv_goto (tgt := 35) hx hb dM_liesIn_31 (by decide) ?_
            exact s_iret hC hr hlocks rfl hW dM_liesIn_35 ⟨rfl, by rw [f_lyM, hf, f_ly, if_neg (fun z => c_3 ((x_n0 (by omega)).mpr z)), if_pos c_8, if_pos c_23, if_neg c_27]⟩
      · skip
        refine s_aload_n (x := some y) hx hb dM_liesIn_11 rfl (lv_at hl 1 rfl) ?_
        obtain ⟨a_within, ea_within, sa_within⟩ := w_m_within hM hY
        refine s_getr hC hW gc_M iw_M 2 (by decide) uw_392 rfl hY (v := some a_within) ea_within dM_liesIn_12 ?_
        refine lv_iload_n hx hb dM_liesIn_15 rfl (lv_at hl 0 rfl) ?_
        refine k_iald hC hW sa_within rfl rfl (by decide) a rfl (by omega) (v := nI (m_within S y a)) (e_within (S := S) hM hY ea_within (by omega)) dM_liesIn_16 ?_
        have h16 := b_within hM hY (i := a) (by omega)
        refine lv_istore_n (lv' := [(3, .int (nI (m_within S y a))), (0, va_rf (some y)), (1, .int (nI p0)), (2, .int q)]) hx hb dM_liesIn_17 rfl hl (by decide) rfl (fun ls hl => ?_)
        refine lv_goto (tgt := 2) hx hb dM_liesIn_18 (by decide) ?_
        exact ih (m_within S y a) (by omega) (by omega) (by rw [hf, f_ly, if_neg (fun z => c_3 ((x_n0 (by omega)).mpr z)), if_neg c_8]) ls hl

set_option maxHeartbeats 4000000 in
set_option maxRecDepth 100000 in
theorem c_M_liesIn (l : Launch) (G : gs_G) (S : gs_S) (sz : Nat) (y p0 : Nat) (q : Int32) (hM : m_t S) (hY : g_sh S y = some (.inl 3)) (hp0 : p0 ≤ 60) : Met l yM_liesIn (kM_liesIn :: gU) { frames := 0, cells := 0, slots := 0, locals := 0 } (g_Pc G S sz [va_rf (some y), .int (nI p0), .int q]) (g_Qi G S sz (fun r S' => S' = S ∧ r = f_lyM S y p0 q)) 0 0 (g_A S sz) := by
  refine s_head (by decide) (Nat.le_of_ble_eq_true rfl) ?_
  intro p e s m below meth c ls hsz hC hr hlocks hnm hl hW
  subst hsz
  obtain ⟨hx, hb, hml, hown, hts⟩ := id hC
  have hl : lv_has ls 4 [(0, va_rf (some y)), (1, .int (nI p0)), (2, .int q)] := hl
  refine lv_iload_n hx hb dM_liesIn_0 rfl (lv_at hl 1 rfl) ?_
  refine lv_istore_n (lv' := [(3, .int (nI p0)), (0, va_rf (some y)), (1, .int (nI p0)), (2, .int q)]) hx hb dM_liesIn_1 rfl hl (by decide) rfl (fun ls hl => ?_)
  exact lp_ly l G S y p0 q hM hY hC hr hlocks hW 61 p0 (by omega) (by omega) rfl ls hl
