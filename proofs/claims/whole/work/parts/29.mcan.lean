/-! M.cancel -/
def p_AL (S : gs_S) (f : Nat → Nat → Nat → Int64) : gs_S := (S.1, S.2.1, S.2.2.1, S.2.2.2.1, S.2.2.2.2.1, f, S.2.2.2.2.2.2)
def g_AL (S : gs_S) : Nat → Nat → Nat → Int64 := S.2.2.2.2.2.1
theorem p_AL_s (S : gs_S) : p_AL S (g_AL S) = S := rfl
theorem p_AL_p (S : gs_S) (f : Nat → Nat → Nat → Int64) (r a j : Nat) (v : Int64) : p_al (p_AL S f) r a j v = p_AL S (u_3 f r a j v) := rfl
theorem mt_AL {S : gs_S} {f : Nat → Nat → Nat → Int64} (h : m_t S) : m_t (p_AL S f) := h
def f_cA (T : gs_S) (y p : Nat) : Nat → Nat → Int32
  | 0, _ => 0
  | k + 1, q => if f_lyM T y q (nI p) = 0 then f_cA T y p k (q + 1) else if m_activeTimes T y q ≤ 0 then f_cA T y p k (q + 1) else 1
def f_cm (V : gs_S) (y q : Nat) : Nat → Nat → (Nat → Nat → Nat → Int64) → (Nat → Nat → Nat → Int64)
  | 0, _, f => f
  | k + 1, i, f => f_cm V y q k (i + 1) (u_3 f 22 (m_q V y 16) i (if nI (m_owner V y i) = nI q then f 19 (m_q V y 12) i else f 22 (m_q V y 16) i))
def c_V (V : gs_S) (y q : Nat) : gs_S := p_AL (p_ai V 15 (m_q V y 7) q 0) (f_cm (p_ai V 15 (m_q V y 7) q 0) y q (m_cells V y) 0 (g_AL V))
def f_cB (y p : Nat) : Nat → Nat → Int32 → gs_S → Int32 × gs_S
  | 0, _, mn, V => (mn, V)
  | k + 1, q, mn, V => if f_lyM V y q (nI p) = 0 then f_cB y p k (q + 1) mn V else f_cB y p k (q + 1) (mn + (if m_data V y q = 0 then 0 else 1)) (c_V V y q)
theorem mt_cV {V : gs_S} {y q : Nat} (h : m_t V) : m_t (c_V V y q) := mt_AL (mt_pai h (fun _ => True.intro))
def f_cnM (T : gs_S) (y : Nat) (fr nm : Int32) : Int32 × gs_S := if f_isF T y fr nm = 0 then (-2, T) else if f_fi T y (f_runM T y) nm = 0 then (-3, T) else if f_cA T y (f_fi T y (f_runM T y) nm) (m_programs T y) 1 = 0 then f_cB y (f_fi T y (f_runM T y) nm) (m_programs T y) 1 0 T else (-5, T)

set_option maxHeartbeats 4000000 in
set_option maxRecDepth 100000 in
theorem lp_cI (l : Launch) (G : gs_G) (S : gs_S) (V : gs_S) (y q pp : Nat) (fr nm mn : Int32) (f0 : Nat → Nat → Nat → Int64) (hV : m_t V) (hV0 : g_sh V y = some (.inl 3)) (hc : m_cells V y ≤ 200) {p : Program} {e : Env} {s : State} {m : MethodId} {below : List Frame} {meth : Method} {c : Code} (hC : CallFix p m c cM_cancel 7 s #[va_rf (some y), Value.int fr, Value.int nm] gU yM_cancel.cls) (hr : meth.sig.returnType = some .int) (hlocks : meth.locks = false) (kk : ∀ (ls : Array Slot), lv_has ls 7 [(5, .int (nI q)), (4, .int mn), (3, .int (nI pp)), (0, va_rf (some y)), (1, .int fr), (2, .int nm)] → ∀ (H : Heap) (locs : List Loc), g_W G (g_A S s.heap.size) s (p_AL V (f_cm V y q (m_cells V y) 0 f0)) H locs → W p l e { frames := 2, cells := 0, slots := 0, locals := 49 } s m #[va_rf (some y), Value.int fr, Value.int nm] below meth c H locs 0 0 (MQ below (g_Qi G S s.heap.size (fun r S' => r = (f_cnM (m_0 S y) y fr nm).1 ∧ S' = (f_cnM (m_0 S y) y fr nm).2)) #[va_rf (some y), Value.int fr, Value.int nm] s 0 0 (g_A S s.heap.size)) (F0 m 182 ls [])) :
    ∀ (k : Nat) (i : Nat) (f : Nat → Nat → Nat → Int64), i + k = m_cells V y → f_cm V y q (m_cells V y) 0 f0 = f_cm V y q k i f → ∀ (ls : Array Slot), lv_has ls 7 [(6, .int (nI i)), (5, .int (nI q)), (4, .int mn), (3, .int (nI pp)), (0, va_rf (some y)), (1, .int fr), (2, .int nm)] → ∀ (H : Heap) (locs : List Loc), g_W G (g_A S s.heap.size) s (p_AL V f) H locs → W p l e { frames := 2, cells := 0, slots := 0, locals := 49 } s m #[va_rf (some y), Value.int fr, Value.int nm] below meth c H locs 0 0 (MQ below (g_Qi G S s.heap.size (fun r S' => r = (f_cnM (m_0 S y) y fr nm).1 ∧ S' = (f_cnM (m_0 S y) y fr nm).2)) #[va_rf (some y), Value.int fr, Value.int nm] s 0 0 (g_A S s.heap.size)) (F0 m 131 ls []) := by
  obtain ⟨hx, hb, hml, hown, hts⟩ := id hC
  intro k
  induction k with
  | zero =>
    intro i  f  hi hf ls hl H locs hW
    refine lv_iload hx hb dM_cancel_131 (lv_at hl 0 rfl) ?_
    refine s_aload_n (x := some y) hx hb dM_cancel_133 rfl (lv_at hl 4 rfl) ?_
    refine s_geti hC hW gc_M iw_M 13 (by decide) uw_403 rfl hV0 (v := nI (m_cells V y)) (e_cells (S := V) hV hV0) dM_cancel_134 ?_
    refine lv_icmp_ge (tgt := 182) hx hb dM_cancel_137 (by decide) (fun c_137 => ?_) (fun c => absurd ((nI_leI (by omega) (by omega)).mpr (by omega)) c)
    have e0 : f_cm V y q (m_cells V y) 0 f0 = f := by rw [hf]; rfl
    exact kk ls (lv_sub hl [1, 2, 3, 4, 5, 6] rfl) H locs (by rw [e0]; exact hW)
  | succ k ih =>
    intro i  f  hi hf ls hl H locs hW
    refine lv_iload hx hb dM_cancel_131 (lv_at hl 0 rfl) ?_
    refine s_aload_n (x := some y) hx hb dM_cancel_133 rfl (lv_at hl 4 rfl) ?_
    refine s_geti hC hW gc_M iw_M 13 (by decide) uw_403 rfl hV0 (v := nI (m_cells V y)) (e_cells (S := V) hV hV0) dM_cancel_134 ?_
    refine lv_icmp_ge (tgt := 182) hx hb dM_cancel_137 (by decide) (fun c => absurd ((nI_leI (by omega) (by omega)).mp c) (by omega)) (fun c_137 => ?_)
    refine s_aload_n (x := some y) hx hb dM_cancel_140 rfl (lv_at hl 4 rfl) ?_
    obtain ⟨a_memory, ea_memory, sa_memory⟩ := w_m_memory hV hV0
    refine s_getr hC hW gc_M iw_M 16 (by decide) uw_406 rfl hV0 (v := some a_memory) ea_memory dM_cancel_141 ?_
    refine lv_iload hx hb dM_cancel_144 (lv_at hl 0 rfl) ?_
    refine s_aload_n (x := some y) hx hb dM_cancel_146 rfl (lv_at hl 4 rfl) ?_
    obtain ⟨a_owner, ea_owner, sa_owner⟩ := w_m_owner hV hV0
    refine s_getr hC hW gc_M iw_M 9 (by decide) uw_399 rfl hV0 (v := some a_owner) ea_owner dM_cancel_147 ?_
    refine lv_iload hx hb dM_cancel_150 (lv_at hl 0 rfl) ?_
    refine k_iald hC hW sa_owner rfl rfl (by decide) i rfl (by omega) (v := nI (m_owner V y i)) (e_owner (S := V) hV hV0 ea_owner (by omega)) dM_cancel_152 ?_
    have h152 := b_owner hV hV0 (i := i) (by omega)
    refine lv_iload hx hb dM_cancel_153 (lv_at hl 1 rfl) ?_
    refine lv_icmp_ne (tgt := 168) hx hb dM_cancel_155 (by decide) (fun c_155 => ?_) (fun c_155 => ?_)
    · skip
      refine s_aload_n (x := some y) hx hb dM_cancel_168 rfl (lv_at hl 4 rfl) ?_
      refine s_getr hC hW gc_M iw_M 16 (by decide) uw_406 rfl hV0 (v := some a_memory) ea_memory dM_cancel_169 ?_
      refine lv_iload hx hb dM_cancel_172 (lv_at hl 0 rfl) ?_
      refine k_lald hC hW sa_memory rfl rfl (by decide) i rfl (by omega) rfl dM_cancel_174 ?_
      refine k_last hC hW sa_memory rfl rfl (by decide) i rfl (by omega) dM_cancel_175 (fun H locs hW => ?_)
      refine lv_iinc (v := nI (i + 1)) (lv' := [(6, .int (nI (i + 1))), (5, .int (nI q)), (4, .int mn), (3, .int (nI pp)), (0, va_rf (some y)), (1, .int fr), (2, .int nm)]) hx hb dM_cancel_176 hl (k := 0) rfl (nI_1 _) (by decide) rfl (fun ls hl => ?_)
      refine lv_goto (tgt := 131) hx hb dM_cancel_179 (by decide) ?_
      exact ih (i + 1) (u_3 f 22 (m_q V y 16) i (if nI (m_owner V y i) = nI q then f 19 (m_q V y 12) i else f 22 (m_q V y 16) i)) (by omega) (by rw [hf]; rfl) ls (lv_sub hl [0, 1, 2, 3, 4, 5, 6] rfl) H locs (by rw [if_neg c_155, m_q, ea_memory, v_a_s]; exact hW)
    · skip
      refine s_aload_n (x := some y) hx hb dM_cancel_158 rfl (lv_at hl 4 rfl) ?_
      obtain ⟨a_first, ea_first, sa_first⟩ := w_m_first hV hV0
      refine s_getr hC hW gc_M iw_M 12 (by decide) uw_402 rfl hV0 (v := some a_first) ea_first dM_cancel_159 ?_
      refine lv_iload hx hb dM_cancel_162 (lv_at hl 0 rfl) ?_
      refine k_lald hC hW sa_first rfl rfl (by decide) i rfl (by omega) rfl dM_cancel_164 ?_
      refine lv_goto (tgt := 175) hx hb dM_cancel_165 (by decide) ?_
      refine k_last hC hW sa_memory rfl rfl (by decide) i rfl (by omega) dM_cancel_175 (fun H locs hW => ?_)
      refine lv_iinc (v := nI (i + 1)) (lv' := [(6, .int (nI (i + 1))), (5, .int (nI q)), (4, .int mn), (3, .int (nI pp)), (0, va_rf (some y)), (1, .int fr), (2, .int nm)]) hx hb dM_cancel_176 hl (k := 0) rfl (nI_1 _) (by decide) rfl (fun ls hl => ?_)
      refine lv_goto (tgt := 131) hx hb dM_cancel_179 (by decide) ?_
      exact ih (i + 1) (u_3 f 22 (m_q V y 16) i (if nI (m_owner V y i) = nI q then f 19 (m_q V y 12) i else f 22 (m_q V y 16) i)) (by omega) (by rw [hf]; rfl) ls (lv_sub hl [0, 1, 2, 3, 4, 5, 6] rfl) H locs (by rw [if_pos c_155, m_q, ea_memory, v_a_s, m_q, ea_first, v_a_s]; exact hW)

set_option maxHeartbeats 4000000 in
set_option maxRecDepth 100000 in
theorem lp_cB (l : Launch) (G : gs_G) (S : gs_S) (y pp n : Nat) (fr nm : Int32) (hn60 : n ≤ 60) (hfin : f_cnM (m_0 S y) y fr nm = f_cB y pp n 1 0 (m_0 S y)) {p : Program} {e : Env} {s : State} {m : MethodId} {below : List Frame} {meth : Method} {c : Code} (hC : CallFix p m c cM_cancel 7 s #[va_rf (some y), Value.int fr, Value.int nm] gU yM_cancel.cls) (hr : meth.sig.returnType = some .int) (hlocks : meth.locks = false) :
    ∀ (k : Nat) (q : Nat) (mn : Int32) (V : gs_S), q + k = n + 1 → 1 ≤ q → m_t V → g_sh V y = some (.inl 3) → m_programs V y = n → f_cB y pp n 1 0 (m_0 S y) = f_cB y pp k q mn V → ∀ (ls : Array Slot), lv_has ls 7 [(5, .int (nI q)), (4, .int mn), (3, .int (nI pp)), (0, va_rf (some y)), (1, .int fr), (2, .int nm)] → ∀ (H : Heap) (locs : List Loc), g_W G (g_A S s.heap.size) s V H locs → W p l e { frames := 2, cells := 0, slots := 0, locals := 49 } s m #[va_rf (some y), Value.int fr, Value.int nm] below meth c H locs 0 0 (MQ below (g_Qi G S s.heap.size (fun r S' => r = (f_cnM (m_0 S y) y fr nm).1 ∧ S' = (f_cnM (m_0 S y) y fr nm).2)) #[va_rf (some y), Value.int fr, Value.int nm] s 0 0 (g_A S s.heap.size)) (F0 m 78 ls []) := by
  obtain ⟨hx, hb, hml, hown, hts⟩ := id hC
  intro k
  induction k with
  | zero =>
    intro q  mn  V  hi hq1 hV hV0 hn hf ls hl H locs hW
    have h_cells := b_cells hV hV0
    refine lv_iload hx hb dM_cancel_78 (lv_at hl 0 rfl) ?_
    refine s_aload_n (x := some y) hx hb dM_cancel_80 rfl (lv_at hl 3 rfl) ?_
    refine s_geti hC hW gc_M iw_M 8 (by decide) uw_398 rfl hV0 (v := nI n) ((e_programs (S := V) hV hV0).trans (by rw [hn])) dM_cancel_81 ?_
    refine lv_icmp_gt (tgt := 188) hx hb dM_cancel_84 (by decide) (fun c_84 => ?_) (fun c => absurd ((nI_ltI (by omega) (by omega)).mpr (by omega)) c)
    refine lv_iload hx hb dM_cancel_188 (lv_at hl 1 rfl) ?_
    exact s_iret hC hr hlocks rfl hW dM_cancel_190 ⟨by rw [hfin, hf]; rfl, by rw [hfin, hf]; rfl⟩
  | succ k ih =>
    intro q  mn  V  hi hq1 hV hV0 hn hf ls hl H locs hW
    have h_cells := b_cells hV hV0
    refine lv_iload hx hb dM_cancel_78 (lv_at hl 0 rfl) ?_
    refine s_aload_n (x := some y) hx hb dM_cancel_80 rfl (lv_at hl 3 rfl) ?_
    refine s_geti hC hW gc_M iw_M 8 (by decide) uw_398 rfl hV0 (v := nI n) ((e_programs (S := V) hV hV0).trans (by rw [hn])) dM_cancel_81 ?_
    refine lv_icmp_gt (tgt := 188) hx hb dM_cancel_84 (by decide) (fun c => absurd ((nI_ltI (by omega) (by omega)).mp c) (by omega)) (fun c_84 => ?_)
    refine s_aload_n (x := some y) hx hb dM_cancel_87 rfl (lv_at hl 3 rfl) ?_
    refine lv_iload hx hb dM_cancel_88 (lv_at hl 0 rfl) ?_
    refine lv_iload_n hx hb dM_cancel_90 rfl (lv_at hl 2 rfl) ?_
    refine s_calli hW (s_runV (n := 2) (As := [.int (nI q), .int (nI pp)]) (rest := []) hC (c_M_liesIn l G V H.size y q (nI pp) hV hV0 (by omega)) uc_M_liesIn uw_527 uw_529 us_M_liesIn uw_4 rfl rfl (by decide +kernel) ⟨by decide, by decide⟩ (g_preV hW gc_M hV0 [.int (nI q), .int (nI pp)]) rfl hl.1 rfl (Nat.le_of_ble_eq_true rfl) dM_cancel_91 ⟨Nat.le_of_ble_eq_true rfl, Nat.le_of_ble_eq_true rfl⟩) (fun q91 S91 H locs hp91 hW => ?_)
    obtain ⟨hs91, rfl⟩ := hp91
    replace hs91 := hs91.symm
    subst hs91
    refine lv_if_ne (tgt := 100) hx hb dM_cancel_94 (by decide) (fun c_94 => ?_) (fun c_94 => ?_)
    · skip
      refine lv_iload hx hb dM_cancel_100 (lv_at hl 1 rfl) ?_
      refine s_aload_n (x := some y) hx hb dM_cancel_102 rfl (lv_at hl 3 rfl) ?_
      obtain ⟨a_data, ea_data, sa_data⟩ := w_m_data hV hV0
      refine s_getr hC hW gc_M iw_M 7 (by decide) uw_397 rfl hV0 (v := some a_data) ea_data dM_cancel_103 ?_
      refine lv_iload hx hb dM_cancel_106 (lv_at hl 0 rfl) ?_
      refine k_zald hC hW sa_data rfl rfl (by decide) q rfl (by omega) (v := m_data V y q) (e_data (S := V) ea_data) dM_cancel_108 ?_
      refine lv_if_eq (tgt := 116) hx hb dM_cancel_109 (by decide) (fun c_109 => ?_) (fun c_109 => ?_)
      · skip
        refine lv_iconst (v := 0) hx hb dM_cancel_116 (by decide) ?_
        refine lv_iadd hx hb dM_cancel_117 ?_
        refine lv_topi (fun v_117 ev_117 => ?_)
        refine lv_istore (lv' := [(4, .int v_117), (5, .int (nI q)), (3, .int (nI pp)), (0, va_rf (some y)), (1, .int fr), (2, .int nm)]) hx hb dM_cancel_118 hl (by decide) rfl (fun ls hl => ?_)
        refine s_aload_n (x := some y) hx hb dM_cancel_120 rfl (lv_at hl 3 rfl) ?_
        refine s_getr hC hW gc_M iw_M 7 (by decide) uw_397 rfl hV0 (v := some a_data) ea_data dM_cancel_121 ?_
        refine lv_iload hx hb dM_cancel_124 (lv_at hl 1 rfl) ?_
        refine lv_iconst (v := 0) hx hb dM_cancel_126 (by decide) ?_
        refine k_zast hC hW sa_data rfl rfl (by decide) q rfl (by omega) dM_cancel_127 (fun H locs hW => ?_)
        refine lv_iconst (v := 0) hx hb dM_cancel_128 (by decide) ?_
        refine lv_istore (lv' := [(6, .int 0), (4, .int v_117), (5, .int (nI q)), (3, .int (nI pp)), (0, va_rf (some y)), (1, .int fr), (2, .int nm)]) hx hb dM_cancel_129 hl (by decide) rfl (fun ls hl => ?_)
        have hV1 : m_t (p_ai V 15 (m_q V y 7) q 0) := mt_pai hV (fun _ => True.intro)
        refine lp_cI l G S (p_ai V 15 (m_q V y 7) q 0) y q pp fr nm v_117 (g_AL V) hV1 hV0 h_cells hC hr hlocks (fun ls hl H locs hW => ?_) (m_cells V y) 0 (g_AL V) (Nat.zero_add _) rfl ls (lv_sub hl [0, 2, 1, 3, 4, 5, 6] rfl) _ _ (by rw [m_q, ea_data, v_a_s]; exact hW)
        refine lv_iinc (v := nI (q + 1)) (lv' := [(5, .int (nI (q + 1))), (4, .int v_117), (3, .int (nI pp)), (0, va_rf (some y)), (1, .int fr), (2, .int nm)]) hx hb dM_cancel_182 hl (k := 0) rfl (nI_1 _) (by decide) rfl (fun ls hl => ?_)
        refine lv_goto (tgt := 78) hx hb dM_cancel_185 (by decide) ?_
        exact ih (q + 1) v_117 (c_V V y q) (by omega) (by omega) (mt_cV hV) hV0 hn (by rw [hf, f_cB, if_neg c_94, ev_117, if_pos c_109]) ls hl H locs hW
      · skip
        refine lv_iconst (v := 1) hx hb dM_cancel_112 (by decide) ?_
        refine lv_goto (tgt := 117) hx hb dM_cancel_113 (by decide) ?_
        refine lv_iadd hx hb dM_cancel_117 ?_
        refine lv_topi (fun v_117 ev_117 => ?_)
        refine lv_istore (lv' := [(4, .int v_117), (5, .int (nI q)), (3, .int (nI pp)), (0, va_rf (some y)), (1, .int fr), (2, .int nm)]) hx hb dM_cancel_118 hl (by decide) rfl (fun ls hl => ?_)
        refine s_aload_n (x := some y) hx hb dM_cancel_120 rfl (lv_at hl 3 rfl) ?_
        refine s_getr hC hW gc_M iw_M 7 (by decide) uw_397 rfl hV0 (v := some a_data) ea_data dM_cancel_121 ?_
        refine lv_iload hx hb dM_cancel_124 (lv_at hl 1 rfl) ?_
        refine lv_iconst (v := 0) hx hb dM_cancel_126 (by decide) ?_
        refine k_zast hC hW sa_data rfl rfl (by decide) q rfl (by omega) dM_cancel_127 (fun H locs hW => ?_)
        refine lv_iconst (v := 0) hx hb dM_cancel_128 (by decide) ?_
        refine lv_istore (lv' := [(6, .int 0), (4, .int v_117), (5, .int (nI q)), (3, .int (nI pp)), (0, va_rf (some y)), (1, .int fr), (2, .int nm)]) hx hb dM_cancel_129 hl (by decide) rfl (fun ls hl => ?_)
        have hV1 : m_t (p_ai V 15 (m_q V y 7) q 0) := mt_pai hV (fun _ => True.intro)
        refine lp_cI l G S (p_ai V 15 (m_q V y 7) q 0) y q pp fr nm v_117 (g_AL V) hV1 hV0 h_cells hC hr hlocks (fun ls hl H locs hW => ?_) (m_cells V y) 0 (g_AL V) (Nat.zero_add _) rfl ls (lv_sub hl [0, 2, 1, 3, 4, 5, 6] rfl) _ _ (by rw [m_q, ea_data, v_a_s]; exact hW)
        refine lv_iinc (v := nI (q + 1)) (lv' := [(5, .int (nI (q + 1))), (4, .int v_117), (3, .int (nI pp)), (0, va_rf (some y)), (1, .int fr), (2, .int nm)]) hx hb dM_cancel_182 hl (k := 0) rfl (nI_1 _) (by decide) rfl (fun ls hl => ?_)
        refine lv_goto (tgt := 78) hx hb dM_cancel_185 (by decide) ?_
        exact ih (q + 1) v_117 (c_V V y q) (by omega) (by omega) (mt_cV hV) hV0 hn (by rw [hf, f_cB, if_neg c_94, ev_117, if_neg c_109]) ls hl H locs hW
    · skip
      refine lv_goto (tgt := 182) hx hb dM_cancel_97 (by decide) ?_
      refine lv_iinc (v := nI (q + 1)) (lv' := [(5, .int (nI (q + 1))), (4, .int mn), (3, .int (nI pp)), (0, va_rf (some y)), (1, .int fr), (2, .int nm)]) hx hb dM_cancel_182 hl (k := 0) rfl (nI_1 _) (by decide) rfl (fun ls hl => ?_)
      refine lv_goto (tgt := 78) hx hb dM_cancel_185 (by decide) ?_
      exact ih (q + 1) mn V (by omega) (by omega) hV hV0 hn (by rw [hf, f_cB, if_pos c_94]) ls (lv_sub hl [0, 1, 2, 3, 4, 5] rfl) H locs hW

set_option maxHeartbeats 4000000 in
set_option maxRecDepth 100000 in
theorem lp_cA (l : Launch) (G : gs_G) (S : gs_S) (y pp : Nat) (fr nm : Int32) (hT : m_t (m_0 S y)) (hT0 : g_sh (m_0 S y) y = some (.inl 3)) (hn60 : m_programs (m_0 S y) y ≤ 60) (hfin : f_cnM (m_0 S y) y fr nm = if f_cA (m_0 S y) y pp (m_programs (m_0 S y) y) 1 = 0 then f_cB y pp (m_programs (m_0 S y) y) 1 0 (m_0 S y) else (-5, m_0 S y)) {p : Program} {e : Env} {s : State} {m : MethodId} {below : List Frame} {meth : Method} {c : Code} (hC : CallFix p m c cM_cancel 7 s #[va_rf (some y), Value.int fr, Value.int nm] gU yM_cancel.cls) (hr : meth.sig.returnType = some .int) (hlocks : meth.locks = false) :
    ∀ (k : Nat) (q : Nat), q + k = m_programs (m_0 S y) y + 1 → 1 ≤ q → f_cA (m_0 S y) y pp (m_programs (m_0 S y) y) 1 = f_cA (m_0 S y) y pp k q → ∀ (ls : Array Slot), lv_has ls 7 [(4, .int (nI q)), (3, .int (nI pp)), (0, va_rf (some y)), (1, .int fr), (2, .int nm)] → ∀ (H : Heap) (locs : List Loc), g_W G (g_A S s.heap.size) s (m_0 S y) H locs → W p l e { frames := 2, cells := 0, slots := 0, locals := 49 } s m #[va_rf (some y), Value.int fr, Value.int nm] below meth c H locs 0 0 (MQ below (g_Qi G S s.heap.size (fun r S' => r = (f_cnM (m_0 S y) y fr nm).1 ∧ S' = (f_cnM (m_0 S y) y fr nm).2)) #[va_rf (some y), Value.int fr, Value.int nm] s 0 0 (g_A S s.heap.size)) (F0 m 34 ls []) := by
  obtain ⟨hx, hb, hml, hown, hts⟩ := id hC
  intro k
  induction k with
  | zero =>
    intro q  hi hq1 hf ls hl H locs hW
    refine lv_iload hx hb dM_cancel_34 (lv_at hl 0 rfl) ?_
    refine s_aload_n (x := some y) hx hb dM_cancel_36 rfl (lv_at hl 2 rfl) ?_
    refine s_geti hC hW gc_M iw_M 8 (by decide) uw_398 rfl hT0 (v := nI (m_programs (m_0 S y) y)) (e_programs (S := m_0 S y) hT hT0) dM_cancel_37 ?_
    refine lv_icmp_gt (tgt := 72) hx hb dM_cancel_40 (by decide) (fun c_40 => ?_) (fun c => absurd ((nI_ltI (by omega) (by omega)).mpr (by omega)) c)
    refine lv_iconst (v := 0) hx hb dM_cancel_72 (by decide) ?_
    refine lv_istore (lv' := [(4, .int 0), (3, .int (nI pp)), (0, va_rf (some y)), (1, .int fr), (2, .int nm)]) hx hb dM_cancel_73 hl (by decide) rfl (fun ls hl => ?_)
    refine lv_iconst (v := 1) hx hb dM_cancel_75 (by decide) ?_
    refine lv_istore (lv' := [(5, .int 1), (4, .int 0), (3, .int (nI pp)), (0, va_rf (some y)), (1, .int fr), (2, .int nm)]) hx hb dM_cancel_76 hl (by decide) rfl (fun ls hl => ?_)
    exact lp_cB l G S y pp (m_programs (m_0 S y) y) fr nm hn60 (by rw [hfin, if_pos (by rw [hf]; rfl)]) hC hr hlocks (m_programs (m_0 S y) y) 1 0 (m_0 S y) (by omega) (by omega) hT hT0 rfl rfl ls (lv_sub hl [0, 1, 2, 3, 4, 5] rfl) _ _ hW
  | succ k ih =>
    intro q  hi hq1 hf ls hl H locs hW
    refine lv_iload hx hb dM_cancel_34 (lv_at hl 0 rfl) ?_
    refine s_aload_n (x := some y) hx hb dM_cancel_36 rfl (lv_at hl 2 rfl) ?_
    refine s_geti hC hW gc_M iw_M 8 (by decide) uw_398 rfl hT0 (v := nI (m_programs (m_0 S y) y)) (e_programs (S := m_0 S y) hT hT0) dM_cancel_37 ?_
    refine lv_icmp_gt (tgt := 72) hx hb dM_cancel_40 (by decide) (fun c => absurd ((nI_ltI (by omega) (by omega)).mp c) (by omega)) (fun c_40 => ?_)
    refine s_aload_n (x := some y) hx hb dM_cancel_43 rfl (lv_at hl 2 rfl) ?_
    refine lv_iload hx hb dM_cancel_44 (lv_at hl 0 rfl) ?_
    refine lv_iload_n hx hb dM_cancel_46 rfl (lv_at hl 1 rfl) ?_
    refine s_calli hW (s_runV (n := 2) (As := [.int (nI q), .int (nI pp)]) (rest := []) hC (c_M_liesIn l G (m_0 S y) H.size y q (nI pp) hT hT0 (by omega)) uc_M_liesIn uw_527 uw_529 us_M_liesIn uw_4 rfl rfl (by decide +kernel) ⟨by decide, by decide⟩ (g_preV hW gc_M hT0 [.int (nI q), .int (nI pp)]) rfl hl.1 rfl (Nat.le_of_ble_eq_true rfl) dM_cancel_47 ⟨Nat.le_of_ble_eq_true rfl, Nat.le_of_ble_eq_true rfl⟩) (fun q47 S47 H locs hp47 hW => ?_)
    obtain ⟨hs47, rfl⟩ := hp47
    replace hs47 := hs47.symm
    subst hs47
    refine lv_if_eq (tgt := 66) hx hb dM_cancel_50 (by decide) (fun c_50 => ?_) (fun c_50 => ?_)
    · skip
      refine lv_iinc (v := nI (q + 1)) (lv' := [(4, .int (nI (q + 1))), (3, .int (nI pp)), (0, va_rf (some y)), (1, .int fr), (2, .int nm)]) hx hb dM_cancel_66 hl (k := 0) rfl (nI_1 _) (by decide) rfl (fun ls hl => ?_)
      refine lv_goto (tgt := 34) hx hb dM_cancel_69 (by decide) ?_
      exact ih (q + 1) (by omega) (by omega) (by rw [hf, f_cA, if_pos c_50]) ls (lv_sub hl [0, 1, 2, 3, 4] rfl) H locs hW
    · skip
      refine s_aload_n (x := some y) hx hb dM_cancel_53 rfl (lv_at hl 2 rfl) ?_
      obtain ⟨a_activeTimes, ea_activeTimes, sa_activeTimes⟩ := w_m_activeTimes hT hT0
      refine s_getr hC hW gc_M iw_M 6 (by decide) uw_396 rfl hT0 (v := some a_activeTimes) ea_activeTimes dM_cancel_54 ?_
      refine lv_iload hx hb dM_cancel_57 (lv_at hl 0 rfl) ?_
      refine k_iald hC hW sa_activeTimes rfl rfl (by decide) q rfl (by omega) (v := m_activeTimes (m_0 S y) y q) (e_activeTimes (S := m_0 S y) ea_activeTimes) dM_cancel_59 ?_
      refine lv_if_le (tgt := 66) hx hb dM_cancel_60 (by decide) (fun c_60 => ?_) (fun c_60 => ?_)
      · skip
        refine lv_iinc (v := nI (q + 1)) (lv' := [(4, .int (nI (q + 1))), (3, .int (nI pp)), (0, va_rf (some y)), (1, .int fr), (2, .int nm)]) hx hb dM_cancel_66 hl (k := 0) rfl (nI_1 _) (by decide) rfl (fun ls hl => ?_)
        refine lv_goto (tgt := 34) hx hb dM_cancel_69 (by decide) ?_
        exact ih (q + 1) (by omega) (by omega) (by rw [hf, f_cA, if_neg c_50, if_pos c_60]) ls (lv_sub hl [0, 1, 2, 3, 4] rfl) H locs hW
      · skip
        refine lv_bipush (v := (-5)) hx hb dM_cancel_63 (by decide) ?_
        exact s_iret hC hr hlocks rfl hW dM_cancel_65 ⟨by rw [hfin, if_neg (by rw [hf, f_cA, if_neg c_50, if_neg c_60]; decide)], by rw [hfin, if_neg (by rw [hf, f_cA, if_neg c_50, if_neg c_60]; decide)]⟩

set_option maxHeartbeats 4000000 in
set_option maxRecDepth 100000 in
theorem c_M_cancel (l : Launch) (G : gs_G) (S : gs_S) (sz : Nat) (y : Nat) (fr nm : Int32) (hM : m_t S) (hY : g_sh S y = some (.inl 3)) : Met l yM_cancel (kM_cancel :: gU) { frames := 2, cells := 0, slots := 0, locals := 49 } (g_Pc G S sz [va_rf (some y), .int fr, .int nm]) (g_Qi G S sz (fun r S' => r = (f_cnM (m_0 S y) y fr nm).1 ∧ S' = (f_cnM (m_0 S y) y fr nm).2)) 0 0 (g_A S sz) := by
  refine s_head (by decide) (Nat.le_of_ble_eq_true rfl) ?_
  intro p e s m below meth c ls hsz hC hr hlocks hnm hl hW
  subst hsz
  obtain ⟨hx, hb, hml, hown, hts⟩ := id hC
  have hl : lv_has ls 7 [(0, va_rf (some y)), (1, .int fr), (2, .int nm)] := hl
  refine s_aload_n (x := some y) hx hb dM_cancel_0 rfl (lv_at hl 0 rfl) ?_
  refine lv_iconst (v := 0) hx hb dM_cancel_1 (by decide) ?_
  refine s_puti hC hW gc_M iw_M 0 (by decide) uw_390 (Or.inl rfl) rfl rfl rfl hY dM_cancel_2 (fun H locs hW => ?_)
  have hT : m_t (m_0 S y) := mt_0 hM
  have hT0 : g_sh (m_0 S y) y = some (.inl 3) := hY
  have hW : g_W G (g_A S s.heap.size) s (m_0 S y) H locs := hW
  have h_programs := b_programs hT hT0
  have h_cells := b_cells hT hT0
  have h_active := b_active hT hT0
  have h_prepared := b_prepared hT hT0
  have h_arguments := b_arguments hT hT0
  have h_used := b_used hT hT0
  have h_preparedAhead := b_preparedAhead hT hT0
  refine s_aload_n (x := some y) hx hb dM_cancel_5 rfl (lv_at hl 0 rfl) ?_
  refine lv_iload_n hx hb dM_cancel_6 rfl (lv_at hl 1 rfl) ?_
  refine lv_iload_n hx hb dM_cancel_7 rfl (lv_at hl 2 rfl) ?_
  refine s_calli hW (s_runV (n := 2) (As := [.int fr, .int nm]) (rest := []) hC (c_M_isFrom l G (m_0 S y) H.size y fr nm hT hT0) uc_M_isFrom uw_554 uw_556 us_M_isFrom uw_4 rfl rfl (by decide +kernel) ⟨by decide, by decide⟩ (g_preV hW gc_M hT0 [.int fr, .int nm]) rfl hl.1 rfl (Nat.le_of_ble_eq_true rfl) dM_cancel_8 ⟨Nat.le_of_ble_eq_true rfl, Nat.le_of_ble_eq_true rfl⟩) (fun q8 S8 H locs hp8 hW => ?_)
  obtain ⟨hs8, rfl⟩ := hp8
  replace hs8 := hs8.symm
  subst hs8
  refine lv_if_ne (tgt := 17) hx hb dM_cancel_11 (by decide) (fun c_11 => ?_) (fun c_11 => ?_)
  · skip
    have hrun := b_runM hT hT0
    obtain ⟨efr, hnm0⟩ := x_isF c_11
    refine s_aload_n (x := some y) hx hb dM_cancel_17 rfl (lv_at hl 0 rfl) ?_
    refine lv_iload_n hx hb dM_cancel_18 rfl (lv_at hl 1 rfl) ?_
    refine s_topi efr ?_
    refine lv_iload_n hx hb dM_cancel_19 rfl (lv_at hl 2 rfl) ?_
    refine s_calli hW (s_runV (n := 2) (As := [.int (nI (f_runM (m_0 S y) y)), .int nm]) (rest := []) hC (c_M_find l G (m_0 S y) H.size y (f_runM (m_0 S y) y) nm hT hT0 (by omega)) uc_M_find uw_558 uw_560 us_M_find uw_4 rfl rfl (by decide +kernel) ⟨by decide, by decide⟩ (g_preV hW gc_M hT0 [.int (nI (f_runM (m_0 S y) y)), .int nm]) rfl hl.1 rfl (Nat.le_of_ble_eq_true rfl) dM_cancel_20 ⟨Nat.le_of_ble_eq_true rfl, Nat.le_of_ble_eq_true rfl⟩) (fun q20 S20 H locs hp20 hW => ?_)
    obtain ⟨hs20, rfl⟩ := hp20
    replace hs20 := hs20.symm
    subst hs20
    have hfi20 := b_fi (nm := nm) (p := (f_runM (m_0 S y) y)) hT hT0 (by omega)
    refine lv_istore_n (lv' := [(3, .int (nI (f_fi (m_0 S y) y (f_runM (m_0 S y) y) nm))), (0, va_rf (some y)), (1, .int fr), (2, .int nm)]) hx hb dM_cancel_23 rfl hl (by decide) rfl (fun ls hl => ?_)
    refine lv_iload_n hx hb dM_cancel_24 rfl (lv_at hl 0 rfl) ?_
    refine lv_if_ne (tgt := 31) hx hb dM_cancel_25 (by decide) (fun c_25 => ?_) (fun c_25 => ?_)
    · skip
      refine lv_iconst (v := 1) hx hb dM_cancel_31 (by decide) ?_
      refine lv_istore (lv' := [(4, .int 1), (3, .int (nI (f_fi (m_0 S y) y (f_runM (m_0 S y) y) nm))), (0, va_rf (some y)), (1, .int fr), (2, .int nm)]) hx hb dM_cancel_32 hl (by decide) rfl (fun ls hl => ?_)
      exact lp_cA l G S y (f_fi (m_0 S y) y (f_runM (m_0 S y) y) nm) fr nm hT hT0 h_programs (by rw [f_cnM, if_neg c_11, if_neg (fun z => c_25 ((x_n0 (by omega)).mpr z))]) hC hr hlocks (m_programs (m_0 S y) y) 1 (by omega) (by omega) rfl ls (lv_sub hl [0, 1, 2, 3, 4] rfl) _ _ hW
    · skip
      refine lv_bipush (v := (-3)) hx hb dM_cancel_28 (by decide) ?_
      exact s_iret hC hr hlocks rfl hW dM_cancel_30 ⟨by rw [f_cnM, if_neg c_11, if_pos ((x_n0 (by omega)).mp c_25)], by rw [f_cnM, if_neg c_11, if_pos ((x_n0 (by omega)).mp c_25)]⟩
  · skip
    refine lv_bipush (v := (-2)) hx hb dM_cancel_14 (by decide) ?_
    exact s_iret hC hr hlocks rfl hW dM_cancel_16 ⟨by rw [f_cnM, if_pos c_11], by rw [f_cnM, if_pos c_11]⟩
