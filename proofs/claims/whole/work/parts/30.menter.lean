/-! M.enter -/
theorem x_arg {S : gs_S} {y i : Nat} (hM : m_t S) (hY : g_sh S y = some (.inl 3)) (hi : i < 16) (h : ¬ m_argument S y i = -1) : ∃ q : Nat, m_argument S y i = nI q ∧ q < 60000 := by
  obtain ⟨b, eb, sb⟩ := w_m_argument hM hY
  have e : m_argument S y i = g_ai S 27 b i := by rw [m_argument, m_q, eb, v_a_s]
  rcases m_g27 hM sb hi with z | z
  · exact absurd (e.trans z) h
  · rw [e]; exact z
def e_pl (V : gs_S) (y i : Nat) (v : Int32) : gs_S := p_ai V 26 (m_q V y 21) (16 * m_active V y + i) v
def e_od (V : gs_S) (y p i : Nat) : Int32 := m_how V y (16 * (p - 1) + i) - m_how V y (16 * (p - 1) + i) / 2 * 2
def e_st (V : gs_S) (y p i : Nat) : gs_S := if nI (m_arguments V y) ≤ nI i then e_pl V y i (-1) else if m_argument V y i = -1 then e_pl V y i (-1) else if e_od V y p i = 1 then e_pl (f_cp V y (m_memory V y (m_argument V y i).toNatClampNeg)) y i (nI (m_used V y)) else e_pl V y i (m_argument V y i)
def f_e1 (y p : Nat) : Nat → Nat → gs_S → gs_S
  | 0, _, V => V
  | k + 1, i, V => f_e1 y p k (i + 1) (e_st V y p i)
def f_e2 (V : gs_S) (y p : Nat) (own : Int32) : Nat → Nat → Nat → (Nat → Nat → Nat → Int64) → Nat × (Nat → Nat → Nat → Int64)
  | 0, _, at_, f => (at_, f)
  | k + 1, i, at_, f => if nI (m_owner V y i) = nI p then (if own = 0 then (if f_is V y p 1 = 0 then f_e2 V y p own k (i + 1) at_ f else f_e2 V y p own k (i + 1) at_ (u_3 f 22 (m_q V y 16) i (f 19 (m_q V y 12) i))) else f_e2 V y p own k (i + 1) (at_ + 1) (u_3 f 22 (m_q V y 16) (m_used V y + at_) (f 19 (m_q V y 12) i))) else f_e2 V y p own k (i + 1) at_ f
def e_T1 (T : gs_S) (y : Nat) : gs_S := p_ai (p_ai T 23 (m_q T y 18) (m_active T y) (nI (m_prepared T y))) 25 (m_q T y 20) (m_active T y) (nI (m_preparedAhead T y))
def e_b (V : gs_S) (y : Nat) : gs_S := p_ai V 24 (m_q V y 19) (m_active V y) (nI (m_used V y))
def e_fin (V : gs_S) (y p : Nat) (r : Nat × (Nat → Nat → Nat → Int64)) : gs_S := p_i (p_i (p_i (p_ai (p_ai (p_i (p_AL V r.2) 3 17 y (nI (m_used V y + r.1))) 14 (m_q V y 6) p (m_activeTimes V y p + 1)) 15 (m_q V y 7) p 1) 3 22 y (nI (m_active V y + 1))) 3 23 y 0) 3 24 y 0
def e_en (V : gs_S) (y p : Nat) : Int32 × gs_S := (1, e_fin (e_b V y) y p (f_e2 (e_b V y) y p (f_is (e_b V y) y p 4) (m_cells V y) 0 0 (g_AL V)))
def f_enM (T : gs_S) (y : Nat) : Int32 × gs_S := if f_reM T y = 1 then e_en (f_e1 y (m_prepared T y) (m_manyFormals T y (m_prepared T y)) 0 (e_T1 T y)) y (m_prepared T y) else (f_reM T y, f_un T y)
theorem mt_st {V : gs_S} {y p i : Nat} (hV : m_t V) (hV0 : g_sh V y = some (.inl 3)) (hi : i < 16) (hu : m_used V y < 60000) : m_t (e_st V y p i) := by
  unfold e_st
  split
  · exact mt_pai hV (fun _ => Or.inl rfl)
  · split
    · exact mt_pai hV (fun _ => Or.inl rfl)
    · rename_i c
      split
      · exact mt_pai (mt_cp hV hu) (fun _ => Or.inr ⟨_, rfl, hu⟩)
      · obtain ⟨q, eq, hq⟩ := x_arg hV hV0 hi c
        exact mt_pai hV (fun _ => Or.inr ⟨q, eq, hq⟩)
theorem st_sh (V : gs_S) (y p i a : Nat) : g_sh (e_st V y p i) a = g_sh V a := by
  unfold e_st
  split
  · rfl
  · split
    · rfl
    · split <;> rfl
theorem st_act (V : gs_S) (y p i : Nat) : m_active (e_st V y p i) y = m_active V y := by
  unfold e_st
  split
  · rfl
  · split
    · rfl
    · split <;> rfl
theorem st_mf (V : gs_S) (y p i q : Nat) : m_manyFormals (e_st V y p i) y q = m_manyFormals V y q := by
  unfold e_st
  split
  · rfl
  · split
    · rfl
    · split <;> rfl
theorem st_us (V : gs_S) (y p i : Nat) (hu : m_used V y < 60000) : m_used (e_st V y p i) y ≤ m_used V y + 1 := by
  unfold e_st
  split
  · exact Nat.le_succ _
  · split
    · exact Nat.le_succ _
    · split
      · show m_used (f_cp V y _) y ≤ _
        rw [m_used, f_cp, x_g_i_p_i, if_pos ⟨rfl, rfl, rfl⟩, nI_clamp (by omega)]
        exact Nat.le_refl _
      · exact Nat.le_succ _
theorem b_e2 {V : gs_S} {y p : Nat} {own : Int32} : ∀ (k i a : Nat) (f : Nat → Nat → Nat → Int64), (f_e2 V y p own k i a f).1 ≤ a + k := by
  intro k
  induction k with
  | zero => intro i a f; exact Nat.le_refl _
  | succ k ih =>
    intro i a f
    unfold f_e2
    split
    · split
      · split
        · exact Nat.le_trans (ih _ _ _) (by omega)
        · exact Nat.le_trans (ih _ _ _) (by omega)
      · exact Nat.le_trans (ih _ _ _) (by omega)
    · exact Nat.le_trans (ih _ _ _) (by omega)
theorem x_re1 {T : gs_S} {y : Nat} (h : f_reM T y = 1) : m_prepared T y ≠ 0 := by
  intro z
  unfold f_reM at h
  rw [if_pos z] at h
  exact absurd h (by decide)

set_option maxHeartbeats 4000000 in
set_option maxRecDepth 100000 in
theorem lp_e2 (l : Launch) (G : gs_G) (S : gs_S) (V : gs_S) (y pp : Nat) (own : Int32) (f0 : Nat → Nat → Nat → Int64) (hV : m_t V) (hV0 : g_sh V y = some (.inl 3)) (hp1 : 1 ≤ pp) (hp60 : pp ≤ 60) (hcl : m_cells V y ≤ 200) (hua : m_used V y ≤ 59800) (haa : m_active V y < 256) (hfin : f_enM (m_0 S y) y = (1, e_fin V y pp (f_e2 V y pp own (m_cells V y) 0 0 f0))) {p : Program} {e : Env} {s : State} {m : MethodId} {below : List Frame} {meth : Method} {c : Code} (hC : CallFix p m c cM_enter 6 s #[va_rf (some y)] gU yM_enter.cls) (hr : meth.sig.returnType = some .int) (hlocks : meth.locks = false) :
    ∀ (k : Nat) (i at_ : Nat) (f : Nat → Nat → Nat → Int64), i + k = m_cells V y → at_ ≤ i → f_e2 V y pp own (m_cells V y) 0 0 f0 = f_e2 V y pp own k i at_ f → ∀ (ls : Array Slot), lv_has ls 6 [(5, .int (nI i)), (4, .int (nI at_)), (3, .int own), (2, .int (nI pp)), (0, va_rf (some y))] → ∀ (H : Heap) (locs : List Loc), g_W G (g_A S s.heap.size) s (p_AL V f) H locs → W p l e { frames := 1, cells := 0, slots := 0, locals := 23 } s m #[va_rf (some y)] below meth c H locs 0 0 (MQ below (g_Qi G S s.heap.size (fun r S' => r = (f_enM (m_0 S y) y).1 ∧ S' = (f_enM (m_0 S y) y).2)) #[va_rf (some y)] s 0 0 (g_A S s.heap.size)) (F0 m 201 ls []) := by
  obtain ⟨hx, hb, hml, hown, hts⟩ := id hC
  intro k
  induction k with
  | zero =>
    intro i at_  f  hi hat hf ls hl H locs hW
    refine lv_iload hx hb dM_enter_201 (lv_at hl 0 rfl) ?_
    refine s_aload_n (x := some y) hx hb dM_enter_203 rfl (lv_at hl 4 rfl) ?_
    refine s_geti hC hW gc_M iw_M 13 (by decide) uw_403 rfl hV0 (v := nI (m_cells V y)) (e_cells (S := V) hV hV0) dM_enter_204 ?_
    refine lv_icmp_ge (tgt := 282) hx hb dM_enter_207 (by decide) (fun c_207 => ?_) (fun c => absurd ((nI_leI (by omega) (by omega)).mpr (by omega)) c)
    refine s_aload_n (x := some y) hx hb dM_enter_282 rfl (lv_at hl 4 rfl) ?_
    refine lv_dup hx hb dM_enter_283 rfl ?_
    refine s_geti hC hW gc_M iw_M 17 (by decide) uw_407 rfl hV0 (v := nI (m_used V y)) (e_used (S := V) hV hV0) dM_enter_284 ?_
    refine lv_iload hx hb dM_enter_287 (lv_at hl 1 rfl) ?_
    refine lv_iadd hx hb dM_enter_289 ?_
    refine s_topi (nI_add _ _) ?_
    refine s_puti hC hW gc_M iw_M 17 (by decide) uw_407 (Or.inl rfl) rfl rfl rfl hV0 dM_enter_290 (fun H locs hW => ?_)
    refine s_aload_n (x := some y) hx hb dM_enter_293 rfl (lv_at hl 4 rfl) ?_
    obtain ⟨a_activeTimes, ea_activeTimes, sa_activeTimes⟩ := w_m_activeTimes hV hV0
    refine s_getr hC hW gc_M iw_M 6 (by decide) uw_396 rfl hV0 (v := some a_activeTimes) ea_activeTimes dM_enter_294 ?_
    refine lv_iload_n hx hb dM_enter_297 rfl (lv_at hl 3 rfl) ?_
    refine lv_dup2_11 hx hb dM_enter_298 rfl rfl ?_
    refine k_iald hC hW sa_activeTimes rfl rfl (by decide) pp rfl (by omega) (v := m_activeTimes V y pp) (e_activeTimes (S := V) ea_activeTimes) dM_enter_299 ?_
    refine lv_iconst (v := 1) hx hb dM_enter_300 (by decide) ?_
    refine lv_iadd hx hb dM_enter_301 ?_
    refine k_iast hC hW sa_activeTimes rfl rfl (by decide) pp rfl (by omega) dM_enter_302 (fun H locs hW => ?_)
    refine s_aload_n (x := some y) hx hb dM_enter_303 rfl (lv_at hl 4 rfl) ?_
    obtain ⟨a_data, ea_data, sa_data⟩ := w_m_data hV hV0
    refine s_getr hC hW gc_M iw_M 7 (by decide) uw_397 rfl hV0 (v := some a_data) ea_data dM_enter_304 ?_
    refine lv_iload_n hx hb dM_enter_307 rfl (lv_at hl 3 rfl) ?_
    refine lv_iconst (v := 1) hx hb dM_enter_308 (by decide) ?_
    refine k_zast hC hW sa_data rfl rfl (by decide) pp rfl (by omega) dM_enter_309 (fun H locs hW => ?_)
    refine s_aload_n (x := some y) hx hb dM_enter_310 rfl (lv_at hl 4 rfl) ?_
    refine lv_dup hx hb dM_enter_311 rfl ?_
    refine s_geti hC hW gc_M iw_M 22 (by decide) uw_412 rfl hV0 (v := nI (m_active V y)) (e_active (S := V) hV hV0) dM_enter_312 ?_
    refine lv_iconst (v := 1) hx hb dM_enter_315 (by decide) ?_
    refine lv_iadd hx hb dM_enter_316 ?_
    refine s_topi (nI_1 _) ?_
    refine s_puti hC hW gc_M iw_M 22 (by decide) uw_412 (Or.inl rfl) rfl rfl rfl hV0 dM_enter_317 (fun H locs hW => ?_)
    refine s_aload_n (x := some y) hx hb dM_enter_320 rfl (lv_at hl 4 rfl) ?_
    refine lv_iconst (v := 0) hx hb dM_enter_321 (by decide) ?_
    refine s_puti hC hW gc_M iw_M 23 (by decide) uw_413 (Or.inl rfl) rfl rfl rfl hV0 dM_enter_322 (fun H locs hW => ?_)
    refine s_aload_n (x := some y) hx hb dM_enter_325 rfl (lv_at hl 4 rfl) ?_
    refine lv_iconst (v := 0) hx hb dM_enter_326 (by decide) ?_
    refine s_puti hC hW gc_M iw_M 24 (by decide) uw_414 (Or.inl rfl) rfl rfl rfl hV0 dM_enter_327 (fun H locs hW => ?_)
    refine lv_iconst (v := 1) hx hb dM_enter_330 (by decide) ?_
    have e9 : e_fin V y pp (at_, f) = p_i (p_i (p_i (p_ai (p_ai (p_i (p_AL V f) 3 17 y (nI ((m_used V y) + at_))) 14 a_activeTimes pp ((m_activeTimes V y pp) + 1)) 15 a_data pp (vp_nar .boolean 1)) 3 22 y (nI ((m_active V y) + 1))) 3 23 y 0) 3 24 y 0 := by rw [e_fin, m_q, ea_activeTimes, v_a_s, m_q, ea_data, v_a_s]; rfl
    exact s_iret hC hr hlocks rfl hW dM_enter_331 ⟨by rw [hfin], by rw [hfin, hf, ← e9]; rfl⟩
  | succ k ih =>
    intro i at_  f  hi hat hf ls hl H locs hW
    refine lv_iload hx hb dM_enter_201 (lv_at hl 0 rfl) ?_
    refine s_aload_n (x := some y) hx hb dM_enter_203 rfl (lv_at hl 4 rfl) ?_
    refine s_geti hC hW gc_M iw_M 13 (by decide) uw_403 rfl hV0 (v := nI (m_cells V y)) (e_cells (S := V) hV hV0) dM_enter_204 ?_
    refine lv_icmp_ge (tgt := 282) hx hb dM_enter_207 (by decide) (fun c => absurd ((nI_leI (by omega) (by omega)).mp c) (by omega)) (fun c_207 => ?_)
    refine s_aload_n (x := some y) hx hb dM_enter_210 rfl (lv_at hl 4 rfl) ?_
    obtain ⟨a_owner, ea_owner, sa_owner⟩ := w_m_owner hV hV0
    refine s_getr hC hW gc_M iw_M 9 (by decide) uw_399 rfl hV0 (v := some a_owner) ea_owner dM_enter_211 ?_
    refine lv_iload hx hb dM_enter_214 (lv_at hl 0 rfl) ?_
    refine k_iald hC hW sa_owner rfl rfl (by decide) i rfl (by omega) (v := nI (m_owner V y i)) (e_owner (S := V) hV hV0 ea_owner (by omega)) dM_enter_216 ?_
    have h216 := b_owner hV hV0 (i := i) (by omega)
    refine lv_iload_n hx hb dM_enter_217 rfl (lv_at hl 3 rfl) ?_
    refine lv_icmp_eq (tgt := 224) hx hb dM_enter_218 (by decide) (fun c_218 => ?_) (fun c_218 => ?_)
    · skip
      refine lv_iload_n hx hb dM_enter_224 rfl (lv_at hl 2 rfl) ?_
      refine lv_if_eq (tgt := 253) hx hb dM_enter_225 (by decide) (fun c_225 => ?_) (fun c_225 => ?_)
      · skip
        refine s_aload_n (x := some y) hx hb dM_enter_253 rfl (lv_at hl 4 rfl) ?_
        refine lv_iload_n hx hb dM_enter_254 rfl (lv_at hl 3 rfl) ?_
        refine lv_iconst (v := 1) hx hb dM_enter_255 (by decide) ?_
        refine s_calli hW (s_runV (n := 2) (As := [.int (nI pp), .int 1]) (rest := []) hC (c_M_is l G (p_AL V f) H.size y pp 1 (mt_AL (f := f) hV) hV0 (by omega)) uc_M_is uw_523 uw_525 us_M_is uw_4 rfl rfl (by decide +kernel) ⟨by decide, by decide⟩ (g_preV hW gc_M hV0 [.int (nI pp), .int 1]) rfl hl.1 rfl (Nat.le_of_ble_eq_true rfl) dM_enter_256 ⟨Nat.le_of_ble_eq_true rfl, Nat.le_of_ble_eq_true rfl⟩) (fun q256 S256 H locs hp256 hW => ?_)
        obtain ⟨hs256, rfl⟩ := hp256
        replace hs256 := hs256.symm
        subst hs256
        refine lv_if_eq (tgt := 276) hx hb dM_enter_259 (by decide) (fun c_259 => ?_) (fun c_259 => ?_)
        · skip
          refine lv_iinc (v := nI (i + 1)) (lv' := [(5, .int (nI (i + 1))), (4, .int (nI at_)), (3, .int own), (2, .int (nI pp)), (0, va_rf (some y))]) hx hb dM_enter_276 hl (k := 0) rfl (nI_1 _) (by decide) rfl (fun ls hl => ?_)
          refine lv_goto (tgt := 201) hx hb dM_enter_279 (by decide) ?_
          exact ih (i + 1) at_ f (by omega) (by omega) (by rw [hf, f_e2, if_pos c_218, if_pos c_225, if_pos (show f_is V y pp 1 = 0 from c_259)]) ls (lv_sub hl [0, 1, 2, 3, 4] rfl) H locs hW
        · skip
          refine s_aload_n (x := some y) hx hb dM_enter_262 rfl (lv_at hl 4 rfl) ?_
          obtain ⟨a_memory, ea_memory, sa_memory⟩ := w_m_memory hV hV0
          refine s_getr hC hW gc_M iw_M 16 (by decide) uw_406 rfl hV0 (v := some a_memory) ea_memory dM_enter_263 ?_
          refine lv_iload hx hb dM_enter_266 (lv_at hl 0 rfl) ?_
          refine s_aload_n (x := some y) hx hb dM_enter_268 rfl (lv_at hl 4 rfl) ?_
          obtain ⟨a_first, ea_first, sa_first⟩ := w_m_first hV hV0
          refine s_getr hC hW gc_M iw_M 12 (by decide) uw_402 rfl hV0 (v := some a_first) ea_first dM_enter_269 ?_
          refine lv_iload hx hb dM_enter_272 (lv_at hl 0 rfl) ?_
          refine k_lald hC hW sa_first rfl rfl (by decide) i rfl (by omega) rfl dM_enter_274 ?_
          refine k_last hC hW sa_memory rfl rfl (by decide) i rfl (by omega) dM_enter_275 (fun H locs hW => ?_)
          refine lv_iinc (v := nI (i + 1)) (lv' := [(5, .int (nI (i + 1))), (4, .int (nI at_)), (3, .int own), (2, .int (nI pp)), (0, va_rf (some y))]) hx hb dM_enter_276 hl (k := 0) rfl (nI_1 _) (by decide) rfl (fun ls hl => ?_)
          refine lv_goto (tgt := 201) hx hb dM_enter_279 (by decide) ?_
          exact ih (i + 1) at_ (u_3 f 22 (m_q V y 16) i (f 19 (m_q V y 12) i)) (by omega) (by omega) (by rw [hf, f_e2, if_pos c_218, if_pos c_225, if_neg (show ¬ f_is V y pp 1 = 0 from c_259)]) ls (lv_sub hl [0, 1, 2, 3, 4] rfl) H locs (by rw [m_q, ea_memory, v_a_s, m_q, ea_first, v_a_s]; exact hW)
      · skip
        refine s_aload_n (x := some y) hx hb dM_enter_228 rfl (lv_at hl 4 rfl) ?_
        obtain ⟨a_memory, ea_memory, sa_memory⟩ := w_m_memory hV hV0
        refine s_getr hC hW gc_M iw_M 16 (by decide) uw_406 rfl hV0 (v := some a_memory) ea_memory dM_enter_229 ?_
        refine s_aload_n (x := some y) hx hb dM_enter_232 rfl (lv_at hl 4 rfl) ?_
        refine s_geti hC hW gc_M iw_M 17 (by decide) uw_407 rfl hV0 (v := nI (m_used V y)) (e_used (S := V) hV hV0) dM_enter_233 ?_
        refine lv_iload hx hb dM_enter_236 (lv_at hl 1 rfl) ?_
        refine lv_iadd hx hb dM_enter_238 ?_
        refine s_topi (nI_add _ _) ?_
        refine s_aload_n (x := some y) hx hb dM_enter_239 rfl (lv_at hl 4 rfl) ?_
        obtain ⟨a_first, ea_first, sa_first⟩ := w_m_first hV hV0
        refine s_getr hC hW gc_M iw_M 12 (by decide) uw_402 rfl hV0 (v := some a_first) ea_first dM_enter_240 ?_
        refine lv_iload hx hb dM_enter_243 (lv_at hl 0 rfl) ?_
        refine k_lald hC hW sa_first rfl rfl (by decide) i rfl (by omega) rfl dM_enter_245 ?_
        refine k_last hC hW sa_memory rfl rfl (by decide) ((m_used V y) + at_) rfl (by omega) dM_enter_246 (fun H locs hW => ?_)
        refine lv_iinc (v := nI (at_ + 1)) (lv' := [(4, .int (nI (at_ + 1))), (5, .int (nI i)), (3, .int own), (2, .int (nI pp)), (0, va_rf (some y))]) hx hb dM_enter_247 hl (k := 1) rfl (nI_1 _) (by decide) rfl (fun ls hl => ?_)
        refine lv_goto (tgt := 276) hx hb dM_enter_250 (by decide) ?_
        refine lv_iinc (v := nI (i + 1)) (lv' := [(5, .int (nI (i + 1))), (4, .int (nI (at_ + 1))), (3, .int own), (2, .int (nI pp)), (0, va_rf (some y))]) hx hb dM_enter_276 hl (k := 1) rfl (nI_1 _) (by decide) rfl (fun ls hl => ?_)
        refine lv_goto (tgt := 201) hx hb dM_enter_279 (by decide) ?_
        exact ih (i + 1) (at_ + 1) (u_3 f 22 (m_q V y 16) (m_used V y + at_) (f 19 (m_q V y 12) i)) (by omega) (by omega) (by rw [hf, f_e2, if_pos c_218, if_neg c_225]) ls (lv_sub hl [0, 1, 2, 3, 4] rfl) H locs (by rw [m_q, ea_memory, v_a_s, m_q, ea_first, v_a_s]; exact hW)
    · skip
      refine lv_goto (tgt := 276) hx hb dM_enter_221 (by decide) ?_
      refine lv_iinc (v := nI (i + 1)) (lv' := [(5, .int (nI (i + 1))), (4, .int (nI at_)), (3, .int own), (2, .int (nI pp)), (0, va_rf (some y))]) hx hb dM_enter_276 hl (k := 0) rfl (nI_1 _) (by decide) rfl (fun ls hl => ?_)
      refine lv_goto (tgt := 201) hx hb dM_enter_279 (by decide) ?_
      exact ih (i + 1) at_ f (by omega) (by omega) (by rw [hf, f_e2, if_neg c_218]) ls (lv_sub hl [0, 1, 2, 3, 4] rfl) H locs hW

set_option maxHeartbeats 4000000 in
set_option maxRecDepth 100000 in
theorem lp_e1 (l : Launch) (G : gs_G) (S : gs_S) (y pp a mf : Nat) (hp1 : 1 ≤ pp) (hp60 : pp ≤ 60) (ha : a < 256) (hmf : mf ≤ 16) (V0 : gs_S) (hfin : f_enM (m_0 S y) y = e_en (f_e1 y pp mf 0 V0) y pp) {p : Program} {e : Env} {s : State} {m : MethodId} {below : List Frame} {meth : Method} {c : Code} (hC : CallFix p m c cM_enter 6 s #[va_rf (some y)] gU yM_enter.cls) (hr : meth.sig.returnType = some .int) (hlocks : meth.locks = false) :
    ∀ (k : Nat) (i : Nat) (V : gs_S), i + k = mf → m_t V → g_sh V y = some (.inl 3) → m_active V y = a → m_manyFormals V y pp = mf → m_used V y + k ≤ 59800 → f_e1 y pp mf 0 V0 = f_e1 y pp k i V → ∀ (ls : Array Slot), lv_has ls 6 [(3, .int (nI i)), (2, .int (nI pp)), (0, va_rf (some y))] → ∀ (H : Heap) (locs : List Loc), g_W G (g_A S s.heap.size) s V H locs → W p l e { frames := 1, cells := 0, slots := 0, locals := 23 } s m #[va_rf (some y)] below meth c H locs 0 0 (MQ below (g_Qi G S s.heap.size (fun r S' => r = (f_enM (m_0 S y) y).1 ∧ S' = (f_enM (m_0 S y) y).2)) #[va_rf (some y)] s 0 0 (g_A S s.heap.size)) (F0 m 51 ls []) := by
  obtain ⟨hx, hb, hml, hown, hts⟩ := id hC
  intro k
  induction k with
  | zero =>
    intro i  V  hi hV hV0 hva hvm hvu hf ls hl H locs hW
    have h_arguments := b_arguments hV hV0
    refine lv_iload_n hx hb dM_enter_51 rfl (lv_at hl 0 rfl) ?_
    refine s_aload_n (x := some y) hx hb dM_enter_52 rfl (lv_at hl 2 rfl) ?_
    obtain ⟨a_manyFormals, ea_manyFormals, sa_manyFormals⟩ := w_m_manyFormals hV hV0
    refine s_getr hC hW gc_M iw_M 5 (by decide) uw_395 rfl hV0 (v := some a_manyFormals) ea_manyFormals dM_enter_53 ?_
    refine lv_iload_n hx hb dM_enter_56 rfl (lv_at hl 1 rfl) ?_
    refine k_iald hC hW sa_manyFormals rfl rfl (by decide) pp rfl (by omega) (v := nI (m_manyFormals V y pp)) (e_manyFormals (S := V) hV hV0 ea_manyFormals (by omega)) dM_enter_57 ?_
    have h57 := b_manyFormals hV hV0 (i := pp) (by omega)
    refine s_topi (congrArg nI hvm) ?_
    refine lv_icmp_ge (tgt := 175) hx hb dM_enter_58 (by decide) (fun c_58 => ?_) (fun c => absurd ((nI_leI (by omega) (by omega)).mpr (by omega)) c)
    refine s_aload_n (x := some y) hx hb dM_enter_175 rfl (lv_at hl 2 rfl) ?_
    obtain ⟨a_baseOf, ea_baseOf, sa_baseOf⟩ := w_m_baseOf hV hV0
    refine s_getr hC hW gc_M iw_M 19 (by decide) uw_409 rfl hV0 (v := some a_baseOf) ea_baseOf dM_enter_176 ?_
    refine s_aload_n (x := some y) hx hb dM_enter_179 rfl (lv_at hl 2 rfl) ?_
    refine s_geti hC hW gc_M iw_M 22 (by decide) uw_412 rfl hV0 (v := nI (m_active V y)) (e_active (S := V) hV hV0) dM_enter_180 ?_
    refine s_aload_n (x := some y) hx hb dM_enter_183 rfl (lv_at hl 2 rfl) ?_
    refine s_geti hC hW gc_M iw_M 17 (by decide) uw_407 rfl hV0 (v := nI (m_used V y)) (e_used (S := V) hV hV0) dM_enter_184 ?_
    refine k_iast hC hW sa_baseOf rfl rfl (by decide) (m_active V y) rfl (by omega) dM_enter_187 (fun H locs hW => ?_)
    have e2 : e_b V y = p_ai V 24 a_baseOf (m_active V y) (nI (m_used V y)) := by rw [e_b, m_q, ea_baseOf, v_a_s]
    have hW : g_W G (g_A S s.heap.size) s (e_b V y) H locs := by rw [e2]; exact hW
    have hB : m_t (e_b V y) := mt_pai hV (fun _ => ⟨_, rfl, hvu⟩)
    have hB0 : g_sh (e_b V y) y = some (.inl 3) := hV0
    refine s_aload_n (x := some y) hx hb dM_enter_188 rfl (lv_at hl 2 rfl) ?_
    refine lv_iload_n hx hb dM_enter_189 rfl (lv_at hl 1 rfl) ?_
    refine lv_iconst (v := 4) hx hb dM_enter_190 (by decide) ?_
    refine s_calli hW (s_runV (n := 2) (As := [.int (nI pp), .int 4]) (rest := []) hC (c_M_is l G (e_b V y) H.size y pp 4 hB hB0 (by omega)) uc_M_is uw_523 uw_525 us_M_is uw_4 rfl rfl (by decide +kernel) ⟨by decide, by decide⟩ (g_preV hW gc_M hB0 [.int (nI pp), .int 4]) rfl hl.1 rfl (Nat.le_of_ble_eq_true rfl) dM_enter_191 ⟨Nat.le_of_ble_eq_true rfl, Nat.le_of_ble_eq_true rfl⟩) (fun q191 S191 H locs hp191 hW => ?_)
    obtain ⟨hs191, rfl⟩ := hp191
    replace hs191 := hs191.symm
    subst hs191
    refine lv_topi (fun v_191 ev_191 => ?_)
    refine lv_istore_n (lv' := [(3, .int v_191), (2, .int (nI pp)), (0, va_rf (some y))]) hx hb dM_enter_194 rfl hl (by decide) rfl (fun ls hl => ?_)
    refine lv_iconst (v := 0) hx hb dM_enter_195 (by decide) ?_
    refine lv_istore (lv' := [(4, .int 0), (3, .int v_191), (2, .int (nI pp)), (0, va_rf (some y))]) hx hb dM_enter_196 hl (by decide) rfl (fun ls hl => ?_)
    refine lv_iconst (v := 0) hx hb dM_enter_198 (by decide) ?_
    refine lv_istore (lv' := [(5, .int 0), (4, .int 0), (3, .int v_191), (2, .int (nI pp)), (0, va_rf (some y))]) hx hb dM_enter_199 hl (by decide) rfl (fun ls hl => ?_)
    exact lp_e2 l G S (e_b V y) y pp v_191 (g_AL V) hB hB0 hp1 hp60 (b_cells hB hB0) hvu (show m_active V y < 256 by omega) (by rw [hfin, hf, ev_191]; rfl) hC hr hlocks (m_cells V y) 0 0 (g_AL V) (Nat.zero_add _) (Nat.le_refl _) rfl ls (lv_sub hl [0, 1, 2, 3, 4] rfl) _ _ hW
  | succ k ih =>
    intro i  V  hi hV hV0 hva hvm hvu hf ls hl H locs hW
    have h_arguments := b_arguments hV hV0
    refine lv_iload_n hx hb dM_enter_51 rfl (lv_at hl 0 rfl) ?_
    refine s_aload_n (x := some y) hx hb dM_enter_52 rfl (lv_at hl 2 rfl) ?_
    obtain ⟨a_manyFormals, ea_manyFormals, sa_manyFormals⟩ := w_m_manyFormals hV hV0
    refine s_getr hC hW gc_M iw_M 5 (by decide) uw_395 rfl hV0 (v := some a_manyFormals) ea_manyFormals dM_enter_53 ?_
    refine lv_iload_n hx hb dM_enter_56 rfl (lv_at hl 1 rfl) ?_
    refine k_iald hC hW sa_manyFormals rfl rfl (by decide) pp rfl (by omega) (v := nI (m_manyFormals V y pp)) (e_manyFormals (S := V) hV hV0 ea_manyFormals (by omega)) dM_enter_57 ?_
    have h57 := b_manyFormals hV hV0 (i := pp) (by omega)
    refine s_topi (congrArg nI hvm) ?_
    refine lv_icmp_ge (tgt := 175) hx hb dM_enter_58 (by decide) (fun c => absurd ((nI_leI (by omega) (by omega)).mp c) (by omega)) (fun c_58 => ?_)
    refine lv_iload_n hx hb dM_enter_61 rfl (lv_at hl 0 rfl) ?_
    refine s_aload_n (x := some y) hx hb dM_enter_62 rfl (lv_at hl 2 rfl) ?_
    refine s_geti hC hW gc_M iw_M 24 (by decide) uw_414 rfl hV0 (v := nI (m_arguments V y)) (e_arguments (S := V) hV hV0) dM_enter_63 ?_
    refine lv_icmp_ge (tgt := 83) hx hb dM_enter_66 (by decide) (fun c_66 => ?_) (fun c_66 => ?_)
    · skip
      refine lv_iconst (v := 0) hx hb dM_enter_83 (by decide) ?_
      refine lv_istore (lv' := [(4, .int 0), (3, .int (nI i)), (2, .int (nI pp)), (0, va_rf (some y))]) hx hb dM_enter_84 hl (by decide) rfl (fun ls hl => ?_)
      refine lv_iload hx hb dM_enter_86 (lv_at hl 0 rfl) ?_
      refine lv_if_eq (tgt := 114) hx hb dM_enter_88 (by decide) (fun c_88 => ?_) (fun c => absurd rfl c)
      refine lv_iconst (v := 0) hx hb dM_enter_114 (by decide) ?_
      refine lv_istore (lv' := [(5, .int 0), (4, .int 0), (3, .int (nI i)), (2, .int (nI pp)), (0, va_rf (some y))]) hx hb dM_enter_115 hl (by decide) rfl (fun ls hl => ?_)
      refine s_aload_n (x := some y) hx hb dM_enter_117 rfl (lv_at hl 4 rfl) ?_
      obtain ⟨a_placeOf, ea_placeOf, sa_placeOf⟩ := w_m_placeOf hV hV0
      refine s_getr hC hW gc_M iw_M 21 (by decide) uw_411 rfl hV0 (v := some a_placeOf) ea_placeOf dM_enter_118 ?_
      refine lv_bipush (v := 16) hx hb dM_enter_121 (by decide) ?_
      refine s_aload_n (x := some y) hx hb dM_enter_123 rfl (lv_at hl 4 rfl) ?_
      refine s_geti hC hW gc_M iw_M 22 (by decide) uw_412 rfl hV0 (v := nI (m_active V y)) (e_active (S := V) hV hV0) dM_enter_124 ?_
      refine lv_imul hx hb dM_enter_127 ?_
      refine s_topi (x_mul16 _) ?_
      refine lv_iload_n hx hb dM_enter_128 rfl (lv_at hl 2 rfl) ?_
      refine lv_iadd hx hb dM_enter_129 ?_
      refine s_topi (nI_add _ _) ?_
      refine lv_iload hx hb dM_enter_130 (lv_at hl 1 rfl) ?_
      refine lv_if_ne (tgt := 139) hx hb dM_enter_132 (by decide) (fun c => absurd rfl c) (fun c_132 => ?_)
      refine lv_iconst (v := (-1)) hx hb dM_enter_135 (by decide) ?_
      refine lv_goto (tgt := 168) hx hb dM_enter_136 (by decide) ?_
      refine k_iast hC hW sa_placeOf rfl rfl (by decide) ((16 * (m_active V y)) + i) rfl (by omega) dM_enter_168 (fun H locs hW => ?_)
      refine lv_iinc (v := nI (i + 1)) (lv' := [(3, .int (nI (i + 1))), (5, .int 0), (4, .int 0), (2, .int (nI pp)), (0, va_rf (some y))]) hx hb dM_enter_169 hl (k := 2) rfl (nI_1 _) (by decide) rfl (fun ls hl => ?_)
      refine lv_goto (tgt := 51) hx hb dM_enter_172 (by decide) ?_
      have eS : e_st V y pp i = p_ai V 26 a_placeOf ((16 * (m_active V y)) + i) (-1) := by rw [e_st, if_pos c_66, e_pl, m_q, ea_placeOf, v_a_s]
      exact ih (i + 1) (e_st V y pp i) (by omega) (mt_st hV hV0 (by omega) (by omega)) ((st_sh _ _ _ _ _).trans hV0) ((st_act _ _ _ _).trans hva) ((st_mf _ _ _ _ _).trans hvm) (by have := st_us V y pp i (by omega); omega) (by rw [hf, f_e1]) ls (lv_sub hl [0, 3, 4] rfl) H locs (by rw [eS]; exact hW)
    · skip
      refine s_aload_n (x := some y) hx hb dM_enter_69 rfl (lv_at hl 2 rfl) ?_
      obtain ⟨a_argument, ea_argument, sa_argument⟩ := w_m_argument hV hV0
      refine s_getr hC hW gc_M iw_M 26 (by decide) uw_416 rfl hV0 (v := some a_argument) ea_argument dM_enter_70 ?_
      refine lv_iload_n hx hb dM_enter_73 rfl (lv_at hl 0 rfl) ?_
      refine k_iald hC hW sa_argument rfl rfl (by decide) i rfl (by omega) (v := m_argument V y i) (e_argument (S := V) ea_argument) dM_enter_74 ?_
      refine lv_iconst (v := (-1)) hx hb dM_enter_75 (by decide) ?_
      refine lv_icmp_eq (tgt := 83) hx hb dM_enter_76 (by decide) (fun c_76 => ?_) (fun c_76 => ?_)
      · skip
        refine lv_iconst (v := 0) hx hb dM_enter_83 (by decide) ?_
        refine lv_istore (lv' := [(4, .int 0), (3, .int (nI i)), (2, .int (nI pp)), (0, va_rf (some y))]) hx hb dM_enter_84 hl (by decide) rfl (fun ls hl => ?_)
        refine lv_iload hx hb dM_enter_86 (lv_at hl 0 rfl) ?_
        refine lv_if_eq (tgt := 114) hx hb dM_enter_88 (by decide) (fun c_88 => ?_) (fun c => absurd rfl c)
        refine lv_iconst (v := 0) hx hb dM_enter_114 (by decide) ?_
        refine lv_istore (lv' := [(5, .int 0), (4, .int 0), (3, .int (nI i)), (2, .int (nI pp)), (0, va_rf (some y))]) hx hb dM_enter_115 hl (by decide) rfl (fun ls hl => ?_)
        refine s_aload_n (x := some y) hx hb dM_enter_117 rfl (lv_at hl 4 rfl) ?_
        obtain ⟨a_placeOf, ea_placeOf, sa_placeOf⟩ := w_m_placeOf hV hV0
        refine s_getr hC hW gc_M iw_M 21 (by decide) uw_411 rfl hV0 (v := some a_placeOf) ea_placeOf dM_enter_118 ?_
        refine lv_bipush (v := 16) hx hb dM_enter_121 (by decide) ?_
        refine s_aload_n (x := some y) hx hb dM_enter_123 rfl (lv_at hl 4 rfl) ?_
        refine s_geti hC hW gc_M iw_M 22 (by decide) uw_412 rfl hV0 (v := nI (m_active V y)) (e_active (S := V) hV hV0) dM_enter_124 ?_
        refine lv_imul hx hb dM_enter_127 ?_
        refine s_topi (x_mul16 _) ?_
        refine lv_iload_n hx hb dM_enter_128 rfl (lv_at hl 2 rfl) ?_
        refine lv_iadd hx hb dM_enter_129 ?_
        refine s_topi (nI_add _ _) ?_
        refine lv_iload hx hb dM_enter_130 (lv_at hl 1 rfl) ?_
        refine lv_if_ne (tgt := 139) hx hb dM_enter_132 (by decide) (fun c => absurd rfl c) (fun c_132 => ?_)
        refine lv_iconst (v := (-1)) hx hb dM_enter_135 (by decide) ?_
        refine lv_goto (tgt := 168) hx hb dM_enter_136 (by decide) ?_
        refine k_iast hC hW sa_placeOf rfl rfl (by decide) ((16 * (m_active V y)) + i) rfl (by omega) dM_enter_168 (fun H locs hW => ?_)
        refine lv_iinc (v := nI (i + 1)) (lv' := [(3, .int (nI (i + 1))), (5, .int 0), (4, .int 0), (2, .int (nI pp)), (0, va_rf (some y))]) hx hb dM_enter_169 hl (k := 2) rfl (nI_1 _) (by decide) rfl (fun ls hl => ?_)
        refine lv_goto (tgt := 51) hx hb dM_enter_172 (by decide) ?_
        have eS : e_st V y pp i = p_ai V 26 a_placeOf ((16 * (m_active V y)) + i) (-1) := by rw [e_st, if_neg c_66, if_pos c_76, e_pl, m_q, ea_placeOf, v_a_s]
        exact ih (i + 1) (e_st V y pp i) (by omega) (mt_st hV hV0 (by omega) (by omega)) ((st_sh _ _ _ _ _).trans hV0) ((st_act _ _ _ _).trans hva) ((st_mf _ _ _ _ _).trans hvm) (by have := st_us V y pp i (by omega); omega) (by rw [hf, f_e1]) ls (lv_sub hl [0, 3, 4] rfl) H locs (by rw [eS]; exact hW)
      · skip
        refine lv_iconst (v := 1) hx hb dM_enter_79 (by decide) ?_
        refine lv_goto (tgt := 84) hx hb dM_enter_80 (by decide) ?_
        refine lv_istore (lv' := [(4, .int 1), (3, .int (nI i)), (2, .int (nI pp)), (0, va_rf (some y))]) hx hb dM_enter_84 hl (by decide) rfl (fun ls hl => ?_)
        refine lv_iload hx hb dM_enter_86 (lv_at hl 0 rfl) ?_
        refine lv_if_eq (tgt := 114) hx hb dM_enter_88 (by decide) (fun c => absurd c (by decide)) (fun c_88 => ?_)
        obtain ⟨q, eq, hq⟩ := x_arg hV hV0 (show i < 16 by omega) c_76
        refine s_aload_n (x := some y) hx hb dM_enter_91 rfl (lv_at hl 3 rfl) ?_
        obtain ⟨a_how, ea_how, sa_how⟩ := w_m_how hV hV0
        refine s_getr hC hW gc_M iw_M 14 (by decide) uw_404 rfl hV0 (v := some a_how) ea_how dM_enter_92 ?_
        refine lv_bipush (v := 16) hx hb dM_enter_95 (by decide) ?_
        refine lv_iload_n hx hb dM_enter_97 rfl (lv_at hl 2 rfl) ?_
        refine lv_iconst (v := 1) hx hb dM_enter_98 (by decide) ?_
        refine lv_isub hx hb dM_enter_99 ?_
        refine s_topi (x_sub1 (by omega)) ?_
        refine lv_imul hx hb dM_enter_100 ?_
        refine s_topi (x_mul16 _) ?_
        refine lv_iload_n hx hb dM_enter_101 rfl (lv_at hl 1 rfl) ?_
        refine lv_iadd hx hb dM_enter_102 ?_
        refine s_topi (nI_add _ _) ?_
        refine k_iald hC hW sa_how rfl rfl (by decide) ((16 * (pp - 1)) + i) rfl (by omega) (v := m_how V y ((16 * (pp - 1)) + i)) (e_how (S := V) ea_how) dM_enter_103 ?_
        refine lv_iconst (v := 2) hx hb dM_enter_104 (by decide) ?_
        refine lv_irem hx hb dM_enter_105 (by decide) ?_
        refine lv_iconst (v := 1) hx hb dM_enter_106 (by decide) ?_
        refine lv_icmp_ne (tgt := 114) hx hb dM_enter_107 (by decide) (fun c_107 => ?_) (fun c_107 => ?_)
        · skip
          refine lv_iconst (v := 0) hx hb dM_enter_114 (by decide) ?_
          refine lv_istore (lv' := [(5, .int 0), (4, .int 1), (3, .int (nI i)), (2, .int (nI pp)), (0, va_rf (some y))]) hx hb dM_enter_115 hl (by decide) rfl (fun ls hl => ?_)
          refine s_aload_n (x := some y) hx hb dM_enter_117 rfl (lv_at hl 4 rfl) ?_
          obtain ⟨a_placeOf, ea_placeOf, sa_placeOf⟩ := w_m_placeOf hV hV0
          refine s_getr hC hW gc_M iw_M 21 (by decide) uw_411 rfl hV0 (v := some a_placeOf) ea_placeOf dM_enter_118 ?_
          refine lv_bipush (v := 16) hx hb dM_enter_121 (by decide) ?_
          refine s_aload_n (x := some y) hx hb dM_enter_123 rfl (lv_at hl 4 rfl) ?_
          refine s_geti hC hW gc_M iw_M 22 (by decide) uw_412 rfl hV0 (v := nI (m_active V y)) (e_active (S := V) hV hV0) dM_enter_124 ?_
          refine lv_imul hx hb dM_enter_127 ?_
          refine s_topi (x_mul16 _) ?_
          refine lv_iload_n hx hb dM_enter_128 rfl (lv_at hl 2 rfl) ?_
          refine lv_iadd hx hb dM_enter_129 ?_
          refine s_topi (nI_add _ _) ?_
          refine lv_iload hx hb dM_enter_130 (lv_at hl 1 rfl) ?_
          refine lv_if_ne (tgt := 139) hx hb dM_enter_132 (by decide) (fun c_132 => ?_) (fun c => absurd c (by decide))
          refine lv_iload hx hb dM_enter_139 (lv_at hl 0 rfl) ?_
          refine lv_if_eq (tgt := 162) hx hb dM_enter_141 (by decide) (fun c_141 => ?_) (fun c => absurd rfl c)
          refine s_aload_n (x := some y) hx hb dM_enter_162 rfl (lv_at hl 4 rfl) ?_
          refine s_getr hC hW gc_M iw_M 26 (by decide) uw_416 rfl hV0 (v := some a_argument) ea_argument dM_enter_163 ?_
          refine lv_iload_n hx hb dM_enter_166 rfl (lv_at hl 2 rfl) ?_
          refine k_iald hC hW sa_argument rfl rfl (by decide) i rfl (by omega) (v := m_argument V y i) (e_argument (S := V) ea_argument) dM_enter_167 ?_
          refine k_iast hC hW sa_placeOf rfl rfl (by decide) ((16 * (m_active V y)) + i) rfl (by omega) dM_enter_168 (fun H locs hW => ?_)
          refine lv_iinc (v := nI (i + 1)) (lv' := [(3, .int (nI (i + 1))), (5, .int 0), (4, .int 1), (2, .int (nI pp)), (0, va_rf (some y))]) hx hb dM_enter_169 hl (k := 2) rfl (nI_1 _) (by decide) rfl (fun ls hl => ?_)
          refine lv_goto (tgt := 51) hx hb dM_enter_172 (by decide) ?_
          have eS : e_st V y pp i = p_ai V 26 a_placeOf ((16 * (m_active V y)) + i) (m_argument V y i) := by rw [e_st, if_neg c_66, if_neg c_76, if_neg (show ¬ e_od V y pp i = 1 from c_107), e_pl, m_q, ea_placeOf, v_a_s]
          exact ih (i + 1) (e_st V y pp i) (by omega) (mt_st hV hV0 (by omega) (by omega)) ((st_sh _ _ _ _ _).trans hV0) ((st_act _ _ _ _).trans hva) ((st_mf _ _ _ _ _).trans hvm) (by have := st_us V y pp i (by omega); omega) (by rw [hf, f_e1]) ls (lv_sub hl [0, 3, 4] rfl) H locs (by rw [eS]; exact hW)
        · skip
          refine lv_iconst (v := 1) hx hb dM_enter_110 (by decide) ?_
          refine lv_goto (tgt := 115) hx hb dM_enter_111 (by decide) ?_
          refine lv_istore (lv' := [(5, .int 1), (4, .int 1), (3, .int (nI i)), (2, .int (nI pp)), (0, va_rf (some y))]) hx hb dM_enter_115 hl (by decide) rfl (fun ls hl => ?_)
          refine s_aload_n (x := some y) hx hb dM_enter_117 rfl (lv_at hl 4 rfl) ?_
          obtain ⟨a_placeOf, ea_placeOf, sa_placeOf⟩ := w_m_placeOf hV hV0
          refine s_getr hC hW gc_M iw_M 21 (by decide) uw_411 rfl hV0 (v := some a_placeOf) ea_placeOf dM_enter_118 ?_
          refine lv_bipush (v := 16) hx hb dM_enter_121 (by decide) ?_
          refine s_aload_n (x := some y) hx hb dM_enter_123 rfl (lv_at hl 4 rfl) ?_
          refine s_geti hC hW gc_M iw_M 22 (by decide) uw_412 rfl hV0 (v := nI (m_active V y)) (e_active (S := V) hV hV0) dM_enter_124 ?_
          refine lv_imul hx hb dM_enter_127 ?_
          refine s_topi (x_mul16 _) ?_
          refine lv_iload_n hx hb dM_enter_128 rfl (lv_at hl 2 rfl) ?_
          refine lv_iadd hx hb dM_enter_129 ?_
          refine s_topi (nI_add _ _) ?_
          refine lv_iload hx hb dM_enter_130 (lv_at hl 1 rfl) ?_
          refine lv_if_ne (tgt := 139) hx hb dM_enter_132 (by decide) (fun c_132 => ?_) (fun c => absurd c (by decide))
          refine lv_iload hx hb dM_enter_139 (lv_at hl 0 rfl) ?_
          refine lv_if_eq (tgt := 162) hx hb dM_enter_141 (by decide) (fun c => absurd c (by decide)) (fun c_141 => ?_)
          refine s_aload_n (x := some y) hx hb dM_enter_144 rfl (lv_at hl 4 rfl) ?_
          refine s_aload_n (x := some y) hx hb dM_enter_145 rfl (lv_at hl 4 rfl) ?_
          obtain ⟨a_memory, ea_memory, sa_memory⟩ := w_m_memory hV hV0
          refine s_getr hC hW gc_M iw_M 16 (by decide) uw_406 rfl hV0 (v := some a_memory) ea_memory dM_enter_146 ?_
          refine s_aload_n (x := some y) hx hb dM_enter_149 rfl (lv_at hl 4 rfl) ?_
          refine s_getr hC hW gc_M iw_M 26 (by decide) uw_416 rfl hV0 (v := some a_argument) ea_argument dM_enter_150 ?_
          refine lv_iload_n hx hb dM_enter_153 rfl (lv_at hl 2 rfl) ?_
          refine k_iald hC hW sa_argument rfl rfl (by decide) i rfl (by omega) (v := m_argument V y i) (e_argument (S := V) ea_argument) dM_enter_154 ?_
          refine k_lald hC hW sa_memory rfl rfl (by decide) q eq hq (v := m_memory V y q) (e_memory (S := V) ea_memory) dM_enter_155 ?_
          refine s_calli hW (s_runV (n := 1) (As := [.long (m_memory V y q)]) (rest := [.int (nI ((16 * (m_active V y)) + i)), va_rf (some a_placeOf)]) hC (c_M_copy l G V H.size y (m_memory V y q) hV hV0 (by omega)) uc_M_copy uw_566 uw_568 us_M_copy uw_4 rfl rfl (by decide +kernel) ⟨by decide, by decide⟩ (g_preV hW gc_M hV0 [.long (m_memory V y q)]) rfl hl.1 rfl (Nat.le_of_ble_eq_true rfl) dM_enter_156 ⟨Nat.le_of_ble_eq_true rfl, Nat.le_of_ble_eq_true rfl⟩) (fun q156 S156 H locs hp156 hW => ?_)
          obtain ⟨eq156, hS156⟩ := hp156
          subst hS156
          subst eq156
          refine lv_goto (tgt := 168) hx hb dM_enter_159 (by decide) ?_
          refine k_iast hC hW sa_placeOf rfl rfl (by decide) ((16 * (m_active V y)) + i) rfl (by omega) dM_enter_168 (fun H locs hW => ?_)
          refine lv_iinc (v := nI (i + 1)) (lv' := [(3, .int (nI (i + 1))), (5, .int 1), (4, .int 1), (2, .int (nI pp)), (0, va_rf (some y))]) hx hb dM_enter_169 hl (k := 2) rfl (nI_1 _) (by decide) rfl (fun ls hl => ?_)
          refine lv_goto (tgt := 51) hx hb dM_enter_172 (by decide) ?_
          have eS : e_st V y pp i = p_ai (f_cp V y (m_memory V y q)) 26 a_placeOf ((16 * (m_active V y)) + i) (nI (m_used V y)) := by rw [e_st, if_neg c_66, if_neg c_76, if_pos (show e_od V y pp i = 1 from c_107), e_pl, eq, nI_clamp (by omega), show m_q (f_cp V y (m_memory V y q)) y 21 = a_placeOf from (by show v_a (g_r V 3 21 y) = _; rw [ea_placeOf, v_a_s])]; rfl
          exact ih (i + 1) (e_st V y pp i) (by omega) (mt_st hV hV0 (by omega) (by omega)) ((st_sh _ _ _ _ _).trans hV0) ((st_act _ _ _ _).trans hva) ((st_mf _ _ _ _ _).trans hvm) (by have := st_us V y pp i (by omega); omega) (by rw [hf, f_e1]) ls (lv_sub hl [0, 3, 4] rfl) H locs (by rw [eS]; exact hW)

set_option maxHeartbeats 4000000 in
set_option maxRecDepth 100000 in
theorem c_M_enter (l : Launch) (G : gs_G) (S : gs_S) (sz : Nat) (y : Nat) (hM : m_t S) (hY : g_sh S y = some (.inl 3)) (hact : m_active S y < 256) (hus : m_used S y + 16 ≤ 59800) : Met l yM_enter (kM_enter :: gU) { frames := 1, cells := 0, slots := 0, locals := 23 } (g_Pc G S sz [va_rf (some y)]) (g_Qi G S sz (fun r S' => r = (f_enM (m_0 S y) y).1 ∧ S' = (f_enM (m_0 S y) y).2)) 0 0 (g_A S sz) := by
  refine s_head (by decide) (Nat.le_of_ble_eq_true rfl) ?_
  intro p e s m below meth c ls hsz hC hr hlocks hnm hl hW
  subst hsz
  obtain ⟨hx, hb, hml, hown, hts⟩ := id hC
  have hl : lv_has ls 6 [(0, va_rf (some y))] := hl
  refine s_aload_n (x := some y) hx hb dM_enter_0 rfl (lv_at hl 0 rfl) ?_
  refine lv_iconst (v := 0) hx hb dM_enter_1 (by decide) ?_
  refine s_puti hC hW gc_M iw_M 0 (by decide) uw_390 (Or.inl rfl) rfl rfl rfl hY dM_enter_2 (fun H locs hW => ?_)
  have hT : m_t (m_0 S y) := mt_0 hM
  have hT0 : g_sh (m_0 S y) y = some (.inl 3) := hY
  have hW : g_W G (g_A S s.heap.size) s (m_0 S y) H locs := hW
  have h_programs := b_programs hT hT0
  have h_cells := b_cells hT hT0
  have h_active := b_active hT hT0
  have h_prepared := b_prepared hT hT0
  have h_arguments := b_arguments hT hT0
  have h_used := b_used hT hT0
  have h_preparedAhead := b_preparedAhead hT hT0
  refine s_aload_n (x := some y) hx hb dM_enter_5 rfl (lv_at hl 0 rfl) ?_
  refine s_calli hW (s_runV (n := 0) (As := []) (rest := []) hC (c_M_refusal l G (m_0 S y) H.size y hT hT0) uc_M_refusal uw_574 uw_576 us_M_refusal uw_4 rfl rfl (by decide +kernel) ⟨by decide, by decide⟩ (g_preV hW gc_M hT0 []) rfl hl.1 rfl (Nat.le_of_ble_eq_true rfl) dM_enter_6 ⟨Nat.le_of_ble_eq_true rfl, Nat.le_of_ble_eq_true rfl⟩) (fun q6 S6 H locs hp6 hW => ?_)
  obtain ⟨hs6, rfl⟩ := hp6
  replace hs6 := hs6.symm
  subst hs6
  refine lv_topi (fun v_9 ev_9 => ?_)
  refine lv_istore_n (lv' := [(1, .int v_9), (0, va_rf (some y))]) hx hb dM_enter_9 rfl hl (by decide) rfl (fun ls hl => ?_)
  refine lv_iload_n hx hb dM_enter_10 rfl (lv_at hl 0 rfl) ?_
  refine lv_iconst (v := 1) hx hb dM_enter_11 (by decide) ?_
  refine lv_icmp_eq (tgt := 21) hx hb dM_enter_12 (by decide) (fun c_12 => ?_) (fun c_12 => ?_)
  · skip
    have hre : f_reM (m_0 S y) y = 1 := ev_9.symm.trans c_12
    have hp0 := x_re1 hre
    have hmf := b_manyFormals (i := m_prepared (m_0 S y) y) hT hT0 (by omega)
    have hact0 : m_active (m_0 S y) y < 256 := hact
    have hus0 : m_used (m_0 S y) y + 16 ≤ 59800 := hus
    refine s_aload_n (x := some y) hx hb dM_enter_21 rfl (lv_at hl 1 rfl) ?_
    refine s_geti hC hW gc_M iw_M 23 (by decide) uw_413 rfl hT0 (v := nI (m_prepared (m_0 S y) y)) (e_prepared (S := m_0 S y) hT hT0) dM_enter_22 ?_
    refine lv_istore_n (lv' := [(2, .int (nI (m_prepared (m_0 S y) y))), (1, .int v_9), (0, va_rf (some y))]) hx hb dM_enter_25 rfl hl (by decide) rfl (fun ls hl => ?_)
    refine s_aload_n (x := some y) hx hb dM_enter_26 rfl (lv_at hl 2 rfl) ?_
    obtain ⟨a_callOf, ea_callOf, sa_callOf⟩ := w_m_callOf hT hT0
    refine s_getr hC hW gc_M iw_M 18 (by decide) uw_408 rfl hT0 (v := some a_callOf) ea_callOf dM_enter_27 ?_
    refine s_aload_n (x := some y) hx hb dM_enter_30 rfl (lv_at hl 2 rfl) ?_
    refine s_geti hC hW gc_M iw_M 22 (by decide) uw_412 rfl hT0 (v := nI (m_active (m_0 S y) y)) (e_active (S := m_0 S y) hT hT0) dM_enter_31 ?_
    refine lv_iload_n hx hb dM_enter_34 rfl (lv_at hl 0 rfl) ?_
    refine k_iast hC hW sa_callOf rfl rfl (by decide) (m_active (m_0 S y) y) rfl (by omega) dM_enter_35 (fun H locs hW => ?_)
    refine s_aload_n (x := some y) hx hb dM_enter_36 rfl (lv_at hl 2 rfl) ?_
    obtain ⟨a_usedAhead, ea_usedAhead, sa_usedAhead⟩ := w_m_usedAhead hT hT0
    refine s_getr hC hW gc_M iw_M 20 (by decide) uw_410 rfl hT0 (v := some a_usedAhead) ea_usedAhead dM_enter_37 ?_
    refine s_aload_n (x := some y) hx hb dM_enter_40 rfl (lv_at hl 2 rfl) ?_
    refine s_geti hC hW gc_M iw_M 22 (by decide) uw_412 rfl hT0 (v := nI (m_active (m_0 S y) y)) (e_active (S := m_0 S y) hT hT0) dM_enter_41 ?_
    refine s_aload_n (x := some y) hx hb dM_enter_44 rfl (lv_at hl 2 rfl) ?_
    refine s_geti hC hW gc_M iw_M 25 (by decide) uw_415 rfl hT0 (v := nI (m_preparedAhead (m_0 S y) y)) (e_preparedAhead (S := m_0 S y) hT hT0) dM_enter_45 ?_
    refine k_iast hC hW sa_usedAhead rfl rfl (by decide) (m_active (m_0 S y) y) rfl (by omega) dM_enter_48 (fun H locs hW => ?_)
    refine lv_iconst (v := 0) hx hb dM_enter_49 (by decide) ?_
    refine lv_istore_n (lv' := [(3, .int 0), (2, .int (nI (m_prepared (m_0 S y) y))), (1, .int v_9), (0, va_rf (some y))]) hx hb dM_enter_50 rfl hl (by decide) rfl (fun ls hl => ?_)
    have e1 : e_T1 (m_0 S y) y = p_ai (p_ai (m_0 S y) 23 a_callOf (m_active (m_0 S y) y) (nI (m_prepared (m_0 S y) y))) 25 a_usedAhead (m_active (m_0 S y) y) (nI (m_preparedAhead (m_0 S y) y)) := by rw [e_T1, m_q, ea_callOf, v_a_s, m_q, ea_usedAhead, v_a_s]
    have h1 : m_t (e_T1 (m_0 S y) y) := mt_pai (mt_pai hT (fun _ => ⟨_, rfl, h_prepared⟩)) (fun _ => ⟨_, rfl, h_preparedAhead⟩)
    exact lp_e1 l G S y (m_prepared (m_0 S y) y) (m_active (m_0 S y) y) (m_manyFormals (m_0 S y) y (m_prepared (m_0 S y) y)) (by omega) h_prepared hact0 hmf (e_T1 (m_0 S y) y) (by rw [f_enM, if_pos hre]) hC hr hlocks (m_manyFormals (m_0 S y) y (m_prepared (m_0 S y) y)) 0 (e_T1 (m_0 S y) y) (Nat.zero_add _) h1 hT0 rfl rfl (show m_used (m_0 S y) y + _ ≤ 59800 by omega) rfl ls (lv_sub hl [0, 1, 3] rfl) _ _ (by rw [e1]; exact hW)
  · skip
    refine s_aload_n (x := some y) hx hb dM_enter_15 rfl (lv_at hl 1 rfl) ?_
    refine s_callv hW (s_runV (n := 0) (As := []) (rest := []) hC (c_M_unprepare l G (m_0 S y) H.size y hT hT0) uc_M_unprepare uw_550 uw_552 us_M_unprepare uw_4 rfl rfl (by decide +kernel) ⟨by decide, by decide⟩ (g_preV hW gc_M hT0 []) rfl hl.1 rfl (Nat.le_of_ble_eq_true rfl) dM_enter_16 ⟨Nat.le_of_ble_eq_true rfl, Nat.le_of_ble_eq_true rfl⟩) (fun S16 H locs hp16 hW => ?_)
    subst hp16
    have hU16 := mt_un hT hT0
    have sU16 := (f_un_sh (m_0 S y) y y).trans hT0
    refine lv_iload_n hx hb dM_enter_19 rfl (lv_at hl 0 rfl) ?_
    exact s_iret hC hr hlocks rfl hW dM_enter_20 ⟨by rw [f_enM, if_neg (fun z => c_12 (ev_9.trans z)), ← ev_9], by rw [f_enM, if_neg (fun z => c_12 (ev_9.trans z)), ← ev_9]⟩
