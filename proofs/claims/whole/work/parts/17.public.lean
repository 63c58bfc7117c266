theorem v_a_s (b : Nat) : v_a (some b) = b := rfl
/-! R.cell -/
def f_cell (S : gs_S) (x : Nat) (p : Int32) (v : Int64) : Int32 × gs_S := match f_pOf S x p with
  | none => (-2, S)
  | some a => if g_i S 2 9 x ≤ 0 then f_newCell S x (some a) v else (-4, S)

set_option maxHeartbeats 4000000 in
set_option maxRecDepth 100000 in
theorem c_R_cell (l : Launch) (G : gs_G) (S : gs_S) (sz : Nat) (x : Nat) (p0 : Int32) (v : Int64) (hWT : w_t S) (hX : g_sh S x = some (.inl 2)) : Met l yR_cell (kR_cell :: gU) { frames := 3, cells := 0, slots := 0, locals := 66 } (g_Pc G S sz [va_rf (some x), .int p0, .long v]) (g_Qi G S sz (fun r S' => r = (f_cell S x p0 v).1 ∧ S' = (f_cell S x p0 v).2)) 0 0 (g_A S sz) := by
  refine s_head (by decide) (Nat.le_of_ble_eq_true rfl) ?_
  intro p e s m below meth c ls hsz hC hr hlocks hnm hl hW
  subst hsz
  obtain ⟨hx, hb, hml, hown, hts⟩ := id hC
  have hl : lv_has ls 5 [(0, va_rf (some x)), (1, .int p0), (2, .long v)] := hl
  refine s_aload_n (x := some x) hx hb dR_cell_0 rfl (lv_at hl 0 rfl) ?_
  refine lv_iload_n hx hb dR_cell_1 rfl (lv_at hl 1 rfl) ?_
  refine s_callq hW (s_runV (n := 1) (As := [.int p0]) (rest := []) hC (c_R_programOf l G S s.heap.size x p0 hWT hX) uc_R_programOf uw_113 uw_115 us_R_programOf uw_1 rfl rfl (by decide +kernel) ⟨by decide, by decide⟩ (g_preV hW gc_R hX [.int p0]) rfl hl.1 rfl (Nat.le_of_ble_eq_true rfl) dR_cell_2 ⟨Nat.le_of_ble_eq_true rfl, Nat.le_of_ble_eq_true rfl⟩) (fun rq2 S2 H locs hp2 hW => ?_)
  obtain ⟨hs2, erq2⟩ := hp2
  replace hs2 := hs2.symm
  subst hs2
  refine s_astore (x := rq2) (lv' := [(4, va_rf rq2), (0, va_rf (some x)), (1, .int p0), (2, .long v)]) hx hb dR_cell_5 hl (by decide) rfl (fun ls hl => ?_)
  refine s_aload (x := rq2) hx hb dR_cell_7 (lv_at hl 0 rfl) ?_
  refine s_ifnonnull (x := rq2) (tgt := 15) hx hb dR_cell_9 (by decide) (fun b_9 c_9 => ?_) (fun c_9 => ?_)
  · skip
    subst c_9
    have sb_9 := t_pOf hWT hX _ erq2.symm
    refine s_aload_n (x := some x) hx hb dR_cell_15 rfl (lv_at hl 1 rfl) ?_
    refine s_geti hC hW gc_R iw_R 9 (by decide) uw_81 rfl hX rfl dR_cell_16 ?_
    refine lv_if_le (tgt := 25) hx hb dR_cell_19 (by decide) (fun c_19 => ?_) (fun c_19 => ?_)
    · skip
      refine s_aload_n (x := some x) hx hb dR_cell_25 rfl (lv_at hl 1 rfl) ?_
      refine s_aload (x := some b_9) hx hb dR_cell_26 (lv_at hl 0 rfl) ?_
      refine lv_lload_n hx hb dR_cell_28 rfl (lv_at hl 3 rfl) ?_
      refine s_calli hW (s_runV (n := 2) (As := [va_rf (some b_9), .long v]) (rest := []) hC (c_R_newCell l G S H.size x (some b_9) v hWT hX (fun _ q => by cases q; exact sb_9)) uc_R_newCell uw_166 uw_168 us_R_newCell uw_1 rfl rfl (by decide +kernel) ⟨by decide, by decide⟩ (g_preV hW gc_R hX [va_rf (some b_9), .long v]) rfl hl.1 rfl (Nat.le_of_ble_eq_true rfl) dR_cell_29 ⟨Nat.le_of_ble_eq_true rfl, Nat.le_of_ble_eq_true rfl⟩) (fun q29 S29 H locs hp29 hW => ?_)
      obtain ⟨eq29, hS29⟩ := hp29
      subst hS29
      subst eq29
      exact s_iret hC hr hlocks rfl hW dR_cell_32 ⟨by rw [f_cell, ← erq2]; simp only []; rw [if_pos c_19], by rw [f_cell, ← erq2]; simp only []; rw [if_pos c_19]⟩
    · skip
      refine lv_bipush (v := (-4)) hx hb dR_cell_22 (by decide) ?_
      exact s_iret hC hr hlocks rfl hW dR_cell_24 ⟨by rw [f_cell, ← erq2]; simp only []; rw [if_neg c_19], by rw [f_cell, ← erq2]; simp only []; rw [if_neg c_19]⟩
  · skip
    subst c_9
    refine lv_bipush (v := (-2)) hx hb dR_cell_12 (by decide) ?_
    exact s_iret hC hr hlocks rfl hW dR_cell_14 ⟨by rw [f_cell, ← erq2], by rw [f_cell, ← erq2]⟩

/-! R.formal -/
def f_formal (S : gs_S) (x : Nat) (p how size : Int32) : Int32 × gs_S := match f_pOf S x p with
  | none => (-2, S)
  | some a => if how < 0 then (-2, S) else if 3 < how then (-2, S) else if size < 1 then (-2, S) else if size ≤ 8 then
      (if g_i S 2 9 x ≤ 0 then (if g_i S 1 6 a < 16 then (g_i S 1 6 a, p_i (p_ai (p_ai S 4 (v_a (g_r S 1 4 a)) (g_i S 1 6 a).toNatClampNeg how) 5 (v_a (g_r S 1 5 a)) (g_i S 1 6 a).toNatClampNeg size) 1 6 a (g_i S 1 6 a + 1)) else (-1, S)) else (-4, S))
    else (-2, S)

set_option maxHeartbeats 4000000 in
set_option maxRecDepth 100000 in
theorem c_R_formal (l : Launch) (G : gs_G) (S : gs_S) (sz : Nat) (x : Nat) (p0 how size : Int32) (hWT : w_t S) (hX : g_sh S x = some (.inl 2)) : Met l yR_formal (kR_formal :: gU) { frames := 1, cells := 0, slots := 0, locals := 21 } (g_Pc G S sz [va_rf (some x), .int p0, .int how, .int size]) (g_Qi G S sz (fun r S' => r = (f_formal S x p0 how size).1 ∧ S' = (f_formal S x p0 how size).2)) 0 0 (g_A S sz) := by
  refine s_head (by decide) (Nat.le_of_ble_eq_true rfl) ?_
  intro p e s m below meth c ls hsz hC hr hlocks hnm hl hW
  subst hsz
  obtain ⟨hx, hb, hml, hown, hts⟩ := id hC
  have hl : lv_has ls 5 [(0, va_rf (some x)), (1, .int p0), (2, .int how), (3, .int size)] := hl
  refine s_aload_n (x := some x) hx hb dR_formal_0 rfl (lv_at hl 0 rfl) ?_
  refine lv_iload_n hx hb dR_formal_1 rfl (lv_at hl 1 rfl) ?_
  refine s_callq hW (s_runV (n := 1) (As := [.int p0]) (rest := []) hC (c_R_programOf l G S s.heap.size x p0 hWT hX) uc_R_programOf uw_113 uw_115 us_R_programOf uw_1 rfl rfl (by decide +kernel) ⟨by decide, by decide⟩ (g_preV hW gc_R hX [.int p0]) rfl hl.1 rfl (Nat.le_of_ble_eq_true rfl) dR_formal_2 ⟨Nat.le_of_ble_eq_true rfl, Nat.le_of_ble_eq_true rfl⟩) (fun rq2 S2 H locs hp2 hW => ?_)
  obtain ⟨hs2, erq2⟩ := hp2
  replace hs2 := hs2.symm
  subst hs2
  refine s_astore (x := rq2) (lv' := [(4, va_rf rq2), (0, va_rf (some x)), (1, .int p0), (2, .int how), (3, .int size)]) hx hb dR_formal_5 hl (by decide) rfl (fun ls hl => ?_)
  refine s_aload (x := rq2) hx hb dR_formal_7 (lv_at hl 0 rfl) ?_
  refine s_ifnull (x := rq2) (tgt := 32) hx hb dR_formal_9 (by decide) (fun c_9 => ?_) (fun b_9 c_9 => ?_)
  · skip
    subst c_9
    refine lv_bipush (v := (-2)) hx hb dR_formal_32 (by decide) ?_
    exact s_iret hC hr hlocks rfl hW dR_formal_34 ⟨by rw [f_formal, ← erq2], by rw [f_formal, ← erq2]⟩
  · skip
    subst c_9
    have sb_9 := t_pOf hWT hX _ erq2.symm
    refine lv_iload_n hx hb dR_formal_12 rfl (lv_at hl 3 rfl) ?_
    refine lv_if_lt (tgt := 32) hx hb dR_formal_13 (by decide) (fun c_13 => ?_) (fun c_13 => ?_)
    · skip
      refine lv_bipush (v := (-2)) hx hb dR_formal_32 (by decide) ?_
      exact s_iret hC hr hlocks rfl hW dR_formal_34 ⟨by rw [f_formal, ← erq2]; simp only []; rw [if_pos c_13], by rw [f_formal, ← erq2]; simp only []; rw [if_pos c_13]⟩
    · skip
      refine lv_iload_n hx hb dR_formal_16 rfl (lv_at hl 3 rfl) ?_
      refine lv_iconst (v := 3) hx hb dR_formal_17 (by decide) ?_
      refine lv_icmp_gt (tgt := 32) hx hb dR_formal_18 (by decide) (fun c_18 => ?_) (fun c_18 => ?_)
      · skip
        refine lv_bipush (v := (-2)) hx hb dR_formal_32 (by decide) ?_
        exact s_iret hC hr hlocks rfl hW dR_formal_34 ⟨by rw [f_formal, ← erq2]; simp only []; rw [if_neg c_13, if_pos c_18], by rw [f_formal, ← erq2]; simp only []; rw [if_neg c_13, if_pos c_18]⟩
      · skip
        refine lv_iload_n hx hb dR_formal_21 rfl (lv_at hl 4 rfl) ?_
        refine lv_iconst (v := 1) hx hb dR_formal_22 (by decide) ?_
        refine lv_icmp_lt (tgt := 32) hx hb dR_formal_23 (by decide) (fun c_23 => ?_) (fun c_23 => ?_)
        · skip
          refine lv_bipush (v := (-2)) hx hb dR_formal_32 (by decide) ?_
          exact s_iret hC hr hlocks rfl hW dR_formal_34 ⟨by rw [f_formal, ← erq2]; simp only []; rw [if_neg c_13, if_neg c_18, if_pos c_23], by rw [f_formal, ← erq2]; simp only []; rw [if_neg c_13, if_neg c_18, if_pos c_23]⟩
        · skip
          refine lv_iload_n hx hb dR_formal_26 rfl (lv_at hl 4 rfl) ?_
          refine lv_bipush (v := 8) hx hb dR_formal_27 (by decide) ?_
          refine lv_icmp_le (tgt := 35) hx hb dR_formal_29 (by decide) (fun c_29 => ?_) (fun c_29 => ?_)
          · skip
            refine s_aload_n (x := some x) hx hb dR_formal_35 rfl (lv_at hl 1 rfl) ?_
            refine s_geti hC hW gc_R iw_R 9 (by decide) uw_81 rfl hX rfl dR_formal_36 ?_
            refine lv_if_le (tgt := 45) hx hb dR_formal_39 (by decide) (fun c_39 => ?_) (fun c_39 => ?_)
            · skip
              obtain ⟨n, hn, en⟩ := w_formals hWT sb_9
              refine s_aload (x := some b_9) hx hb dR_formal_45 (lv_at hl 0 rfl) ?_
              refine s_geti hC hW gc_P iw_P 6 (by decide) uw_140 rfl sb_9 (v := nI n) en dR_formal_47 ?_
              refine lv_bipush (v := 16) hx hb dR_formal_50 (by decide) ?_
              refine lv_icmp_lt (tgt := 57) hx hb dR_formal_52 (by decide) (fun c_52 => ?_) (fun c_52 => ?_)
              · skip
                have hn2 : n < 16 := (nI_ltI (b := 16) (by omega) (by omega)).mp c_52
                refine s_aload (x := some b_9) hx hb dR_formal_57 (lv_at hl 0 rfl) ?_
                obtain ⟨b59, eb59, sb59⟩ := w_formalHow hWT sb_9
                refine s_getr hC hW gc_P iw_P 4 (by decide) uw_137 rfl sb_9 (v := some b59) eb59 dR_formal_59 ?_
                refine s_aload (x := some b_9) hx hb dR_formal_62 (lv_at hl 0 rfl) ?_
                refine s_geti hC hW gc_P iw_P 6 (by decide) uw_140 rfl sb_9 (v := nI n) en dR_formal_64 ?_
                refine lv_iload_n hx hb dR_formal_67 rfl (lv_at hl 3 rfl) ?_
                refine k_iast hC hW sb59 rfl rfl (by decide) n rfl (by omega) dR_formal_68 (fun H locs hW => ?_)
                refine s_aload (x := some b_9) hx hb dR_formal_69 (lv_at hl 0 rfl) ?_
                obtain ⟨b71, eb71, sb71⟩ := w_formalBytes hWT sb_9
                refine s_getr hC hW gc_P iw_P 5 (by decide) uw_139 rfl sb_9 (v := some b71) eb71 dR_formal_71 ?_
                refine s_aload (x := some b_9) hx hb dR_formal_74 (lv_at hl 0 rfl) ?_
                refine s_geti hC hW gc_P iw_P 6 (by decide) uw_140 rfl sb_9 (v := nI n) en dR_formal_76 ?_
                refine lv_iload_n hx hb dR_formal_79 rfl (lv_at hl 4 rfl) ?_
                refine k_iast hC hW sb71 rfl rfl (by decide) n rfl (by omega) dR_formal_80 (fun H locs hW => ?_)
                refine s_aload (x := some b_9) hx hb dR_formal_81 (lv_at hl 0 rfl) ?_
                refine lv_dup hx hb dR_formal_83 rfl ?_
                refine s_geti hC hW gc_P iw_P 6 (by decide) uw_140 rfl sb_9 (v := nI n) en dR_formal_84 ?_
                refine lv_iconst (v := 1) hx hb dR_formal_87 (by decide) ?_
                refine lv_iadd hx hb dR_formal_88 ?_
                refine s_puti hC hW gc_P iw_P 6 (by decide) uw_140 (Or.inl rfl) rfl rfl rfl sb_9 dR_formal_89 (fun H locs hW => ?_)
                refine s_aload (x := some b_9) hx hb dR_formal_92 (lv_at hl 0 rfl) ?_
                refine s_geti hC hW gc_P iw_P 6 (by decide) uw_140 rfl sb_9 rfl dR_formal_94 ?_
                refine lv_iconst (v := 1) hx hb dR_formal_97 (by decide) ?_
                refine lv_isub hx hb dR_formal_98 ?_
                exact s_iret hC hr hlocks rfl hW dR_formal_99 ⟨by rw [f_formal, ← erq2]; simp only []; rw [if_neg c_13, if_neg c_18, if_neg c_23, if_pos c_29, if_pos c_39, en, if_pos c_52, nI_clamp (by omega), x_g_i_p_i, if_pos ⟨rfl, rfl, rfl⟩, nI_1, nI_pred], by rw [f_formal, ← erq2]; simp only []; rw [if_neg c_13, if_neg c_18, if_neg c_23, if_pos c_29, if_pos c_39, en, if_pos c_52, nI_clamp (by omega)]; simp only [v_a, Option.getD_some, eb59, eb71]⟩
              · skip
                refine lv_iconst (v := (-1)) hx hb dR_formal_55 (by decide) ?_
                exact s_iret hC hr hlocks rfl hW dR_formal_56 ⟨by rw [f_formal, ← erq2]; simp only []; rw [if_neg c_13, if_neg c_18, if_neg c_23, if_pos c_29, if_pos c_39, en, if_neg c_52], by rw [f_formal, ← erq2]; simp only []; rw [if_neg c_13, if_neg c_18, if_neg c_23, if_pos c_29, if_pos c_39, en, if_neg c_52]⟩
            · skip
              refine lv_bipush (v := (-4)) hx hb dR_formal_42 (by decide) ?_
              exact s_iret hC hr hlocks rfl hW dR_formal_44 ⟨by rw [f_formal, ← erq2]; simp only []; rw [if_neg c_13, if_neg c_18, if_neg c_23, if_pos c_29, if_neg c_39], by rw [f_formal, ← erq2]; simp only []; rw [if_neg c_13, if_neg c_18, if_neg c_23, if_pos c_29, if_neg c_39]⟩
          · skip
            refine lv_bipush (v := (-2)) hx hb dR_formal_32 (by decide) ?_
            exact s_iret hC hr hlocks rfl hW dR_formal_34 ⟨by rw [f_formal, ← erq2]; simp only []; rw [if_neg c_13, if_neg c_18, if_neg c_23, if_neg c_29], by rw [f_formal, ← erq2]; simp only []; rw [if_neg c_13, if_neg c_18, if_neg c_23, if_neg c_29]⟩

/-! R.state, R.returned -/
def f_state (S : gs_S) (x : Nat) (p : Int32) : Int32 := match f_pOf S x p with
  | none => -1
  | some a => match g_r S 1 8 a with
    | some _ => 2
    | none => if g_i S 1 7 a = 0 then 0 else 1

set_option maxHeartbeats 4000000 in
set_option maxRecDepth 100000 in
theorem c_R_state (l : Launch) (G : gs_G) (S : gs_S) (sz : Nat) (x : Nat) (p0 : Int32) (hWT : w_t S) (hX : g_sh S x = some (.inl 2)) : Met l yR_state (kR_state :: gU) { frames := 1, cells := 0, slots := 0, locals := 21 } (g_Pc G S sz [va_rf (some x), .int p0]) (g_Qi G S sz (fun r S' => S' = S ∧ r = f_state S x p0)) 0 0 (g_A S sz) := by
  refine s_head (by decide) (Nat.le_of_ble_eq_true rfl) ?_
  intro p e s m below meth c ls hsz hC hr hlocks hnm hl hW
  subst hsz
  obtain ⟨hx, hb, hml, hown, hts⟩ := id hC
  have hl : lv_has ls 3 [(0, va_rf (some x)), (1, .int p0)] := hl
  refine s_aload_n (x := some x) hx hb dR_state_0 rfl (lv_at hl 0 rfl) ?_
  refine lv_iload_n hx hb dR_state_1 rfl (lv_at hl 1 rfl) ?_
  refine s_callq hW (s_runV (n := 1) (As := [.int p0]) (rest := []) hC (c_R_programOf l G S s.heap.size x p0 hWT hX) uc_R_programOf uw_113 uw_115 us_R_programOf uw_1 rfl rfl (by decide +kernel) ⟨by decide, by decide⟩ (g_preV hW gc_R hX [.int p0]) rfl hl.1 rfl (Nat.le_of_ble_eq_true rfl) dR_state_2 ⟨Nat.le_of_ble_eq_true rfl, Nat.le_of_ble_eq_true rfl⟩) (fun rq2 S2 H locs hp2 hW => ?_)
  obtain ⟨hs2, erq2⟩ := hp2
  replace hs2 := hs2.symm
  subst hs2
  refine s_astore_n (x := rq2) (lv' := [(2, va_rf rq2), (0, va_rf (some x)), (1, .int p0)]) hx hb dR_state_5 rfl hl (by decide) rfl (fun ls hl => ?_)
  refine s_aload_n (x := rq2) hx hb dR_state_6 rfl (lv_at hl 0 rfl) ?_
  refine s_ifnonnull (x := rq2) (tgt := 12) hx hb dR_state_7 (by decide) (fun b_7 c_7 => ?_) (fun c_7 => ?_)
  · skip
    subst c_7
    have sb_7 := t_pOf hWT hX _ erq2.symm
    refine s_aload_n (x := some b_7) hx hb dR_state_12 rfl (lv_at hl 0 rfl) ?_
    obtain ⟨r13, er13⟩ : ∃ r : Option Nat, g_r S 1 8 b_7 = r := ⟨_, rfl⟩
    refine s_getr hC hW gc_P iw_P 8 (by decide) uw_142 rfl sb_7 (v := r13) er13 dR_state_13 ?_
    refine s_ifnull (x := r13) (tgt := 21) hx hb dR_state_16 (by decide) (fun c_16 => ?_) (fun b_16 c_16 => ?_)
    · skip
      subst c_16
      refine s_aload_n (x := some b_7) hx hb dR_state_21 rfl (lv_at hl 0 rfl) ?_
      refine s_geti hC hW gc_P iw_P 7 (by decide) uw_141 rfl sb_7 rfl dR_state_22 ?_
      refine lv_if_eq (tgt := 32) hx hb dR_state_25 (by decide) (fun c_25 => ?_) (fun c_25 => ?_)
      · skip
        refine lv_iconst (v := 0) hx hb dR_state_32 (by decide) ?_
        exact s_iret hC hr hlocks rfl hW dR_state_33 ⟨rfl, by rw [f_state, ← erq2]; simp only [er13]; rw [if_pos c_25]⟩
      · skip
        refine lv_iconst (v := 1) hx hb dR_state_28 (by decide) ?_
        refine lv_goto (tgt := 33) hx hb dR_state_29 (by decide) ?_
        exact s_iret hC hr hlocks rfl hW dR_state_33 ⟨rfl, by rw [f_state, ← erq2]; simp only [er13]; rw [if_neg c_25]⟩
    · skip
      subst c_16
      have sb_16 := w_latest hWT sb_7 _ er13
      refine lv_iconst (v := 2) hx hb dR_state_19 (by decide) ?_
      exact s_iret hC hr hlocks rfl hW dR_state_20 ⟨rfl, by rw [f_state, ← erq2]; simp only [er13]⟩
  · skip
    subst c_7
    refine lv_iconst (v := (-1)) hx hb dR_state_10 (by decide) ?_
    exact s_iret hC hr hlocks rfl hW dR_state_11 ⟨rfl, by rw [f_state, ← erq2]⟩

set_option maxHeartbeats 4000000 in
set_option maxRecDepth 100000 in
theorem c_R_returned (l : Launch) (G : gs_G) (S : gs_S) (sz : Nat) (x : Nat) (hWT : w_t S) (hX : g_sh S x = some (.inl 2)) : Met l yR_returned (kR_returned :: gU) { frames := 0, cells := 0, slots := 0, locals := 0 } (g_Pc G S sz [va_rf (some x)]) (g_Ql G S sz (fun r S' => S' = S ∧ r = g_l S 2 11 x)) 0 0 (g_A S sz) := by
  refine s_head (by decide) (Nat.le_of_ble_eq_true rfl) ?_
  intro p e s m below meth c ls hsz hC hr hlocks hnm hl hW
  subst hsz
  obtain ⟨hx, hb, hml, hown, hts⟩ := id hC
  have hl : lv_has ls 1 [(0, va_rf (some x))] := hl
  refine s_aload_n (x := some x) hx hb dR_returned_0 rfl (lv_at hl 0 rfl) ?_
  refine s_getl hC hW gc_R iw_R 11 (by decide) uw_83 rfl hX rfl dR_returned_1 ?_
  exact s_lret hC hr hlocks hW dR_returned_4 ⟨rfl, rfl⟩

/-! R.count -/
def f_count (S : gs_S) (x : Nat) (w : Int32) : Int32 := if w = 0 then g_i S 2 2 x else if w = 1 then g_i S 2 5 x else if w = 2 then g_i S 2 9 x else if w = 3 then f_no S (f_run S x) else if w = 4 then (match g_r S 2 10 x with
  | none => 0
  | some u => f_no S (g_r S 0 2 u)) else if w = 5 then (match g_r S 2 10 x with
  | none => 0
  | some u => g_i S 0 4 u) else if w = 6 then (match f_run S x with
  | none => 0
  | some p => g_i S 1 6 p) else -1
theorem x_sw (w : Int32) (n : Nat) (hn : n < 64) : (∃ j : Nat, j ≤ n ∧ w = nI j) ∨ (w.toInt < 0 ∨ (n : Int) < w.toInt) := by
  by_cases h : w < 0
  · right; left
    exact Int32.lt_iff_toInt_lt.mp h
  · obtain ⟨j, hj, rfl⟩ := nI_of h
    by_cases hjn : j ≤ n
    · left; exact ⟨j, hjn, rfl⟩
    · right; right
      rw [nI_toInt hj]
      omega

set_option maxHeartbeats 4000000 in
set_option maxRecDepth 100000 in
theorem c_R_count (l : Launch) (G : gs_G) (S : gs_S) (sz : Nat) (x : Nat) (w0 : Int32) (hWT : w_t S) (hX : g_sh S x = some (.inl 2)) : Met l yR_count (kR_count :: gU) { frames := 1, cells := 0, slots := 0, locals := 20 } (g_Pc G S sz [va_rf (some x), .int w0]) (g_Qi G S sz (fun r S' => S' = S ∧ r = f_count S x w0)) 0 0 (g_A S sz) := by
  refine s_head (by decide) (Nat.le_of_ble_eq_true rfl) ?_
  intro p e s m below meth c ls hsz hC hr hlocks hnm hl hW
  subst hsz
  obtain ⟨hx, hb, hml, hown, hts⟩ := id hC
  have hl : lv_has ls 2 [(0, va_rf (some x)), (1, .int w0)] := hl
  refine lv_iload_n hx hb dR_count_0 rfl (lv_at hl 1 rfl) ?_
  rcases x_sw w0 6 (by decide) with ⟨j, hj, rfl⟩ | hout
  · have hj : j = 0 ∨ j = 1 ∨ j = 2 ∨ j = 3 ∨ j = 4 ∨ j = 5 ∨ j = 6 := by omega
    rcases hj with rfl | rfl | rfl | rfl | rfl | rfl | rfl
    · refine lv_tableIn (x := nI 0) (off := 43) (tgt := 44) hx hb dR_count_1 (by decide) (by decide) (by decide) (by decide) ?_
      refine s_aload_n (x := some x) hx hb dR_count_44 rfl (lv_at hl 0 rfl) ?_
      refine s_geti hC hW gc_R iw_R 2 (by decide) uw_74 rfl hX rfl dR_count_45 ?_
      exact s_iret hC hr hlocks rfl hW dR_count_48 ⟨rfl, by rw [f_count, if_pos (show nI 0 = 0 by decide)]⟩
    · refine lv_tableIn (x := nI 1) (off := 48) (tgt := 49) hx hb dR_count_1 (by decide) (by decide) (by decide) (by decide) ?_
      refine s_aload_n (x := some x) hx hb dR_count_49 rfl (lv_at hl 0 rfl) ?_
      refine s_geti hC hW gc_R iw_R 5 (by decide) uw_77 rfl hX rfl dR_count_50 ?_
      exact s_iret hC hr hlocks rfl hW dR_count_53 ⟨rfl, by rw [f_count, if_neg (show ¬ nI 1 = 0 by decide), if_pos (show nI 1 = 1 by decide)]⟩
    · refine lv_tableIn (x := nI 2) (off := 53) (tgt := 54) hx hb dR_count_1 (by decide) (by decide) (by decide) (by decide) ?_
      refine s_aload_n (x := some x) hx hb dR_count_54 rfl (lv_at hl 0 rfl) ?_
      refine s_geti hC hW gc_R iw_R 9 (by decide) uw_81 rfl hX rfl dR_count_55 ?_
      exact s_iret hC hr hlocks rfl hW dR_count_58 ⟨rfl, by rw [f_count, if_neg (show ¬ nI 2 = 0 by decide), if_neg (show ¬ nI 2 = 1 by decide), if_pos (show nI 2 = 2 by decide)]⟩
    · refine lv_tableIn (x := nI 3) (off := 58) (tgt := 59) hx hb dR_count_1 (by decide) (by decide) (by decide) (by decide) ?_
      refine s_aload_n (x := some x) hx hb dR_count_59 rfl (lv_at hl 0 rfl) ?_
      obtain ⟨b60, eb60, sb60⟩ := w_top hWT hX
      refine s_getr hC hW gc_R iw_R 8 (by decide) uw_80 rfl hX (v := some b60) eb60 dR_count_60 ?_
      obtain ⟨r63, er63⟩ : ∃ r : Option Nat, g_r S 0 2 b60 = r := ⟨_, rfl⟩
      refine s_getr hC hW gc_L iw_L 2 (by decide) uw_32 rfl sb60 (v := r63) er63 dR_count_63 ?_
      refine s_calli hW (s_runS (n := 1) (As := [va_rf r63]) (rest := []) hC (c_R_numberOf l G S s.heap.size r63 (fun b q => w_program hWT sb60 b (Eq.trans (er63) q))) uc_R_numberOf uw_186 uw_187 uw_1 rfl rfl (by decide +kernel) ⟨by decide, by decide⟩ (g_preS hW [va_rf r63]) rfl hl.1 rfl (Nat.le_of_ble_eq_true rfl) dR_count_66 ⟨Nat.le_of_ble_eq_true rfl, Nat.le_of_ble_eq_true rfl⟩) (fun q66 S66 H locs hp66 hW => ?_)
      obtain ⟨hs66, rfl⟩ := hp66
      replace hs66 := hs66.symm
      subst hs66
      exact s_iret hC hr hlocks rfl hW dR_count_69 ⟨rfl, by rw [f_count, if_neg (show ¬ nI 3 = 0 by decide), if_neg (show ¬ nI 3 = 1 by decide), if_neg (show ¬ nI 3 = 2 by decide), if_pos (show nI 3 = 3 by decide), f_run, f_top, eb60]; simp only [v_a, Option.getD_some, er63]⟩
    · refine lv_tableIn (x := nI 4) (off := 69) (tgt := 70) hx hb dR_count_1 (by decide) (by decide) (by decide) (by decide) ?_
      refine s_aload_n (x := some x) hx hb dR_count_70 rfl (lv_at hl 0 rfl) ?_
      obtain ⟨r71, er71⟩ : ∃ r : Option Nat, g_r S 2 10 x = r := ⟨_, rfl⟩
      refine s_getr hC hW gc_R iw_R 10 (by decide) uw_82 rfl hX (v := r71) er71 dR_count_71 ?_
      refine s_ifnonnull (x := r71) (tgt := 81) hx hb dR_count_74 (by decide) (fun b_74 c_74 => ?_) (fun c_74 => ?_)
      · skip
        subst c_74
        have sb_74 := w_prepared hWT hX _ er71
        refine s_aload_n (x := some x) hx hb dR_count_81 rfl (lv_at hl 0 rfl) ?_
        refine s_getr hC hW gc_R iw_R 10 (by decide) uw_82 rfl hX (v := some b_74) er71 dR_count_82 ?_
        obtain ⟨r85, er85⟩ : ∃ r : Option Nat, g_r S 0 2 b_74 = r := ⟨_, rfl⟩
        refine s_getr hC hW gc_L iw_L 2 (by decide) uw_32 rfl sb_74 (v := r85) er85 dR_count_85 ?_
        refine s_calli hW (s_runS (n := 1) (As := [va_rf r85]) (rest := []) hC (c_R_numberOf l G S s.heap.size r85 (fun b q => w_program hWT sb_74 b (Eq.trans (er85) q))) uc_R_numberOf uw_186 uw_187 uw_1 rfl rfl (by decide +kernel) ⟨by decide, by decide⟩ (g_preS hW [va_rf r85]) rfl hl.1 rfl (Nat.le_of_ble_eq_true rfl) dR_count_88 ⟨Nat.le_of_ble_eq_true rfl, Nat.le_of_ble_eq_true rfl⟩) (fun q88 S88 H locs hp88 hW => ?_)
        obtain ⟨hs88, rfl⟩ := hp88
        replace hs88 := hs88.symm
        subst hs88
        exact s_iret hC hr hlocks rfl hW dR_count_91 ⟨rfl, by rw [f_count, if_neg (show ¬ nI 4 = 0 by decide), if_neg (show ¬ nI 4 = 1 by decide), if_neg (show ¬ nI 4 = 2 by decide), if_neg (show ¬ nI 4 = 3 by decide), if_pos (show nI 4 = 4 by decide), er71]; simp only [er85]⟩
      · skip
        subst c_74
        refine lv_iconst (v := 0) hx hb dR_count_77 (by decide) ?_
        refine lv_goto (tgt := 91) hx hb dR_count_78 (by decide) ?_
        exact s_iret hC hr hlocks rfl hW dR_count_91 ⟨rfl, by rw [f_count, if_neg (show ¬ nI 4 = 0 by decide), if_neg (show ¬ nI 4 = 1 by decide), if_neg (show ¬ nI 4 = 2 by decide), if_neg (show ¬ nI 4 = 3 by decide), if_pos (show nI 4 = 4 by decide), er71]⟩
    · refine lv_tableIn (x := nI 5) (off := 91) (tgt := 92) hx hb dR_count_1 (by decide) (by decide) (by decide) (by decide) ?_
      refine s_aload_n (x := some x) hx hb dR_count_92 rfl (lv_at hl 0 rfl) ?_
      obtain ⟨r93, er93⟩ : ∃ r : Option Nat, g_r S 2 10 x = r := ⟨_, rfl⟩
      refine s_getr hC hW gc_R iw_R 10 (by decide) uw_82 rfl hX (v := r93) er93 dR_count_93 ?_
      refine s_ifnonnull (x := r93) (tgt := 103) hx hb dR_count_96 (by decide) (fun b_96 c_96 => ?_) (fun c_96 => ?_)
      · skip
        subst c_96
        have sb_96 := w_prepared hWT hX _ er93
        refine s_aload_n (x := some x) hx hb dR_count_103 rfl (lv_at hl 0 rfl) ?_
        refine s_getr hC hW gc_R iw_R 10 (by decide) uw_82 rfl hX (v := some b_96) er93 dR_count_104 ?_
        refine s_geti hC hW gc_L iw_L 4 (by decide) uw_35 rfl sb_96 rfl dR_count_107 ?_
        exact s_iret hC hr hlocks rfl hW dR_count_110 ⟨rfl, by rw [f_count, if_neg (show ¬ nI 5 = 0 by decide), if_neg (show ¬ nI 5 = 1 by decide), if_neg (show ¬ nI 5 = 2 by decide), if_neg (show ¬ nI 5 = 3 by decide), if_neg (show ¬ nI 5 = 4 by decide), if_pos (show nI 5 = 5 by decide), er93]⟩
      · skip
        subst c_96
        refine lv_iconst (v := 0) hx hb dR_count_99 (by decide) ?_
        refine lv_goto (tgt := 110) hx hb dR_count_100 (by decide) ?_
        exact s_iret hC hr hlocks rfl hW dR_count_110 ⟨rfl, by rw [f_count, if_neg (show ¬ nI 5 = 0 by decide), if_neg (show ¬ nI 5 = 1 by decide), if_neg (show ¬ nI 5 = 2 by decide), if_neg (show ¬ nI 5 = 3 by decide), if_neg (show ¬ nI 5 = 4 by decide), if_pos (show nI 5 = 5 by decide), er93]⟩
    · refine lv_tableIn (x := nI 6) (off := 110) (tgt := 111) hx hb dR_count_1 (by decide) (by decide) (by decide) (by decide) ?_
      refine s_aload_n (x := some x) hx hb dR_count_111 rfl (lv_at hl 0 rfl) ?_
      obtain ⟨b112, eb112, sb112⟩ := w_top hWT hX
      refine s_getr hC hW gc_R iw_R 8 (by decide) uw_80 rfl hX (v := some b112) eb112 dR_count_112 ?_
      obtain ⟨r115, er115⟩ : ∃ r : Option Nat, g_r S 0 2 b112 = r := ⟨_, rfl⟩
      refine s_getr hC hW gc_L iw_L 2 (by decide) uw_32 rfl sb112 (v := r115) er115 dR_count_115 ?_
      refine s_ifnonnull (x := r115) (tgt := 125) hx hb dR_count_118 (by decide) (fun b_118 c_118 => ?_) (fun c_118 => ?_)
      · skip
        subst c_118
        have sb_118 := w_program hWT sb112 _ er115
        refine s_aload_n (x := some x) hx hb dR_count_125 rfl (lv_at hl 0 rfl) ?_
        refine s_getr hC hW gc_R iw_R 8 (by decide) uw_80 rfl hX (v := some b112) eb112 dR_count_126 ?_
        refine s_getr hC hW gc_L iw_L 2 (by decide) uw_32 rfl sb112 (v := some b_118) er115 dR_count_129 ?_
        refine s_geti hC hW gc_P iw_P 6 (by decide) uw_140 rfl sb_118 rfl dR_count_132 ?_
        exact s_iret hC hr hlocks rfl hW dR_count_135 ⟨rfl, by rw [f_count, if_neg (show ¬ nI 6 = 0 by decide), if_neg (show ¬ nI 6 = 1 by decide), if_neg (show ¬ nI 6 = 2 by decide), if_neg (show ¬ nI 6 = 3 by decide), if_neg (show ¬ nI 6 = 4 by decide), if_neg (show ¬ nI 6 = 5 by decide), if_pos (show nI 6 = 6 by decide), f_run, f_top, eb112]; simp only [v_a, Option.getD_some, er115]⟩
      · skip
        subst c_118
        refine lv_iconst (v := 0) hx hb dR_count_121 (by decide) ?_
        refine lv_goto (tgt := 135) hx hb dR_count_122 (by decide) ?_
        exact s_iret hC hr hlocks rfl hW dR_count_135 ⟨rfl, by rw [f_count, if_neg (show ¬ nI 6 = 0 by decide), if_neg (show ¬ nI 6 = 1 by decide), if_neg (show ¬ nI 6 = 2 by decide), if_neg (show ¬ nI 6 = 3 by decide), if_neg (show ¬ nI 6 = 4 by decide), if_neg (show ¬ nI 6 = 5 by decide), if_pos (show nI 6 = 6 by decide), f_run, f_top, eb112]; simp only [v_a, Option.getD_some, er115]⟩
  · refine lv_tableOut (tgt := 136) hx hb dR_count_1 hout (by decide) ?_
    refine lv_iconst (v := (-1)) hx hb dR_count_136 (by decide) ?_
    exact s_iret hC hr hlocks rfl hW dR_count_137 ⟨rfl, by rw [f_count, if_neg (fun z => by subst z; exact absurd hout (by decide)), if_neg (fun z => by subst z; exact absurd hout (by decide)), if_neg (fun z => by subst z; exact absurd hout (by decide)), if_neg (fun z => by subst z; exact absurd hout (by decide)), if_neg (fun z => by subst z; exact absurd hout (by decide)), if_neg (fun z => by subst z; exact absurd hout (by decide)), if_neg (fun z => by subst z; exact absurd hout (by decide))]⟩

/-! R.cancel -/
def f_cancel (S : gs_S) (x : Nat) (fr nm : Int32) : Int32 × gs_S := if fr = f_no S (f_run S x) then (if f_isName nm = 0 then (-2, S) else (match f_found S x (f_run S x) nm with
  | none => (-3, S)
  | some c => if f_any S x c = 0 then f_fresh S x c else (-5, S))) else (-2, S)

set_option maxHeartbeats 4000000 in
set_option maxRecDepth 100000 in
theorem c_R_cancel (l : Launch) (G : gs_G) (S : gs_S) (sz : Nat) (x : Nat) (fr nm : Int32) (hWT : w_t S) (hX : g_sh S x = some (.inl 2)) : Met l yR_cancel (kR_cancel :: gU) { frames := 4, cells := 0, slots := 0, locals := 90 } (g_Pc G S sz [va_rf (some x), .int fr, .int nm]) (g_Qi G S sz (fun r S' => r = (f_cancel S x fr nm).1 ∧ S' = (f_cancel S x fr nm).2)) 0 0 (g_A S sz) := by
  refine s_head (by decide) (Nat.le_of_ble_eq_true rfl) ?_
  intro p e s m below meth c ls hsz hC hr hlocks hnm hl hW
  subst hsz
  obtain ⟨hx, hb, hml, hown, hts⟩ := id hC
  have hl : lv_has ls 4 [(0, va_rf (some x)), (1, .int fr), (2, .int nm)] := hl
  refine lv_iload_n hx hb dR_cancel_0 rfl (lv_at hl 1 rfl) ?_
  refine s_aload_n (x := some x) hx hb dR_cancel_1 rfl (lv_at hl 0 rfl) ?_
  obtain ⟨b2, eb2, sb2⟩ := w_top hWT hX
  refine s_getr hC hW gc_R iw_R 8 (by decide) uw_80 rfl hX (v := some b2) eb2 dR_cancel_2 ?_
  obtain ⟨r5, er5⟩ : ∃ r : Option Nat, g_r S 0 2 b2 = r := ⟨_, rfl⟩
  refine s_getr hC hW gc_L iw_L 2 (by decide) uw_32 rfl sb2 (v := r5) er5 dR_cancel_5 ?_
  refine s_calli hW (s_runS (n := 1) (As := [va_rf r5]) (rest := [.int fr]) hC (c_R_numberOf l G S s.heap.size r5 (fun b q => w_program hWT sb2 b (Eq.trans (er5) q))) uc_R_numberOf uw_186 uw_187 uw_1 rfl rfl (by decide +kernel) ⟨by decide, by decide⟩ (g_preS hW [va_rf r5]) rfl hl.1 rfl (Nat.le_of_ble_eq_true rfl) dR_cancel_8 ⟨Nat.le_of_ble_eq_true rfl, Nat.le_of_ble_eq_true rfl⟩) (fun q8 S8 H locs hp8 hW => ?_)
  obtain ⟨hs8, rfl⟩ := hp8
  replace hs8 := hs8.symm
  subst hs8
  refine lv_icmp_ne (tgt := 21) hx hb dR_cancel_11 (by decide) (fun c_11 => ?_) (fun c_11 => ?_)
  · skip
    refine lv_bipush (v := (-2)) hx hb dR_cancel_21 (by decide) ?_
    have er : f_run S x = r5 := by rw [f_run, f_top, eb2]; exact er5
    exact s_iret hC hr hlocks rfl hW dR_cancel_23 ⟨by rw [f_cancel, er, if_neg c_11], by rw [f_cancel, er, if_neg c_11]⟩
  · skip
    refine lv_iload_n hx hb dR_cancel_14 rfl (lv_at hl 2 rfl) ?_
    refine s_calli hW (s_runS (n := 1) (As := [.int nm]) (rest := []) hC (c_R_isName l G S H.size nm) uc_R_isName uw_117 uw_118 uw_1 rfl rfl (by decide +kernel) ⟨by decide, by decide⟩ (g_preS hW [.int nm]) rfl hl.1 rfl (Nat.le_of_ble_eq_true rfl) dR_cancel_15 ⟨Nat.le_of_ble_eq_true rfl, Nat.le_of_ble_eq_true rfl⟩) (fun q15 S15 H locs hp15 hW => ?_)
    obtain ⟨hs15, rfl⟩ := hp15
    replace hs15 := hs15.symm
    subst hs15
    refine lv_if_ne (tgt := 24) hx hb dR_cancel_18 (by decide) (fun c_18 => ?_) (fun c_18 => ?_)
    · skip
      refine s_aload_n (x := some x) hx hb dR_cancel_24 rfl (lv_at hl 0 rfl) ?_
      refine s_aload_n (x := some x) hx hb dR_cancel_25 rfl (lv_at hl 0 rfl) ?_
      refine s_getr hC hW gc_R iw_R 8 (by decide) uw_80 rfl hX (v := some b2) eb2 dR_cancel_26 ?_
      refine s_getr hC hW gc_L iw_L 2 (by decide) uw_32 rfl sb2 (v := r5) er5 dR_cancel_29 ?_
      refine lv_iload_n hx hb dR_cancel_32 rfl (lv_at hl 2 rfl) ?_
      refine s_callq hW (s_runV (n := 2) (As := [va_rf r5, .int nm]) (rest := []) hC (c_R_found l G S H.size x r5 nm hWT hX (fun b q => w_program hWT sb2 b (Eq.trans (er5) q))) uc_R_found uw_189 uw_191 us_R_found uw_1 rfl rfl (by decide +kernel) ⟨by decide, by decide⟩ (g_preV hW gc_R hX [va_rf r5, .int nm]) rfl hl.1 rfl (Nat.le_of_ble_eq_true rfl) dR_cancel_33 ⟨Nat.le_of_ble_eq_true rfl, Nat.le_of_ble_eq_true rfl⟩) (fun rq33 S33 H locs hp33 hW => ?_)
      obtain ⟨hs33, erq33⟩ := hp33
      replace hs33 := hs33.symm
      subst hs33
      refine s_astore_n (x := rq33) (lv' := [(3, va_rf rq33), (0, va_rf (some x)), (1, .int fr), (2, .int nm)]) hx hb dR_cancel_36 rfl hl (by decide) rfl (fun ls hl => ?_)
      refine s_aload_n (x := rq33) hx hb dR_cancel_37 rfl (lv_at hl 0 rfl) ?_
      refine s_ifnonnull (x := rq33) (tgt := 44) hx hb dR_cancel_38 (by decide) (fun b_38 c_38 => ?_) (fun c_38 => ?_)
      · skip
        subst c_38
        have sb_38 := t_found hWT hX (fun b q => w_program hWT sb2 b (Eq.trans (er5) q)) _ erq33.symm
        refine s_aload_n (x := some x) hx hb dR_cancel_44 rfl (lv_at hl 1 rfl) ?_
        refine s_aload_n (x := some b_38) hx hb dR_cancel_45 rfl (lv_at hl 0 rfl) ?_
        refine s_calli hW (s_runV (n := 1) (As := [va_rf (some b_38)]) (rest := []) hC (c_R_anyActiveOf l G S H.size x b_38 hWT hX sb_38) uc_R_anyActiveOf uw_281 uw_283 us_R_anyActiveOf uw_1 rfl rfl (by decide +kernel) ⟨by decide, by decide⟩ (g_preV hW gc_R hX [va_rf (some b_38)]) rfl hl.1 rfl (Nat.le_of_ble_eq_true rfl) dR_cancel_46 ⟨Nat.le_of_ble_eq_true rfl, Nat.le_of_ble_eq_true rfl⟩) (fun q46 S46 H locs hp46 hW => ?_)
        obtain ⟨hs46, rfl⟩ := hp46
        replace hs46 := hs46.symm
        subst hs46
        refine lv_if_eq (tgt := 55) hx hb dR_cancel_49 (by decide) (fun c_49 => ?_) (fun c_49 => ?_)
        · skip
          refine s_aload_n (x := some x) hx hb dR_cancel_55 rfl (lv_at hl 1 rfl) ?_
          refine s_aload_n (x := some b_38) hx hb dR_cancel_56 rfl (lv_at hl 0 rfl) ?_
          refine s_calli hW (s_runV (n := 1) (As := [va_rf (some b_38)]) (rest := []) hC (c_R_makeFresh l G S H.size x b_38 hWT hX sb_38) uc_R_makeFresh uw_285 uw_287 us_R_makeFresh uw_1 rfl rfl (by decide +kernel) ⟨by decide, by decide⟩ (g_preV hW gc_R hX [va_rf (some b_38)]) rfl hl.1 rfl (Nat.le_of_ble_eq_true rfl) dR_cancel_57 ⟨Nat.le_of_ble_eq_true rfl, Nat.le_of_ble_eq_true rfl⟩) (fun q57 S57 H locs hp57 hW => ?_)
          obtain ⟨eq57, hS57⟩ := hp57
          subst hS57
          subst eq57
          have er : f_run S x = r5 := by rw [f_run, f_top, eb2]; exact er5
          exact s_iret hC hr hlocks rfl hW dR_cancel_60 ⟨by rw [f_cancel, er, if_pos c_11, if_neg c_18, ← erq33]; simp only []; rw [if_pos c_49], by rw [f_cancel, er, if_pos c_11, if_neg c_18, ← erq33]; simp only []; rw [if_pos c_49]⟩
        · skip
          refine lv_bipush (v := (-5)) hx hb dR_cancel_52 (by decide) ?_
          have er : f_run S x = r5 := by rw [f_run, f_top, eb2]; exact er5
          exact s_iret hC hr hlocks rfl hW dR_cancel_54 ⟨by rw [f_cancel, er, if_pos c_11, if_neg c_18, ← erq33]; simp only []; rw [if_neg c_49], by rw [f_cancel, er, if_pos c_11, if_neg c_18, ← erq33]; simp only []; rw [if_neg c_49]⟩
      · skip
        subst c_38
        refine lv_bipush (v := (-3)) hx hb dR_cancel_41 (by decide) ?_
        have er : f_run S x = r5 := by rw [f_run, f_top, eb2]; exact er5
        exact s_iret hC hr hlocks rfl hW dR_cancel_43 ⟨by rw [f_cancel, er, if_pos c_11, if_neg c_18, ← erq33], by rw [f_cancel, er, if_pos c_11, if_neg c_18, ← erq33]⟩
    · skip
      refine lv_bipush (v := (-2)) hx hb dR_cancel_21 (by decide) ?_
      have er : f_run S x = r5 := by rw [f_run, f_top, eb2]; exact er5
      exact s_iret hC hr hlocks rfl hW dR_cancel_23 ⟨by rw [f_cancel, er, if_pos c_11, if_pos c_18], by rw [f_cancel, er, if_pos c_11, if_pos c_18]⟩

/-! R.shared -/
theorem x_name {n : Int32} (h : ¬ f_isName n = 0) : ∃ j : Nat, j < 100 ∧ n = nI j := by
  unfold f_isName at h
  split at h
  · exact absurd rfl h
  · rename_i h0
    split at h
    · exact absurd rfl h
    · rename_i h1
      obtain ⟨j, hj, rfl⟩ := nI_of h0
      refine ⟨j, ?_, rfl⟩
      have h1 : ¬ nI 100 ≤ nI j := h1
      rw [nI_leI (by omega) hj] at h1
      omega
theorem f_newCell_sh (S : gs_S) (x : Nat) (o : Option Nat) (v : Int64) (b : Nat) : g_sh (f_newCell S x o v).2 b = g_sh S b := by unfold f_newCell; split <;> rfl
theorem f_newCell_r (S : gs_S) (x : Nat) (o : Option Nat) (v : Int64) (c k b : Nat) : g_r (f_newCell S x o v).2 c k b = g_r S c k b := by unfold f_newCell; split <;> rfl
def f_shared (S : gs_S) (x : Nat) (nm : Int32) : Int32 × gs_S := if f_isName nm = 0 then (-2, S) else if g_ai S 3 (v_a (g_r S 2 6 x)) nm.toNatClampNeg = -1 then
    ((f_newCell S x none 0).1, p_ai (f_newCell S x none 0).2 3 (v_a (g_r S 2 6 x)) nm.toNatClampNeg (f_newCell S x none 0).1)
  else (g_ai S 3 (v_a (g_r S 2 6 x)) nm.toNatClampNeg, S)

set_option maxHeartbeats 4000000 in
set_option maxRecDepth 100000 in
theorem c_R_shared (l : Launch) (G : gs_G) (S : gs_S) (sz : Nat) (x : Nat) (nm : Int32) (hWT : w_t S) (hX : g_sh S x = some (.inl 2)) : Met l yR_shared (kR_shared :: gU) { frames := 3, cells := 0, slots := 0, locals := 66 } (g_Pc G S sz [va_rf (some x), .int nm]) (g_Qi G S sz (fun r S' => r = (f_shared S x nm).1 ∧ S' = (f_shared S x nm).2)) 0 0 (g_A S sz) := by
  refine s_head (by decide) (Nat.le_of_ble_eq_true rfl) ?_
  intro p e s m below meth c ls hsz hC hr hlocks hnm hl hW
  subst hsz
  obtain ⟨hx, hb, hml, hown, hts⟩ := id hC
  have hl : lv_has ls 2 [(0, va_rf (some x)), (1, .int nm)] := hl
  refine lv_iload_n hx hb dR_shared_0 rfl (lv_at hl 1 rfl) ?_
  refine s_calli hW (s_runS (n := 1) (As := [.int nm]) (rest := []) hC (c_R_isName l G S s.heap.size nm) uc_R_isName uw_117 uw_118 uw_1 rfl rfl (by decide +kernel) ⟨by decide, by decide⟩ (g_preS hW [.int nm]) rfl hl.1 rfl (Nat.le_of_ble_eq_true rfl) dR_shared_1 ⟨Nat.le_of_ble_eq_true rfl, Nat.le_of_ble_eq_true rfl⟩) (fun q1 S1 H locs hp1 hW => ?_)
  obtain ⟨hs1, rfl⟩ := hp1
  replace hs1 := hs1.symm
  subst hs1
  refine lv_if_ne (tgt := 10) hx hb dR_shared_4 (by decide) (fun c_4 => ?_) (fun c_4 => ?_)
  · skip
    obtain ⟨j, hj, ej⟩ := x_name c_4
    refine s_aload_n (x := some x) hx hb dR_shared_10 rfl (lv_at hl 0 rfl) ?_
    obtain ⟨b11, eb11, sb11⟩ := w_externals hWT hX
    refine s_getr hC hW gc_R iw_R 6 (by decide) uw_78 rfl hX (v := some b11) eb11 dR_shared_11 ?_
    refine lv_iload_n hx hb dR_shared_14 rfl (lv_at hl 1 rfl) ?_
    refine k_iald hC hW sb11 rfl rfl (by decide) j ej hj rfl dR_shared_15 ?_
    refine lv_iconst (v := (-1)) hx hb dR_shared_16 (by decide) ?_
    refine lv_icmp_ne (tgt := 32) hx hb dR_shared_17 (by decide) (fun c_17 => ?_) (fun c_17 => ?_)
    · skip
      refine s_aload_n (x := some x) hx hb dR_shared_32 rfl (lv_at hl 0 rfl) ?_
      refine s_getr hC hW gc_R iw_R 6 (by decide) uw_78 rfl hX (v := some b11) eb11 dR_shared_33 ?_
      refine lv_iload_n hx hb dR_shared_36 rfl (lv_at hl 1 rfl) ?_
      refine k_iald hC hW sb11 rfl rfl (by decide) j ej hj rfl dR_shared_37 ?_
      exact s_iret hC hr hlocks rfl hW dR_shared_38 ⟨by rw [f_shared, if_neg c_4, eb11, v_a_s, ej, nI_clamp (by omega), if_neg c_17], by rw [f_shared, if_neg c_4, eb11, v_a_s, ej, nI_clamp (by omega), if_neg c_17]⟩
    · skip
      refine s_aload_n (x := some x) hx hb dR_shared_20 rfl (lv_at hl 0 rfl) ?_
      refine s_getr hC hW gc_R iw_R 6 (by decide) uw_78 rfl hX (v := some b11) eb11 dR_shared_21 ?_
      refine lv_iload_n hx hb dR_shared_24 rfl (lv_at hl 1 rfl) ?_
      refine s_aload_n (x := some x) hx hb dR_shared_25 rfl (lv_at hl 0 rfl) ?_
      refine s_null hx hb dR_shared_26 ?_
      refine lv_lconst (v := 0) hx hb dR_shared_27 (by decide) ?_
      refine s_calli hW (s_runV (n := 2) (As := [va_rf none, .long 0]) (rest := [.int nm, va_rf (some b11)]) hC (c_R_newCell l G S H.size x none 0 hWT hX (fun _ q => by cases q)) uc_R_newCell uw_166 uw_168 us_R_newCell uw_1 rfl rfl (by decide +kernel) ⟨by decide, by decide⟩ (g_preV hW gc_R hX [va_rf none, .long 0]) rfl hl.1 rfl (Nat.le_of_ble_eq_true rfl) dR_shared_28 ⟨Nat.le_of_ble_eq_true rfl, Nat.le_of_ble_eq_true rfl⟩) (fun q28 S28 H locs hp28 hW => ?_)
      obtain ⟨eq28, hS28⟩ := hp28
      subst hS28
      subst eq28
      refine k_iast hC hW ((f_newCell_sh _ _ _ _ _).trans sb11) rfl rfl (by decide) j ej hj dR_shared_31 (fun H locs hW => ?_)
      refine s_aload_n (x := some x) hx hb dR_shared_32 rfl (lv_at hl 0 rfl) ?_
      refine s_getr hC hW gc_R iw_R 6 (by decide) uw_78 rfl ((f_newCell_sh _ _ _ _ _).trans hX) (v := some b11) ((f_newCell_r _ _ _ _ _ _ _).trans eb11) dR_shared_33 ?_
      refine lv_iload_n hx hb dR_shared_36 rfl (lv_at hl 1 rfl) ?_
      refine k_iald hC hW ((f_newCell_sh _ _ _ _ _).trans sb11) rfl rfl (by decide) j ej hj rfl dR_shared_37 ?_
      exact s_iret hC hr hlocks rfl hW dR_shared_38 ⟨by rw [f_shared, if_neg c_4, eb11, v_a_s, ej, nI_clamp (by omega), if_pos c_17]; simp only []; rw [x_g_ai_p_ai, if_pos ⟨rfl, rfl, rfl⟩], by rw [f_shared, if_neg c_4, eb11, v_a_s, ej, nI_clamp (by omega), if_pos c_17]⟩
  · skip
    refine lv_bipush (v := (-2)) hx hb dR_shared_7 (by decide) ?_
    exact s_iret hC hr hlocks rfl hW dR_shared_9 ⟨by rw [f_shared, if_pos c_4], by rw [f_shared, if_pos c_4]⟩
