/-! R.makeFresh -/
def f_mf (x co pa : Nat) : Nat → Nat → Int32 → gs_S → Int32 × gs_S
  | 0, _, n, T => (n, T)
  | k + 1, i, n, T => match g_ar T 0 pa i with
    | none => f_mf x co pa k (i + 1) n T
    | some p => if f_li T 61 (some p) (some co) = 0 then f_mf x co pa k (i + 1) n T else f_mf x co pa k (i + 1) (n + (if g_i T 1 7 p = 0 then 0 else 1)) (f_give (p_i T 1 7 p 0) x p)
def f_fresh (S : gs_S) (x co : Nat) : Int32 × gs_S := f_mf x co (v_a (g_r S 2 1 x)) (g_i S 2 2 x).toNatClampNeg 1 0 S

set_option maxHeartbeats 4000000 in
set_option maxRecDepth 100000 in
theorem lp_mf (l : Launch) (G : gs_G) (S : gs_S) (x co n pa : Nat) (hX : g_sh S x = some (.inl 2)) (hco : g_sh S co = some (.inl 1)) (hn : n ≤ 60) (spa : g_sh S pa = some (.inr (0, 61))) {p : Program} {e : Env} {s : State} {m : MethodId} {below : List Frame} {meth : Method} {c : Code} (hC : CallFix p m c cR_makeFresh 5 s #[va_rf (some x), va_rf (some co)] gU yR_makeFresh.cls) (hr : meth.sig.returnType = some .int) (hlocks : meth.locks = false) :
    ∀ (k : Nat) (i : Nat) (cn : Int32) (T : gs_S), i + k = n + 1 → 1 ≤ i → w_t T → (∀ b : Nat, g_sh T b = g_sh S b) → g_i T 2 2 x = nI n → g_r T 2 1 x = some pa → f_mf x co pa n 1 0 S = f_mf x co pa k i cn T → ∀ (ls : Array Slot), lv_has ls 5 [(3, .int (nI i)), (2, .int cn), (0, va_rf (some x)), (1, va_rf (some co))] → ∀ (H : Heap) (locs : List Loc), g_W G (g_A S s.heap.size) s T H locs → W p l e { frames := 3, cells := 0, slots := 0, locals := 66 } s m #[va_rf (some x), va_rf (some co)] below meth c H locs 0 0 (MQ below (g_Qi G S s.heap.size (fun r S' => r = (f_mf x co pa n 1 0 S).1 ∧ S' = (f_mf x co pa n 1 0 S).2)) #[va_rf (some x), va_rf (some co)] s 0 0 (g_A S s.heap.size)) (F0 m 4 ls []) := by
  obtain ⟨hx, hb, hml, hown, hts⟩ := id hC
  intro k
  induction k with
  | zero =>
    intro i  cn  T  hi hi1 hT hs en epa hf ls hl H locs hW
    refine lv_iload_n hx hb dR_makeFresh_4 rfl (lv_at hl 0 rfl) ?_
    refine s_aload_n (x := some x) hx hb dR_makeFresh_5 rfl (lv_at hl 2 rfl) ?_
    refine s_geti hC hW gc_R iw_R 2 (by decide) uw_74 rfl ((hs x).trans hX) (v := nI n) en dR_makeFresh_6 ?_
    refine lv_icmp_gt (tgt := 68) hx hb dR_makeFresh_9 (by decide) (fun c_9 => ?_) (fun c => absurd ((nI_ltI (by omega) (by omega)).mpr (by omega)) c)
    refine lv_iload_n hx hb dR_makeFresh_68 rfl (lv_at hl 1 rfl) ?_
    exact s_iret hC hr hlocks rfl hW dR_makeFresh_69 (by rw [hf]; exact ⟨rfl, rfl⟩)
  | succ k ih =>
    intro i  cn  T  hi hi1 hT hs en epa hf ls hl H locs hW
    refine lv_iload_n hx hb dR_makeFresh_4 rfl (lv_at hl 0 rfl) ?_
    refine s_aload_n (x := some x) hx hb dR_makeFresh_5 rfl (lv_at hl 2 rfl) ?_
    refine s_geti hC hW gc_R iw_R 2 (by decide) uw_74 rfl ((hs x).trans hX) (v := nI n) en dR_makeFresh_6 ?_
    refine lv_icmp_gt (tgt := 68) hx hb dR_makeFresh_9 (by decide) (fun c => absurd ((nI_ltI (by omega) (by omega)).mp c) (by omega)) (fun c_9 => ?_)
    refine s_aload_n (x := some x) hx hb dR_makeFresh_12 rfl (lv_at hl 2 rfl) ?_
    refine s_getr hC hW gc_R iw_R 1 (by decide) uw_73 rfl ((hs x).trans hX) (v := some pa) epa dR_makeFresh_13 ?_
    refine lv_iload_n hx hb dR_makeFresh_16 rfl (lv_at hl 0 rfl) ?_
    obtain ⟨r17, er17⟩ : ∃ r : Option Nat, g_ar T 0 pa i = r := ⟨_, rfl⟩
    refine k_aald hC hW ((hs pa).trans spa) rfl rfl (by decide) i rfl (by omega) (v := r17) er17 dR_makeFresh_17 ?_
    refine s_astore (x := r17) (lv' := [(4, va_rf r17), (3, .int (nI i)), (2, .int cn), (0, va_rf (some x)), (1, va_rf (some co))]) hx hb dR_makeFresh_18 hl (by decide) rfl (fun ls hl => ?_)
    refine s_aload (x := r17) hx hb dR_makeFresh_20 (lv_at hl 0 rfl) ?_
    refine s_ifnull (x := r17) (tgt := 62) hx hb dR_makeFresh_22 (by decide) (fun c_22 => ?_) (fun b_22 c_22 => ?_)
    · skip
      subst c_22
      refine lv_iinc (v := nI (i + 1)) (lv' := [(3, .int (nI (i + 1))), (4, va_rf none), (2, .int cn), (0, va_rf (some x)), (1, va_rf (some co))]) hx hb dR_makeFresh_62 hl (k := 1) rfl (nI_1 _) (by decide) rfl (fun ls hl => ?_)
      refine lv_goto (tgt := 4) hx hb dR_makeFresh_65 (by decide) ?_
      exact ih (i + 1) cn T (by omega) (by omega) hT hs en epa (by rw [hf, f_mf, er17]) ls (lv_sub hl [0, 2, 3, 4] rfl) H locs hW
    · skip
      subst c_22
      have sb_22 := hT.2.2.2.2.1.1 _ ((hs pa).trans spa) _ (by omega) _ er17
      refine s_aload (x := some b_22) hx hb dR_makeFresh_25 (lv_at hl 0 rfl) ?_
      refine s_aload_n (x := some co) hx hb dR_makeFresh_27 rfl (lv_at hl 4 rfl) ?_
      refine s_calli hW (s_runV (n := 1) (As := [va_rf (some co)]) (rest := []) hC (c_P_isOrLiesIn l G T H.size b_22 (some co) hT sb_22) uc_P_isOrLiesIn uw_204 uw_205 uw_206 uw_5 rfl rfl (by decide +kernel) ⟨by decide, by decide⟩ (g_preV hW gc_P sb_22 [va_rf (some co)]) rfl hl.1 rfl (Nat.le_of_ble_eq_true rfl) dR_makeFresh_28 ⟨Nat.le_of_ble_eq_true rfl, Nat.le_of_ble_eq_true rfl⟩) (fun q28 S28 H locs hp28 hW => ?_)
      obtain ⟨hs28, rfl⟩ := hp28
      replace hs28 := hs28.symm
      subst hs28
      refine lv_if_eq (tgt := 62) hx hb dR_makeFresh_31 (by decide) (fun c_31 => ?_) (fun c_31 => ?_)
      · skip
        refine lv_iinc (v := nI (i + 1)) (lv' := [(3, .int (nI (i + 1))), (4, va_rf (some b_22)), (2, .int cn), (0, va_rf (some x)), (1, va_rf (some co))]) hx hb dR_makeFresh_62 hl (k := 1) rfl (nI_1 _) (by decide) rfl (fun ls hl => ?_)
        refine lv_goto (tgt := 4) hx hb dR_makeFresh_65 (by decide) ?_
        exact ih (i + 1) cn T (by omega) (by omega) hT hs en epa (by rw [hf, f_mf, er17]; simp only []; rw [if_pos c_31]) ls (lv_sub hl [0, 2, 3, 4] rfl) H locs hW
      · skip
        refine lv_iload_n hx hb dR_makeFresh_34 rfl (lv_at hl 2 rfl) ?_
        refine s_aload (x := some b_22) hx hb dR_makeFresh_35 (lv_at hl 0 rfl) ?_
        refine s_geti hC hW gc_P iw_P 7 (by decide) uw_141 rfl sb_22 rfl dR_makeFresh_37 ?_
        refine lv_if_eq (tgt := 47) hx hb dR_makeFresh_40 (by decide) (fun c_40 => ?_) (fun c_40 => ?_)
        · skip
          refine lv_iconst (v := 0) hx hb dR_makeFresh_47 (by decide) ?_
          refine lv_iadd hx hb dR_makeFresh_48 ?_
          refine lv_topi (fun v_48 ev_48 => ?_)
          refine lv_istore_n (lv' := [(2, .int v_48), (4, va_rf (some b_22)), (3, .int (nI i)), (0, va_rf (some x)), (1, va_rf (some co))]) hx hb dR_makeFresh_49 rfl hl (by decide) rfl (fun ls hl => ?_)
          refine s_aload (x := some b_22) hx hb dR_makeFresh_50 (lv_at hl 1 rfl) ?_
          refine lv_iconst (v := 0) hx hb dR_makeFresh_52 (by decide) ?_
          refine s_puti hC hW gc_P iw_P 7 (by decide) uw_141 (Or.inl rfl) rfl rfl rfl sb_22 dR_makeFresh_53 (fun H locs hW => ?_)
          refine s_aload_n (x := some x) hx hb dR_makeFresh_56 rfl (lv_at hl 3 rfl) ?_
          refine s_aload (x := some b_22) hx hb dR_makeFresh_57 (lv_at hl 1 rfl) ?_
          refine s_callv hW (s_runV (n := 1) (As := [va_rf (some b_22)]) (rest := []) hC (c_R_giveFirstValues l G (p_i T 1 7 b_22 0) H.size x b_22 hT ((hs x).trans hX) sb_22) uc_R_giveFirstValues uw_260 uw_262 us_R_giveFirstValues uw_1 rfl rfl (by decide +kernel) ⟨by decide, by decide⟩ (g_preV hW gc_R ((hs x).trans hX) [va_rf (some b_22)]) rfl hl.1 rfl (Nat.le_of_ble_eq_true rfl) dR_makeFresh_59 ⟨Nat.le_of_ble_eq_true rfl, Nat.le_of_ble_eq_true rfl⟩) (fun S59 H locs hp59 hW => ?_)
          subst hp59
          refine lv_iinc (v := nI (i + 1)) (lv' := [(3, .int (nI (i + 1))), (2, .int v_48), (4, va_rf (some b_22)), (0, va_rf (some x)), (1, va_rf (some co))]) hx hb dR_makeFresh_62 hl (k := 2) rfl (nI_1 _) (by decide) rfl (fun ls hl => ?_)
          refine lv_goto (tgt := 4) hx hb dR_makeFresh_65 (by decide) ?_
          exact ih (i + 1) v_48 (f_give (p_i T 1 7 b_22 0) x b_22) (by omega) (by omega) (wt_give (wt_pi0 hT (by decide))) hs en epa (by rw [hf, f_mf, er17]; simp only []; rw [if_neg c_31, if_pos c_40, ev_48]) ls (lv_sub hl [0, 1, 3, 4] rfl) H locs hW
        · skip
          refine lv_iconst (v := 1) hx hb dR_makeFresh_43 (by decide) ?_
          refine lv_goto (tgt := 48) hx hb dR_makeFresh_44 (by decide) ?_
          refine lv_iadd hx hb dR_makeFresh_48 ?_
          refine lv_topi (fun v_48 ev_48 => ?_)
          refine lv_istore_n (lv' := [(2, .int v_48), (4, va_rf (some b_22)), (3, .int (nI i)), (0, va_rf (some x)), (1, va_rf (some co))]) hx hb dR_makeFresh_49 rfl hl (by decide) rfl (fun ls hl => ?_)
          refine s_aload (x := some b_22) hx hb dR_makeFresh_50 (lv_at hl 1 rfl) ?_
          refine lv_iconst (v := 0) hx hb dR_makeFresh_52 (by decide) ?_
          refine s_puti hC hW gc_P iw_P 7 (by decide) uw_141 (Or.inl rfl) rfl rfl rfl sb_22 dR_makeFresh_53 (fun H locs hW => ?_)
          refine s_aload_n (x := some x) hx hb dR_makeFresh_56 rfl (lv_at hl 3 rfl) ?_
          refine s_aload (x := some b_22) hx hb dR_makeFresh_57 (lv_at hl 1 rfl) ?_
          refine s_callv hW (s_runV (n := 1) (As := [va_rf (some b_22)]) (rest := []) hC (c_R_giveFirstValues l G (p_i T 1 7 b_22 0) H.size x b_22 hT ((hs x).trans hX) sb_22) uc_R_giveFirstValues uw_260 uw_262 us_R_giveFirstValues uw_1 rfl rfl (by decide +kernel) ⟨by decide, by decide⟩ (g_preV hW gc_R ((hs x).trans hX) [va_rf (some b_22)]) rfl hl.1 rfl (Nat.le_of_ble_eq_true rfl) dR_makeFresh_59 ⟨Nat.le_of_ble_eq_true rfl, Nat.le_of_ble_eq_true rfl⟩) (fun S59 H locs hp59 hW => ?_)
          subst hp59
          refine lv_iinc (v := nI (i + 1)) (lv' := [(3, .int (nI (i + 1))), (2, .int v_48), (4, va_rf (some b_22)), (0, va_rf (some x)), (1, va_rf (some co))]) hx hb dR_makeFresh_62 hl (k := 2) rfl (nI_1 _) (by decide) rfl (fun ls hl => ?_)
          refine lv_goto (tgt := 4) hx hb dR_makeFresh_65 (by decide) ?_
          exact ih (i + 1) v_48 (f_give (p_i T 1 7 b_22 0) x b_22) (by omega) (by omega) (wt_give (wt_pi0 hT (by decide))) hs en epa (by rw [hf, f_mf, er17]; simp only []; rw [if_neg c_31, if_neg c_40, ev_48]) ls (lv_sub hl [0, 1, 3, 4] rfl) H locs hW

set_option maxHeartbeats 4000000 in
set_option maxRecDepth 100000 in
theorem c_R_makeFresh (l : Launch) (G : gs_G) (S : gs_S) (sz : Nat) (x co : Nat) (hWT : w_t S) (hX : g_sh S x = some (.inl 2)) (hco : g_sh S co = some (.inl 1)) : Met l yR_makeFresh (kR_makeFresh :: gU) { frames := 3, cells := 0, slots := 0, locals := 66 } (g_Pc G S sz [va_rf (some x), va_rf (some co)]) (g_Qi G S sz (fun r S' => r = (f_fresh S x co).1 ∧ S' = (f_fresh S x co).2)) 0 0 (g_A S sz) := by
  refine s_head (by decide) (Nat.le_of_ble_eq_true rfl) ?_
  intro p e s m below meth c ls hsz hC hr hlocks hnm hl hW
  subst hsz
  obtain ⟨hx, hb, hml, hown, hts⟩ := id hC
  have hl : lv_has ls 5 [(0, va_rf (some x)), (1, va_rf (some co))] := hl
  refine lv_iconst (v := 0) hx hb dR_makeFresh_0 (by decide) ?_
  refine lv_istore_n (lv' := [(2, .int 0), (0, va_rf (some x)), (1, va_rf (some co))]) hx hb dR_makeFresh_1 rfl hl (by decide) rfl (fun ls hl => ?_)
  refine lv_iconst (v := 1) hx hb dR_makeFresh_2 (by decide) ?_
  refine lv_istore_n (lv' := [(3, .int 1), (2, .int 0), (0, va_rf (some x)), (1, va_rf (some co))]) hx hb dR_makeFresh_3 rfl hl (by decide) rfl (fun ls hl => ?_)
  obtain ⟨n, hn, en⟩ := w_programCount hWT hX
  obtain ⟨pa, epa, spa⟩ := w_programs hWT hX
  have e1 : (fun (r : Int32) (S1 : gs_S) => r = (f_fresh S x co).1 ∧ S1 = (f_fresh S x co).2) = (fun r S1 => r = (f_mf x co pa n 1 0 S).1 ∧ S1 = (f_mf x co pa n 1 0 S).2) := by funext r S1; rw [f_fresh, epa, en, nI_clamp (by omega)]; rfl
  rw [e1]
  exact lp_mf l G S x co n pa hX hco hn spa hC hr hlocks n 1 0 S (by omega) (by omega) hWT (fun _ => rfl) en epa rfl ls hl _ _ hW

/-! R.newCell -/
def f_newCell (S : gs_S) (x : Nat) (o : Option Nat) (v : Int64) : Int32 × gs_S := if g_i S 2 5 x < 200 then (g_i S 2 5 x, p_i (p_al (p_al (p_ar S 1 (v_a (g_r S 2 3 x)) (g_i S 2 5 x).toNatClampNeg o) 2 (v_a (g_r S 2 4 x)) (g_i S 2 5 x).toNatClampNeg v) 9 (v_a (g_r S 0 8 (v_a (g_r S 2 7 x)))) (16 + (g_i S 2 5 x).toNatClampNeg) v) 2 5 x (g_i S 2 5 x + 1)) else (-1, S)

set_option maxHeartbeats 4000000 in
set_option maxRecDepth 100000 in
theorem c_R_newCell (l : Launch) (G : gs_G) (S : gs_S) (sz : Nat) (x : Nat) (o : Option Nat) (v : Int64) (hWT : w_t S) (hX : g_sh S x = some (.inl 2)) (ho : t_o S 1 o) : Met l yR_newCell (kR_newCell :: gU) { frames := 2, cells := 0, slots := 0, locals := 43 } (g_Pc G S sz [va_rf (some x), va_rf o, .long v]) (g_Qi G S sz (fun r S' => r = (f_newCell S x o v).1 ∧ S' = (f_newCell S x o v).2)) 0 0 (g_A S sz) := by
  refine s_head (by decide) (by simp [lg_sl, s_cat, s_catI, s_catL]) ?_
  intro p e s m below meth c ls hsz hC hr hlocks hnm hl hW
  subst hsz
  obtain ⟨hx, hb, hml, hown, hts⟩ := id hC
  have hl : lv_has ls 4 [(0, va_rf (some x)), (1, va_rf o), (2, .long v)] := by simpa [lv_args, s_cat, s_catI, s_catL] using hl
  obtain ⟨n, hn, en⟩ := w_cellCount hWT hX
  refine s_aload_n (x := some x) hx hb dR_newCell_0 rfl (lv_at hl 0 rfl) ?_
  refine s_geti hC hW gc_R iw_R 5 (by decide) uw_77 rfl hX (v := nI n) en dR_newCell_1 ?_
  refine lv_sipush (v := 200) hx hb dR_newCell_4 (by decide) ?_
  refine lv_icmp_lt (tgt := 12) hx hb dR_newCell_7 (by decide) (fun c_7 => ?_) (fun c_7 => ?_)
  · skip
    have hn2 : n < 200 := (nI_ltI (b := 200) (by omega) (by omega)).mp c_7
    refine s_aload_n (x := some x) hx hb dR_newCell_12 rfl (lv_at hl 0 rfl) ?_
    obtain ⟨b13, eb13, sb13⟩ := w_owners hWT hX
    refine s_getr hC hW gc_R iw_R 3 (by decide) uw_75 rfl hX (v := some b13) eb13 dR_newCell_13 ?_
    refine s_aload_n (x := some x) hx hb dR_newCell_16 rfl (lv_at hl 0 rfl) ?_
    refine s_geti hC hW gc_R iw_R 5 (by decide) uw_77 rfl hX (v := nI n) en dR_newCell_17 ?_
    refine s_aload_n (x := o) hx hb dR_newCell_20 rfl (lv_at hl 1 rfl) ?_
    refine k_aast (x := o) hC hW gc_P sb13 rfl rfl (by decide) (fun b q => ho b (rfl.trans q)) n rfl (by omega) dR_newCell_21 (fun H locs hW => ?_)
    refine s_aload_n (x := some x) hx hb dR_newCell_22 rfl (lv_at hl 0 rfl) ?_
    obtain ⟨b23, eb23, sb23⟩ := w_firstValues hWT hX
    refine s_getr hC hW gc_R iw_R 4 (by decide) uw_76 rfl hX (v := some b23) eb23 dR_newCell_23 ?_
    refine s_aload_n (x := some x) hx hb dR_newCell_26 rfl (lv_at hl 0 rfl) ?_
    refine s_geti hC hW gc_R iw_R 5 (by decide) uw_77 rfl hX (v := nI n) en dR_newCell_27 ?_
    refine lv_lload_n hx hb dR_newCell_30 rfl (lv_at hl 2 rfl) ?_
    refine k_last hC hW sb23 rfl rfl (by decide) n rfl (by omega) dR_newCell_31 (fun H locs hW => ?_)
    refine s_aload_n (x := some x) hx hb dR_newCell_32 rfl (lv_at hl 0 rfl) ?_
    obtain ⟨b33, eb33, sb33⟩ := w_bottom hWT hX
    refine s_getr hC hW gc_R iw_R 7 (by decide) uw_79 rfl hX (v := some b33) eb33 dR_newCell_33 ?_
    obtain ⟨b36, eb36, sb36⟩ := w_values hWT sb33
    refine s_getr hC hW gc_L iw_L 8 (by decide) uw_43 rfl sb33 (v := some b36) eb36 dR_newCell_36 ?_
    refine s_aload_n (x := some x) hx hb dR_newCell_39 rfl (lv_at hl 0 rfl) ?_
    refine s_aload_n (x := some x) hx hb dR_newCell_40 rfl (lv_at hl 0 rfl) ?_
    refine s_geti hC hW gc_R iw_R 5 (by decide) uw_77 rfl hX (v := nI n) en dR_newCell_41 ?_
    refine s_calli hW (s_runV (n := 1) (As := [.int (nI n)]) (rest := [va_rf (some b36)]) hC (c_R_placeOf l G (p_al (p_ar S 1 b13 n o) 2 b23 n v) H.size x (nI n) (wt_pal (wt_par hWT (fun z => absurd z (by decide)) (fun z => absurd z (by decide)) (fun _ => ho))) hX) uc_R_placeOf uw_170 uw_172 us_R_placeOf uw_1 rfl rfl (by decide +kernel) ⟨by decide, by decide⟩ (g_preV hW gc_R hX [.int (nI n)]) rfl hl.1 rfl (Nat.le_of_ble_eq_true rfl) dR_newCell_44 ⟨Nat.le_of_ble_eq_true rfl, Nat.le_of_ble_eq_true rfl⟩) (fun q44 S44 H locs hp44 hW => ?_)
    obtain ⟨hs44, rfl⟩ := hp44
    replace hs44 := hs44.symm
    subst hs44
    refine lv_lload_n hx hb dR_newCell_47 rfl (lv_at hl 2 rfl) ?_
    refine k_last hC hW sb36 rfl rfl (by decide) (16 + n) (f_place_i (by omega)) (by omega) dR_newCell_48 (fun H locs hW => ?_)
    refine s_aload_n (x := some x) hx hb dR_newCell_49 rfl (lv_at hl 0 rfl) ?_
    refine lv_dup hx hb dR_newCell_50 rfl ?_
    refine s_geti hC hW gc_R iw_R 5 (by decide) uw_77 rfl hX (v := nI n) en dR_newCell_51 ?_
    refine lv_iconst (v := 1) hx hb dR_newCell_54 (by decide) ?_
    refine lv_iadd hx hb dR_newCell_55 ?_
    refine s_puti hC hW gc_R iw_R 5 (by decide) uw_77 (Or.inl rfl) rfl rfl rfl hX dR_newCell_56 (fun H locs hW => ?_)
    refine s_aload_n (x := some x) hx hb dR_newCell_59 rfl (lv_at hl 0 rfl) ?_
    refine s_geti hC hW gc_R iw_R 5 (by decide) uw_77 rfl hX rfl dR_newCell_60 ?_
    refine lv_iconst (v := 1) hx hb dR_newCell_63 (by decide) ?_
    refine lv_isub hx hb dR_newCell_64 ?_
    exact s_iret hC hr hlocks rfl hW dR_newCell_65 ⟨by rw [f_newCell, en, if_pos c_7, x_g_i_p_i, if_pos ⟨rfl, rfl, rfl⟩, nI_1, nI_pred], by rw [f_newCell, en, if_pos c_7, nI_clamp (by omega)]; simp only [v_a, Option.getD_some, eb13, eb23, eb33, eb36]⟩
  · skip
    refine lv_iconst (v := (-1)) hx hb dR_newCell_10 (by decide) ?_
    exact s_iret hC hr hlocks rfl hW dR_newCell_11 ⟨by rw [f_newCell, en, if_neg c_7], by rw [f_newCell, en, if_neg c_7]⟩

/-! Level(below), Program(..) -/
theorem sh_nA {S : gs_S} {r n q a : Nat} {x : Nat ⊕ (Nat × Nat)} (ha : g_sh S a = some x) (hq : g_sh S q = none) : g_sh (p_newA S r n q) a = some x := by
  rw [x_sh_newA, if_neg (fun z => by subst z; rw [ha] at hq; cases hq)]
  exact ha
theorem sh_nO {S : gs_S} {c q a : Nat} {x : Nat ⊕ (Nat × Nat)} (ha : g_sh S a = some x) (hq : g_sh S q = none) : g_sh (p_new S c q) a = some x := by
  rw [x_sh_new, if_neg (fun z => by subst z; rw [ha] at hq; cases hq)]
  exact ha
theorem gd_L : ∀ j, j < 9 → defaultValue (tyL j) = vp_V ((gk_kinds.getD 0 []).map g_dflt) j := by decide +kernel
theorem gd_P : ∀ j, j < 9 → defaultValue (tyP j) = vp_V ((gk_kinds.getD 1 []).map g_dflt) j := by decide +kernel
theorem gd_R : ∀ j, j < 12 → defaultValue (tyR j) = vp_V ((gk_kinds.getD 2 []).map g_dflt) j := by decide +kernel
theorem gd_M : ∀ j, j < 29 → defaultValue (tyM j) = vp_V ((gk_kinds.getD 3 []).map g_dflt) j := by decide +kernel
def i_L1 (S : gs_S) (q h : Nat) : gs_S := p_r (p_newA S 6 16 h) 0 5 q (some h)
def i_L2 (S : gs_S) (q h pl : Nat) : gs_S := p_r (p_newA (i_L1 S q h) 7 16 pl) 0 6 q (some pl)
def i_L3 (S : gs_S) (q h pl bb : Nat) : gs_S := p_r (p_newA (i_L2 S q h pl) 8 16 bb) 0 7 q (some bb)
def i_L4 (S : gs_S) (q h pl bb va : Nat) : gs_S := p_r (p_newA (i_L3 S q h pl bb) 9 216 va) 0 8 q (some va)
def i_L (S : gs_S) (q : Nat) (be : Option Nat) (h pl bb va : Nat) : gs_S := p_r (i_L4 S q h pl bb va) 0 0 q be
def i_Lf (S : gs_S) (q h pl bb va : Nat) : Prop := g_sh S h = none ∧ g_sh (i_L1 S q h) pl = none ∧ g_sh (i_L2 S q h pl) bb = none ∧ g_sh (i_L3 S q h pl bb) va = none

set_option maxHeartbeats 4000000 in
set_option maxRecDepth 100000 in
theorem c_L_init (l : Launch) (G : gs_G) (S : gs_S) (sz : Nat) (q : Nat) (be : Option Nat) (hq : g_sh S q = some (.inl 0)) : Met l yL_init (kL_init :: gU) { frames := 1, cells := 4, slots := 264, locals := 12 } (g_Pc G S sz [va_rf (some q), va_rf be]) (g_Qv G S sz (fun S' => ∃ h pl bb va : Nat, i_Lf S q h pl bb va ∧ S' = i_L S q be h pl bb va)) 4 264 (g_A S sz) := by
  refine s_head (by decide) (by simp [lg_sl, s_cat, s_catI, s_catL]) ?_
  intro p e s m below meth c ls hsz hC hr hlocks hnm hl hW
  subst hsz
  obtain ⟨hx, hb, hml, hown, hts⟩ := id hC
  have hl : lv_has ls 2 [(0, va_rf (some q)), (1, va_rf be)] := by simpa [lv_args, s_cat, s_catI, s_catL] using hl
  refine s_aload_n (x := some q) hx hb dL_init_0 rfl (lv_at hl 0 rfl) ?_
  refine W.objInit hx hb hown (hts _ uw_25) (hts _ uw_16) (hts _ uw_17) rfl (by rw [hml]; exact hl.1) rfl dL_init_1 (Nat.le_of_ble_eq_true rfl) (Nat.le_of_ble_eq_true rfl) ?_
  refine W.eq (g2 := F0 m 4 ls []) rfl ?_
  refine s_aload_n (x := some q) hx hb dL_init_4 rfl (lv_at hl 0 rfl) ?_
  refine lv_bipush (v := 16) hx hb dL_init_5 (by decide) ?_
  refine s_newQ (n := 16) hC hW 6 rfl rfl uw_26 hW.1.2.2 (by decide) (by decide) (by decide) (Nat.le_of_ble_eq_true rfl) (Nat.le_of_ble_eq_true rfl) dL_init_7 (fun q7 H f7 hW => ?_)
  refine s_putr (v := some q7) hC hW gc_L iw_L 5 (by decide) uw_36 (Or.inr ⟨rfl, hnm, rfl⟩) (g_nra _) (g_fta _) rfl (sh_nA hq f7) dL_init_10 (fun H locs hW => ?_)
  refine s_aload_n (x := some q) hx hb dL_init_13 rfl (lv_at hl 0 rfl) ?_
  refine lv_bipush (v := 16) hx hb dL_init_14 (by decide) ?_
  refine s_newI (n := 16) hC hW 7 rfl rfl uw_64 (by decide) (by decide) (by decide) (Nat.le_of_ble_eq_true rfl) (Nat.le_of_ble_eq_true rfl) dL_init_16 (fun q16 H f16 hW => ?_)
  refine s_putr (v := some q16) hC hW gc_L iw_L 6 (by decide) uw_38 (Or.inr ⟨rfl, hnm, rfl⟩) (g_nra _) (g_fta _) rfl (sh_nA (sh_nA hq f7) f16) dL_init_18 (fun H locs hW => ?_)
  refine s_aload_n (x := some q) hx hb dL_init_21 rfl (lv_at hl 0 rfl) ?_
  refine lv_bipush (v := 16) hx hb dL_init_22 (by decide) ?_
  refine s_newI (n := 16) hC hW 8 rfl rfl uw_64 (by decide) (by decide) (by decide) (Nat.le_of_ble_eq_true rfl) (Nat.le_of_ble_eq_true rfl) dL_init_24 (fun q24 H f24 hW => ?_)
  refine s_putr (v := some q24) hC hW gc_L iw_L 7 (by decide) uw_40 (Or.inr ⟨rfl, hnm, rfl⟩) (g_nra _) (g_fta _) rfl (sh_nA (sh_nA (sh_nA hq f7) f16) f24) dL_init_26 (fun H locs hW => ?_)
  refine s_aload_n (x := some q) hx hb dL_init_29 rfl (lv_at hl 0 rfl) ?_
  refine lv_sipush (v := 216) hx hb dL_init_30 (by decide) ?_
  refine s_newL (n := 216) hC hW 9 rfl rfl uw_63 (by decide) (by decide) (by decide) (Nat.le_of_ble_eq_true rfl) (Nat.le_of_ble_eq_true rfl) dL_init_33 (fun q33 H f33 hW => ?_)
  refine s_putr (v := some q33) hC hW gc_L iw_L 8 (by decide) uw_42 (Or.inr ⟨rfl, hnm, rfl⟩) (g_nra _) (g_fta _) rfl (sh_nA (sh_nA (sh_nA (sh_nA hq f7) f16) f24) f33) dL_init_35 (fun H locs hW => ?_)
  refine s_aload_n (x := some q) hx hb dL_init_38 rfl (lv_at hl 0 rfl) ?_
  refine s_aload_n (x := be) hx hb dL_init_39 rfl (lv_at hl 1 rfl) ?_
  refine s_putr (v := be) hC hW gc_L iw_L 0 (by decide) uw_28 (Or.inr ⟨rfl, hnm, rfl⟩) (g_nr _) (g_ft _) rfl (sh_nA (sh_nA (sh_nA (sh_nA hq f7) f16) f24) f33) dL_init_40 (fun H locs hW => ?_)
  exact s_vret hC hr hlocks hW dL_init_43 ⟨q7, q16, q24, q33, ⟨f7, f16, f24, f33⟩, rfl⟩

def i_P1 (S : gs_S) (q h : Nat) : gs_S := p_r (p_newA S 4 16 h) 1 4 q (some h)
def i_P2 (S : gs_S) (q h b : Nat) : gs_S := p_r (p_newA (i_P1 S q h) 5 16 b) 1 5 q (some b)
def i_P (S : gs_S) (q : Nat) (o : Option Nat) (n nm mk : Int32) (h b : Nat) : gs_S := p_i (p_i (p_i (p_r (i_P2 S q h b) 1 0 q o) 1 1 q n) 1 2 q nm) 1 3 q mk
def i_Pf (S : gs_S) (q h b : Nat) : Prop := g_sh S h = none ∧ g_sh (i_P1 S q h) b = none

set_option maxHeartbeats 4000000 in
set_option maxRecDepth 100000 in
theorem c_P_init (l : Launch) (G : gs_G) (S : gs_S) (sz : Nat) (q : Nat) (o : Option Nat) (n nm mk : Int32) (hq : g_sh S q = some (.inl 1)) : Met l yP_init (kP_init :: gU) { frames := 1, cells := 2, slots := 32, locals := 12 } (g_Pc G S sz [va_rf (some q), va_rf o, .int n, .int nm, .int mk]) (g_Qv G S sz (fun S' => ∃ h b : Nat, i_Pf S q h b ∧ S' = i_P S q o n nm mk h b)) 2 32 (g_A S sz) := by
  refine s_head (by decide) (by simp [lg_sl, s_cat, s_catI, s_catL]) ?_
  intro p e s m below meth c ls hsz hC hr hlocks hnm hl hW
  subst hsz
  obtain ⟨hx, hb, hml, hown, hts⟩ := id hC
  have hl : lv_has ls 5 [(0, va_rf (some q)), (1, va_rf o), (2, .int n), (3, .int nm), (4, .int mk)] := by simpa [lv_args, s_cat, s_catI, s_catL] using hl
  refine s_aload_n (x := some q) hx hb dP_init_0 rfl (lv_at hl 0 rfl) ?_
  refine W.objInit hx hb hown (hts _ uw_128) (hts _ uw_16) (hts _ uw_17) rfl (by rw [hml]; exact hl.1) rfl dP_init_1 (Nat.le_of_ble_eq_true rfl) (Nat.le_of_ble_eq_true rfl) ?_
  refine W.eq (g2 := F0 m 4 ls []) rfl ?_
  refine s_aload_n (x := some q) hx hb dP_init_4 rfl (lv_at hl 0 rfl) ?_
  refine lv_bipush (v := 16) hx hb dP_init_5 (by decide) ?_
  refine s_newI (n := 16) hC hW 4 rfl rfl uw_64 (by decide) (by decide) (by decide) (Nat.le_of_ble_eq_true rfl) (Nat.le_of_ble_eq_true rfl) dP_init_7 (fun q7 H f7 hW => ?_)
  refine s_putr (v := some q7) hC hW gc_P iw_P 4 (by decide) uw_136 (Or.inr ⟨rfl, hnm, rfl⟩) (g_nra _) (g_fta _) rfl (sh_nA hq f7) dP_init_9 (fun H locs hW => ?_)
  refine s_aload_n (x := some q) hx hb dP_init_12 rfl (lv_at hl 0 rfl) ?_
  refine lv_bipush (v := 16) hx hb dP_init_13 (by decide) ?_
  refine s_newI (n := 16) hC hW 5 rfl rfl uw_64 (by decide) (by decide) (by decide) (Nat.le_of_ble_eq_true rfl) (Nat.le_of_ble_eq_true rfl) dP_init_15 (fun q15 H f15 hW => ?_)
  refine s_putr (v := some q15) hC hW gc_P iw_P 5 (by decide) uw_138 (Or.inr ⟨rfl, hnm, rfl⟩) (g_nra _) (g_fta _) rfl (sh_nA (sh_nA hq f7) f15) dP_init_17 (fun H locs hW => ?_)
  refine s_aload_n (x := some q) hx hb dP_init_20 rfl (lv_at hl 0 rfl) ?_
  refine s_aload_n (x := o) hx hb dP_init_21 rfl (lv_at hl 1 rfl) ?_
  refine s_putr (v := o) hC hW gc_P iw_P 0 (by decide) uw_129 (Or.inr ⟨rfl, hnm, rfl⟩) (g_nr _) (g_ft _) rfl (sh_nA (sh_nA hq f7) f15) dP_init_22 (fun H locs hW => ?_)
  refine s_aload_n (x := some q) hx hb dP_init_25 rfl (lv_at hl 0 rfl) ?_
  refine lv_iload_n hx hb dP_init_26 rfl (lv_at hl 2 rfl) ?_
  refine s_puti hC hW gc_P iw_P 1 (by decide) uw_131 (Or.inr ⟨rfl, hnm, rfl⟩) rfl rfl rfl (sh_nA (sh_nA hq f7) f15) dP_init_27 (fun H locs hW => ?_)
  refine s_aload_n (x := some q) hx hb dP_init_30 rfl (lv_at hl 0 rfl) ?_
  refine lv_iload_n hx hb dP_init_31 rfl (lv_at hl 3 rfl) ?_
  refine s_puti hC hW gc_P iw_P 2 (by decide) uw_133 (Or.inr ⟨rfl, hnm, rfl⟩) rfl rfl rfl (sh_nA (sh_nA hq f7) f15) dP_init_32 (fun H locs hW => ?_)
  refine s_aload_n (x := some q) hx hb dP_init_35 rfl (lv_at hl 0 rfl) ?_
  refine lv_iload hx hb dP_init_36 (lv_at hl 4 rfl) ?_
  refine s_puti hC hW gc_P iw_P 3 (by decide) uw_135 (Or.inr ⟨rfl, hnm, rfl⟩) rfl rfl rfl (sh_nA (sh_nA hq f7) f15) dP_init_38 (fun H locs hW => ?_)
  exact s_vret hC hr hlocks hW dP_init_41 ⟨q7, q15, ⟨f7, f15⟩, rfl⟩

theorem sh_iL {S : gs_S} {q h pl bb va a : Nat} {be : Option Nat} {x : Nat ⊕ (Nat × Nat)} (ha : g_sh S a = some x) (hf : i_Lf S q h pl bb va) : g_sh (i_L S q be h pl bb va) a = some x := sh_nA (S := i_L3 S q h pl bb) (sh_nA (S := i_L2 S q h pl) (sh_nA (S := i_L1 S q h) (sh_nA ha hf.1) hf.2.1) hf.2.2.1) hf.2.2.2

set_option maxHeartbeats 4000000 in
set_option maxRecDepth 100000 in
theorem c_R_levelAbove (l : Launch) (G : gs_G) (S : gs_S) (sz : Nat) (a : Nat) (hWT : w_t S) (ha : g_sh S a = some (.inl 0)) : Met l yR_levelAbove (kR_levelAbove :: gU) { frames := 2, cells := 5, slots := 273, locals := 33 } (g_Pc G S sz [va_rf (some a)]) (g_Qq G S sz (fun r S' => (∃ u : Nat, g_r S 0 1 a = some u ∧ S' = S ∧ r = some u) ∨ (g_r S 0 1 a = none ∧ ∃ q h pl bb va : Nat, g_sh S q = none ∧ i_Lf (p_new S 0 q) q h pl bb va ∧ S' = p_r (i_L (p_new S 0 q) q (some a) h pl bb va) 0 1 a (some q) ∧ r = some q))) 5 273 (g_A S sz) := by
  refine s_head (by decide) (Nat.le_of_ble_eq_true rfl) ?_
  intro p e s m below meth c ls hsz hC hr hlocks hnm hl hW
  subst hsz
  obtain ⟨hx, hb, hml, hown, hts⟩ := id hC
  have hl : lv_has ls 1 [(0, va_rf (some a))] := hl
  refine s_aload_n (x := some a) hx hb dR_levelAbove_0 rfl (lv_at hl 0 rfl) ?_
  obtain ⟨r1, er1⟩ : ∃ r : Option Nat, g_r S 0 1 a = r := ⟨_, rfl⟩
  refine s_getr hC hW gc_L iw_L 1 (by decide) uw_30 rfl ha (v := r1) er1 dR_levelAbove_1 ?_
  refine s_ifnonnull (x := r1) (tgt := 19) hx hb dR_levelAbove_4 (by decide) (fun b_4 c_4 => ?_) (fun c_4 => ?_)
  · skip
    subst c_4
    have sb_4 := w_above hWT ha _ er1
    refine s_aload_n (x := some a) hx hb dR_levelAbove_19 rfl (lv_at hl 0 rfl) ?_
    refine s_getr hC hW gc_L iw_L 1 (by decide) uw_30 rfl ha (v := some b_4) er1 dR_levelAbove_20 ?_
    refine W.widen (k := 5) (n := 273) (by omega) (by omega) ?_
    exact s_aret (v := some b_4) hC hr hlocks hW dR_levelAbove_23 (Or.inl ⟨b_4, er1, rfl, rfl⟩)
  · skip
    subst c_4
    refine s_aload_n (x := some a) hx hb dR_levelAbove_7 rfl (lv_at hl 0 rfl) ?_
    refine s_new hC hW gc_L iw_L uw_20 uw_21 uw_2 gd_L (Nat.le_of_ble_eq_true rfl) (Nat.le_of_ble_eq_true rfl) dR_levelAbove_8 (fun q8 H f8 hW => ?_)
    refine lv_dup hx hb dR_levelAbove_11 rfl ?_
    refine s_aload_n (x := some a) hx hb dR_levelAbove_12 rfl (lv_at hl 0 rfl) ?_
    refine s_callv hW (s_runI (n := 1) (As := [va_rf (some a)]) (rest := [va_rf (some q8), va_rf (some a)]) hC (c_L_init l G (p_new S 0 q8) H.size q8 (some a) g_sh_new) uc_L_init uw_22 uw_23 uw_2 rfl rfl rfl (by decide +kernel) ⟨by decide, by decide⟩ (g_preS hW (.ref q8 :: [va_rf (some a)])) rfl hl.1 rfl (Nat.le_of_ble_eq_true rfl) dR_levelAbove_13 ⟨Nat.le_of_ble_eq_true rfl, Nat.le_of_ble_eq_true rfl⟩) (fun S13 H locs hp13 hW => ?_)
    obtain ⟨h13, pl13, bb13, va13, hf13, hS13⟩ := hp13
    subst hS13
    refine s_putr (v := some q8) hC hW gc_L iw_L 1 (by decide) uw_30 (Or.inl rfl) (g_nr _) (g_ft _) rfl (sh_iL (be := some a) (sh_nO ha f8) hf13) dR_levelAbove_16 (fun H locs hW => ?_)
    refine s_aload_n (x := some a) hx hb dR_levelAbove_19 rfl (lv_at hl 0 rfl) ?_
    refine s_getr hC hW gc_L iw_L 1 (by decide) uw_30 rfl (sh_iL (be := some a) (sh_nO ha f8) hf13) (v := some q8) (by rw [x_g_r_p_r, if_pos ⟨rfl, rfl, rfl⟩]) dR_levelAbove_20 ?_
    exact s_aret (v := some q8) hC hr hlocks hW dR_levelAbove_23 (Or.inr ⟨er1, q8, h13, pl13, bb13, va13, f8, hf13, rfl, rfl⟩)
