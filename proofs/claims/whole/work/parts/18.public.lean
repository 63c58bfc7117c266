theorem t_holder {S : gs_S} {x : Nat} {n : Int32} (hWT : w_t S) (hX : g_sh S x = some (.inl 2)) : t_o S 0 (f_holder S x n) := by
  obtain ⟨tp, etp, stp⟩ := w_top hWT hX
  have erun : f_run S x = g_r S 0 2 tp := by rw [f_run, f_top, etp, v_a_s]
  unfold f_holder
  split
  · rename_i c1
    split
    · rename_i c2
      split
      · exact t_no (w_bottom hWT hX)
      · rename_i o ho
        obtain ⟨ck, hck, eck⟩ := w_cellCount hWT hX
        obtain ⟨ow, eow, sow⟩ := w_owners hWT hX
        obtain ⟨j, hj, ej⟩ := x_cell hck eck c1 c2
        rw [eow, v_a_s, ej, nI_clamp (by omega)] at ho
        split
        · intro b hb; cases hb
        · split
          · intro b hb; cases hb
          · exact t_no (t_data hWT hX (hWT.2.2.2.2.1.2 ow sow j (by omega) o ho))
    · intro b hb; cases hb
  · rename_i c1
    split
    · intro b hb; cases hb
    · rename_i p hp
      split
      · intro b hb; cases hb
      · rename_i c2
        rw [erun] at hp
        obtain ⟨fk, hfk, efk⟩ := w_formals hWT (w_program hWT stp p hp)
        obtain ⟨h, eh, sh_⟩ := w_holders hWT stp
        obtain ⟨j, hj, ej⟩ := x_ngt hfk efk c1 rfl c2
        rw [f_top, etp, v_a_s, eh, v_a_s, ej, nI_clamp (by omega)]
        exact hWT.2.1 h sh_ j (by omega)
theorem x_hold {S : gs_S} {x b : Nat} {n : Int32} (hWT : w_t S) (hX : g_sh S x = some (.inl 2)) (h : f_holder S x n = some b) : ∃ q : Nat, q < 216 ∧ f_place S x n = nI q := by
  obtain ⟨tp, etp, stp⟩ := w_top hWT hX
  have erun : f_run S x = g_r S 0 2 tp := by rw [f_run, f_top, etp, v_a_s]
  unfold f_holder at h
  split at h
  · rename_i c1
    split at h
    · rename_i c2
      obtain ⟨ck, hck, eck⟩ := w_cellCount hWT hX
      obtain ⟨j, hj, ej⟩ := x_cell hck eck c1 c2
      exact ⟨16 + j, by omega, by rw [ej]; exact f_place_i (by omega)⟩
    · cases h
  · rename_i c1
    split at h
    · cases h
    · rename_i p hp
      split at h
      · cases h
      · rename_i c2
        obtain ⟨fk, hfk, efk⟩ := w_formals hWT (w_program hWT stp p (erun.symm.trans hp))
        obtain ⟨j, hj, ej⟩ := x_ngt hfk efk c1 rfl c2
        obtain ⟨pl, epl, spl⟩ := w_places hWT stp
        obtain ⟨q, hq, eq⟩ := hWT.2.2.1 pl spl j (by omega)
        refine ⟨q, hq, ?_⟩
        rw [f_place, if_neg (fml_1 hp c1 c2), f_top, etp, v_a_s, epl, v_a_s, ej, nI_clamp (by omega)]
        exact eq

/-! R.set -/
def f_mask (u : Int32) : Int64 := ((-1 : Int64).toUInt64 >>> (u.toInt64.toUInt64 &&& Int64.toUInt64 63)).toInt64
def f_set (S : gs_S) (x : Nat) (n : Int32) (v : Int64) : Int32 × gs_S := match f_holder S x n with
  | none => (-2, S)
  | some b => (1, p_al S 9 (v_a (g_r S 0 8 b)) (f_place S x n).toNatClampNeg ((g_al S 9 (v_a (g_r S 0 8 b)) (f_place S x n).toNatClampNeg &&& (f_mask (f_unused S x n) ^^^ (-1))) ||| (v &&& f_mask (f_unused S x n))))

set_option maxHeartbeats 4000000 in
set_option maxRecDepth 100000 in
theorem c_R_set (l : Launch) (G : gs_G) (S : gs_S) (sz : Nat) (x : Nat) (n : Int32) (v : Int64) (hWT : w_t S) (hX : g_sh S x = some (.inl 2)) : Met l yR_set (kR_set :: gU) { frames := 3, cells := 0, slots := 0, locals := 66 } (g_Pc G S sz [va_rf (some x), .int n, .long v]) (g_Qi G S sz (fun r S' => r = (f_set S x n v).1 ∧ S' = (f_set S x n v).2)) 0 0 (g_A S sz) := by
  refine s_head (by decide) (Nat.le_of_ble_eq_true rfl) ?_
  intro p e s m below meth c ls hsz hC hr hlocks hnm hl hW
  subst hsz
  obtain ⟨hx, hb, hml, hown, hts⟩ := id hC
  have hl : lv_has ls 8 [(0, va_rf (some x)), (1, .int n), (2, .long v)] := hl
  refine s_aload_n (x := some x) hx hb dR_set_0 rfl (lv_at hl 0 rfl) ?_
  refine lv_iload_n hx hb dR_set_1 rfl (lv_at hl 1 rfl) ?_
  refine s_callq hW (s_runV (n := 1) (As := [.int n]) (rest := []) hC (c_R_holderOf l G S s.heap.size x n hWT hX) uc_R_holderOf uw_219 uw_221 us_R_holderOf uw_1 rfl rfl (by decide +kernel) ⟨by decide, by decide⟩ (g_preV hW gc_R hX [.int n]) rfl hl.1 rfl (Nat.le_of_ble_eq_true rfl) dR_set_2 ⟨Nat.le_of_ble_eq_true rfl, Nat.le_of_ble_eq_true rfl⟩) (fun rq2 S2 H locs hp2 hW => ?_)
  obtain ⟨hs2, erq2⟩ := hp2
  replace hs2 := hs2.symm
  subst hs2
  refine s_astore (x := rq2) (lv' := [(4, va_rf rq2), (0, va_rf (some x)), (1, .int n), (2, .long v)]) hx hb dR_set_5 hl (by decide) rfl (fun ls hl => ?_)
  refine s_aload (x := rq2) hx hb dR_set_7 (lv_at hl 0 rfl) ?_
  refine s_ifnonnull (x := rq2) (tgt := 15) hx hb dR_set_9 (by decide) (fun b_9 c_9 => ?_) (fun c_9 => ?_)
  · skip
    subst c_9
    have sb_9 := t_holder hWT hX _ erq2.symm
    obtain ⟨q, hq, eq⟩ := x_hold hWT hX erq2.symm
    refine lv_ldc2 (v := (-1)) hx hb hown (hts _ uw_268) dR_set_15 ?_
    refine s_aload_n (x := some x) hx hb dR_set_18 rfl (lv_at hl 1 rfl) ?_
    refine lv_iload_n hx hb dR_set_19 rfl (lv_at hl 2 rfl) ?_
    refine s_calli hW (s_runV (n := 1) (As := [.int n]) (rest := [.long (-1)]) hC (c_R_unusedBits l G S H.size x n hWT hX) uc_R_unusedBits uw_269 uw_271 us_R_unusedBits uw_1 rfl rfl (by decide +kernel) ⟨by decide, by decide⟩ (g_preV hW gc_R hX [.int n]) rfl hl.1 rfl (Nat.le_of_ble_eq_true rfl) dR_set_20 ⟨Nat.le_of_ble_eq_true rfl, Nat.le_of_ble_eq_true rfl⟩) (fun q20 S20 H locs hp20 hW => ?_)
    obtain ⟨hs20, rfl⟩ := hp20
    replace hs20 := hs20.symm
    subst hs20
    refine lv_lushr hx hb dR_set_23 rfl ?_
    refine lv_topl (fun v_23 ev_23 => ?_)
    refine lv_lstore (lv' := [(5, .long v_23), (4, va_rf (some b_9)), (0, va_rf (some x)), (1, .int n), (2, .long v)]) hx hb dR_set_24 hl (by decide) rfl (fun ls hl => ?_)
    refine s_aload_n (x := some x) hx hb dR_set_26 rfl (lv_at hl 2 rfl) ?_
    refine lv_iload_n hx hb dR_set_27 rfl (lv_at hl 3 rfl) ?_
    refine s_calli hW (s_runV (n := 1) (As := [.int n]) (rest := []) hC (c_R_placeOf l G S H.size x n hWT hX) uc_R_placeOf uw_170 uw_172 us_R_placeOf uw_1 rfl rfl (by decide +kernel) ⟨by decide, by decide⟩ (g_preV hW gc_R hX [.int n]) rfl hl.1 rfl (Nat.le_of_ble_eq_true rfl) dR_set_28 ⟨Nat.le_of_ble_eq_true rfl, Nat.le_of_ble_eq_true rfl⟩) (fun q28 S28 H locs hp28 hW => ?_)
    obtain ⟨hs28, rfl⟩ := hp28
    replace hs28 := hs28.symm
    subst hs28
    refine lv_topi (fun v_31 ev_31 => ?_)
    refine lv_istore (lv' := [(7, .int v_31), (5, .long v_23), (4, va_rf (some b_9)), (0, va_rf (some x)), (1, .int n), (2, .long v)]) hx hb dR_set_31 hl (by decide) rfl (fun ls hl => ?_)
    refine s_aload (x := some b_9) hx hb dR_set_33 (lv_at hl 2 rfl) ?_
    obtain ⟨b35, eb35, sb35⟩ := w_values hWT sb_9
    refine s_getr hC hW gc_L iw_L 8 (by decide) uw_43 rfl sb_9 (v := some b35) eb35 dR_set_35 ?_
    refine lv_iload hx hb dR_set_38 (lv_at hl 0 rfl) ?_
    refine s_aload (x := some b_9) hx hb dR_set_40 (lv_at hl 2 rfl) ?_
    refine s_getr hC hW gc_L iw_L 8 (by decide) uw_43 rfl sb_9 (v := some b35) eb35 dR_set_42 ?_
    refine lv_iload hx hb dR_set_45 (lv_at hl 0 rfl) ?_
    refine k_lald hC hW sb35 rfl rfl (by decide) q (ev_31.trans eq) hq rfl dR_set_47 ?_
    refine lv_lload hx hb dR_set_48 (lv_at hl 1 rfl) ?_
    refine lv_ldc2 (v := (-1)) hx hb hown (hts _ uw_268) dR_set_50 ?_
    refine lv_lxor hx hb dR_set_53 ?_
    refine lv_land hx hb dR_set_54 ?_
    refine lv_lload_n hx hb dR_set_55 rfl (lv_at hl 5 rfl) ?_
    refine lv_lload hx hb dR_set_56 (lv_at hl 1 rfl) ?_
    refine lv_land hx hb dR_set_58 ?_
    refine lv_lor hx hb dR_set_59 ?_
    refine k_last hC hW sb35 rfl rfl (by decide) q (ev_31.trans eq) hq dR_set_60 (fun H locs hW => ?_)
    refine lv_iconst (v := 1) hx hb dR_set_61 (by decide) ?_
    exact s_iret hC hr hlocks rfl hW dR_set_62 ⟨by rw [f_set, ← erq2], by rw [f_set, ← erq2]; simp only [eb35, v_a_s, eq, nI_clamp (show q < 2 ^ 31 by omega)]; rw [ev_23]; rfl⟩
  · skip
    subst c_9
    refine lv_bipush (v := (-2)) hx hb dR_set_12 (by decide) ?_
    exact s_iret hC hr hlocks rfl hW dR_set_14 ⟨by rw [f_set, ← erq2], by rw [f_set, ← erq2]⟩

/-! R.leave -/
theorem x_kn (S : gs_S) (a : Nat) : narrow .boolean (.int (f_keeps S a)) = .int (f_keeps S a) := by unfold f_keeps; split <;> (try split) <;> rfl
theorem x_kf (S : gs_S) (a : Nat) : fits .boolean (.int (f_keeps S a)) = true := by unfold f_keeps; split <;> (try split) <;> rfl
def l_1 (S : gs_S) (a tp : Nat) : gs_S := p_r S 1 8 a (g_r S 0 3 tp)
def l_6 (S : gs_S) (x a tp b : Nat) (v : Int64) : gs_S := p_l (p_r (p_i (p_r (p_i (l_1 S a tp) 1 7 a (f_keeps (l_1 S a tp) a)) 2 8 x (some b)) 2 9 x (g_i S 2 9 x - 1)) 2 10 x none) 2 11 x v
def f_leave (S : gs_S) (x : Nat) (v : Int64) : Int32 × gs_S := match f_run S x with
  | none => (-4, S)
  | some a => match g_r S 0 0 (f_top S x) with
    | none => (-4, S)
    | some b => (f_no (l_6 S x a (f_top S x) b v) (g_r S 0 2 b), l_6 S x a (f_top S x) b v)

set_option maxHeartbeats 4000000 in
set_option maxRecDepth 100000 in
theorem c_R_leave (l : Launch) (G : gs_G) (S : gs_S) (sz : Nat) (x : Nat) (v : Int64) (hWT : w_t S) (hX : g_sh S x = some (.inl 2)) : Met l yR_leave (kR_leave :: gU) { frames := 2, cells := 0, slots := 0, locals := 41 } (g_Pc G S sz [va_rf (some x), .long v]) (g_Qi G S sz (fun r S' => r = (f_leave S x v).1 ∧ S' = (f_leave S x v).2)) 0 0 (g_A S sz) := by
  refine s_head (by decide) (Nat.le_of_ble_eq_true rfl) ?_
  intro p e s m below meth c ls hsz hC hr hlocks hnm hl hW
  subst hsz
  obtain ⟨hx, hb, hml, hown, hts⟩ := id hC
  have hl : lv_has ls 5 [(0, va_rf (some x)), (1, .long v)] := hl
  refine s_aload_n (x := some x) hx hb dR_leave_0 rfl (lv_at hl 0 rfl) ?_
  obtain ⟨b1, eb1, sb1⟩ := w_top hWT hX
  refine s_getr hC hW gc_R iw_R 8 (by decide) uw_80 rfl hX (v := some b1) eb1 dR_leave_1 ?_
  obtain ⟨r4, er4⟩ : ∃ r : Option Nat, g_r S 0 2 b1 = r := ⟨_, rfl⟩
  refine s_getr hC hW gc_L iw_L 2 (by decide) uw_32 rfl sb1 (v := r4) er4 dR_leave_4 ?_
  refine s_astore_n (x := r4) (lv' := [(3, va_rf r4), (0, va_rf (some x)), (1, .long v)]) hx hb dR_leave_7 rfl hl (by decide) rfl (fun ls hl => ?_)
  refine s_aload_n (x := some x) hx hb dR_leave_8 rfl (lv_at hl 1 rfl) ?_
  refine s_getr hC hW gc_R iw_R 8 (by decide) uw_80 rfl hX (v := some b1) eb1 dR_leave_9 ?_
  obtain ⟨r12, er12⟩ : ∃ r : Option Nat, g_r S 0 0 b1 = r := ⟨_, rfl⟩
  refine s_getr hC hW gc_L iw_L 0 (by decide) uw_29 rfl sb1 (v := r12) er12 dR_leave_12 ?_
  refine s_astore (x := r12) (lv' := [(4, va_rf r12), (3, va_rf r4), (0, va_rf (some x)), (1, .long v)]) hx hb dR_leave_15 hl (by decide) (by simp [s_cat, s_catI, s_catL] <;> decide) (fun ls hl => ?_)
  refine s_aload_n (x := r4) hx hb dR_leave_17 rfl (lv_at hl 1 rfl) ?_
  refine s_ifnull (x := r4) (tgt := 26) hx hb dR_leave_18 (by decide) (fun c_18 => ?_) (fun b_18 c_18 => ?_)
  · skip
    subst c_18
    refine lv_bipush (v := (-4)) hx hb dR_leave_26 (by decide) ?_
    have et : f_top S x = b1 := by rw [f_top, eb1]; rfl
    have er : f_run S x = none := by rw [f_run, et]; exact er4
    exact s_iret hC hr hlocks rfl hW dR_leave_28 ⟨by rw [f_leave, er], by rw [f_leave, er]⟩
  · skip
    subst c_18
    have sb_18 := w_program hWT sb1 _ er4
    refine s_aload (x := r12) hx hb dR_leave_21 (lv_at hl 0 rfl) ?_
    refine s_ifnonnull (x := r12) (tgt := 29) hx hb dR_leave_23 (by decide) (fun b_23 c_23 => ?_) (fun c_23 => ?_)
    · skip
      subst c_23
      have sb_23 := w_below hWT sb1 _ er12
      refine s_aload_n (x := some b_18) hx hb dR_leave_29 rfl (lv_at hl 1 rfl) ?_
      refine s_aload_n (x := some x) hx hb dR_leave_30 rfl (lv_at hl 2 rfl) ?_
      refine s_getr hC hW gc_R iw_R 8 (by decide) uw_80 rfl hX (v := some b1) eb1 dR_leave_31 ?_
      obtain ⟨r34, er34⟩ : ∃ r : Option Nat, g_r S 0 3 b1 = r := ⟨_, rfl⟩
      refine s_getr hC hW gc_L iw_L 3 (by decide) uw_33 rfl sb1 (v := r34) er34 dR_leave_34 ?_
      refine s_putr (v := r34) hC hW gc_P iw_P 8 (by decide) uw_142 (Or.inl rfl) (g_nr _) (g_ft _) rfl sb_18 dR_leave_37 (fun H locs hW => ?_)
      refine s_aload_n (x := some b_18) hx hb dR_leave_40 rfl (lv_at hl 1 rfl) ?_
      refine s_aload_n (x := some b_18) hx hb dR_leave_41 rfl (lv_at hl 1 rfl) ?_
      refine s_calli hW (s_runV (n := 0) (As := []) (rest := [va_rf (some b_18)]) hC (c_P_keepsData l G (p_r S 1 8 b_18 r34) H.size b_18 sb_18) uc_P_keepsData uw_255 uw_256 uw_257 uw_5 rfl rfl (by decide +kernel) ⟨by decide, by decide⟩ (g_preV hW gc_P sb_18 []) rfl hl.1 rfl (Nat.le_of_ble_eq_true rfl) dR_leave_42 ⟨Nat.le_of_ble_eq_true rfl, Nat.le_of_ble_eq_true rfl⟩) (fun q42 S42 H locs hp42 hW => ?_)
      obtain ⟨hs42, rfl⟩ := hp42
      replace hs42 := hs42.symm
      subst hs42
      refine s_puti hC hW gc_P iw_P 7 (by decide) uw_141 (Or.inl rfl) (x_kn _ _) (x_kf _ _) rfl sb_18 dR_leave_45 (fun H locs hW => ?_)
      refine s_aload_n (x := some x) hx hb dR_leave_48 rfl (lv_at hl 2 rfl) ?_
      refine s_aload (x := some b_23) hx hb dR_leave_49 (lv_at hl 0 rfl) ?_
      refine s_putr (v := some b_23) hC hW gc_R iw_R 8 (by decide) uw_80 (Or.inl rfl) (g_nr _) (g_ft _) rfl hX dR_leave_51 (fun H locs hW => ?_)
      refine s_aload_n (x := some x) hx hb dR_leave_54 rfl (lv_at hl 2 rfl) ?_
      refine lv_dup hx hb dR_leave_55 rfl ?_
      refine s_geti hC hW gc_R iw_R 9 (by decide) uw_81 rfl hX rfl dR_leave_56 ?_
      refine lv_iconst (v := 1) hx hb dR_leave_59 (by decide) ?_
      refine lv_isub hx hb dR_leave_60 ?_
      refine s_puti hC hW gc_R iw_R 9 (by decide) uw_81 (Or.inl rfl) rfl rfl rfl hX dR_leave_61 (fun H locs hW => ?_)
      refine s_aload_n (x := some x) hx hb dR_leave_64 rfl (lv_at hl 2 rfl) ?_
      refine s_null hx hb dR_leave_65 ?_
      refine s_putr (v := none) hC hW gc_R iw_R 10 (by decide) uw_82 (Or.inl rfl) (g_nr _) (g_ft _) rfl hX dR_leave_66 (fun H locs hW => ?_)
      refine s_aload_n (x := some x) hx hb dR_leave_69 rfl (lv_at hl 2 rfl) ?_
      refine lv_lload_n hx hb dR_leave_70 rfl (lv_at hl 3 rfl) ?_
      refine s_putl hC hW gc_R iw_R 11 (by decide) uw_83 (Or.inl rfl) rfl rfl rfl hX dR_leave_71 (fun H locs hW => ?_)
      refine s_aload_n (x := some x) hx hb dR_leave_74 rfl (lv_at hl 2 rfl) ?_
      refine s_getr hC hW gc_R iw_R 8 (by decide) uw_80 rfl hX (v := some b_23) (by simp [x_gs]) dR_leave_75 ?_
      obtain ⟨r78, er78⟩ : ∃ r : Option Nat, g_r (p_l (p_r (p_i (p_r (p_i (p_r S 1 8 b_18 r34) 1 7 b_18 (f_keeps (p_r S 1 8 b_18 r34) b_18)) 2 8 x (some b_23)) 2 9 x ((g_i (p_r (p_i (p_r S 1 8 b_18 r34) 1 7 b_18 (f_keeps (p_r S 1 8 b_18 r34) b_18)) 2 8 x (some b_23)) 2 9 x) - 1)) 2 10 x none) 2 11 x v) 0 2 b_23 = r := ⟨_, rfl⟩
      refine s_getr hC hW gc_L iw_L 2 (by decide) uw_32 rfl sb_23 (v := r78) er78 dR_leave_78 ?_
      refine s_calli hW (s_runS (n := 1) (As := [va_rf r78]) (rest := []) hC (c_R_numberOf l G (p_l (p_r (p_i (p_r (p_i (p_r S 1 8 b_18 r34) 1 7 b_18 (f_keeps (p_r S 1 8 b_18 r34) b_18)) 2 8 x (some b_23)) 2 9 x ((g_i (p_r (p_i (p_r S 1 8 b_18 r34) 1 7 b_18 (f_keeps (p_r S 1 8 b_18 r34) b_18)) 2 8 x (some b_23)) 2 9 x) - 1)) 2 10 x none) 2 11 x v) H.size r78 (fun b q => w_program hWT sb_23 b (Eq.trans (er78) q))) uc_R_numberOf uw_186 uw_187 uw_1 rfl rfl (by decide +kernel) ⟨by decide, by decide⟩ (g_preS hW [va_rf r78]) rfl hl.1 rfl (Nat.le_of_ble_eq_true rfl) dR_leave_81 ⟨Nat.le_of_ble_eq_true rfl, Nat.le_of_ble_eq_true rfl⟩) (fun q81 S81 H locs hp81 hW => ?_)
      obtain ⟨hs81, rfl⟩ := hp81
      replace hs81 := hs81.symm
      subst hs81
      have et : f_top S x = b1 := by rw [f_top, eb1]; rfl
      have er : f_run S x = some b_18 := by rw [f_run, et]; exact er4
      subst er34
      exact s_iret hC hr hlocks rfl hW dR_leave_84 ⟨by rw [f_leave, er]; simp only [et, er12]; rw [← er78]; rfl, by rw [f_leave, er]; simp only [et, er12]; rfl⟩
    · skip
      subst c_23
      refine lv_bipush (v := (-4)) hx hb dR_leave_26 (by decide) ?_
      have et : f_top S x = b1 := by rw [f_top, eb1]; rfl
      have er : f_run S x = some b_18 := by rw [f_run, et]; exact er4
      exact s_iret hC hr hlocks rfl hW dR_leave_28 ⟨by rw [f_leave, er]; simp only [et, er12], by rw [f_leave, er]; simp only [et, er12]⟩

/-! R.enter -/
theorem wt_unprep {S : gs_S} {x : Nat} (h : w_t S) : w_t (p_r S 2 10 x none) := wt_pr h (fun z => absurd z (by decide)) (fun z => absurd z (by decide)) (fun _ => Or.inr ⟨rfl, fun _ z => by cases z⟩)
theorem f_cv_sh (lv fh lb fb : Nat) : ∀ (k i : Nat) (T : gs_S) (b : Nat), g_sh (f_cv lv fh lb fb k i T) b = g_sh T b := by
  intro k
  induction k with
  | zero => intro i T b; rfl
  | succ k ih => intro i T b; rw [f_cv, ih]; split; rfl; exact f_copy_sh _ _ _ _
theorem f_cv_r (lv fh lb fb : Nat) : ∀ (k i : Nat) (T : gs_S) (c j b : Nat), g_r (f_cv lv fh lb fb k i T) c j b = g_r T c j b := by
  intro k
  induction k with
  | zero => intro i T c j b; rfl
  | succ k ih => intro i T c j b; rw [f_cv, ih]; split; rfl; exact f_copy_r _ _ _ _ _ _
theorem f_cv_i (lv fh lb fb : Nat) : ∀ (k i : Nat) (T : gs_S) (c j b : Nat), g_i (f_cv lv fh lb fb k i T) c j b = g_i T c j b := by
  intro k
  induction k with
  | zero => intro i T c j b; rfl
  | succ k ih => intro i T c j b; rw [f_cv, ih]; split; rfl; exact f_copy_i _ _ _ _ _ _
theorem wt_cv (lv fh lb fb : Nat) : ∀ (k i : Nat) (T : gs_S), w_t T → g_sh T lv = some (.inl 0) → i + k ≤ 16 → w_t (f_cv lv fh lb fb k i T) := by
  intro k
  induction k with
  | zero => intro i T h _ _; exact h
  | succ k ih =>
    intro i T h hl hi
    rw [f_cv]
    split
    · exact ih _ _ (wt_pai h (fun z => absurd z (by decide))) hl (by omega)
    · exact ih _ _ (wt_copy (wt_pai h (fun z => absurd z (by decide))) hl (by omega)) ((f_copy_sh _ _ _ _).trans hl) (by omega)
theorem f_cvs_sh (S : gs_S) (lv a b : Nat) : g_sh (f_cvs S lv a) b = g_sh S b := f_cv_sh _ _ _ _ _ _ _ _
theorem f_cvs_r (S : gs_S) (lv a c j b : Nat) : g_r (f_cvs S lv a) c j b = g_r S c j b := f_cv_r _ _ _ _ _ _ _ _ _ _
theorem f_cvs_i (S : gs_S) (lv a c j b : Nat) : g_i (f_cvs S lv a) c j b = g_i S c j b := f_cv_i _ _ _ _ _ _ _ _ _ _
theorem wt_cvs {S : gs_S} {lv a : Nat} (h : w_t S) (hl : g_sh S lv = some (.inl 0)) (ha : g_sh S a = some (.inl 1)) : w_t (f_cvs S lv a) := by
  obtain ⟨n, hn, en⟩ := w_formals h ha
  unfold f_cvs
  rw [en, nI_clamp (by omega)]
  exact wt_cv _ _ _ _ n 0 S h hl (by omega)
def e_2 (S : gs_S) (x lv a : Nat) : gs_S := f_cvs (p_r S 2 10 x none) lv a
def e_6 (S : gs_S) (x lv a : Nat) : gs_S := p_i (p_r (p_r (p_r (e_2 S x lv a) 0 3 lv (g_r (e_2 S x lv a) 1 8 a)) 1 8 a (some lv)) 2 8 x (some lv)) 2 9 x (g_i (e_2 S x lv a) 2 9 x + 1)
theorem wt_e6 {S : gs_S} {x lv a : Nat} (h : w_t S) (hl : g_sh S lv = some (.inl 0)) (ha : g_sh S a = some (.inl 1)) : w_t (e_6 S x lv a) := by
  have h2 : w_t (e_2 S x lv a) := wt_cvs (wt_unprep h) hl ha
  have hl2 : g_sh (e_2 S x lv a) lv = some (.inl 0) := (f_cvs_sh _ _ _ _).trans hl
  have ha2 : g_sh (e_2 S x lv a) a = some (.inl 1) := (f_cvs_sh _ _ _ _).trans ha
  unfold e_6
  generalize e_2 S x lv a = T at h2 hl2 ha2 ⊢
  refine wt_pi0 (wt_pr (wt_pr (wt_pr h2 (fun _ => Or.inl ⟨Or.inr (Or.inr rfl), w_latest h2 ha2⟩) (fun z => absurd z (by decide)) (fun z => absurd z (by decide))) (fun z => absurd z (by decide)) (fun _ => ⟨rfl, ?_⟩) (fun z => absurd z (by decide))) (fun z => absurd z (by decide)) (fun z => absurd z (by decide)) (fun _ => Or.inl ⟨rfl, lv, rfl, hl2⟩)) (by decide)
  intro b hb
  cases hb
  exact hl2
def f_enter (S : gs_S) (x : Nat) : Int32 × gs_S := match g_r S 2 10 x with
  | none => (-4, S)
  | some lv => match g_r S 0 2 lv with
    | none => (-4, S)
    | some a => if f_fit (p_r S 2 10 x none) lv a = 0 then (-7, p_r S 2 10 x none) else if f_suf (p_r S 2 10 x none) lv a = 0 then (-8, p_r S 2 10 x none) else if f_keeps (e_6 S x lv a) a = 0 then (1, f_give (e_6 S x lv a) x a) else (1, e_6 S x lv a)

set_option maxHeartbeats 4000000 in
set_option maxRecDepth 100000 in
theorem c_R_enter (l : Launch) (G : gs_G) (S : gs_S) (sz : Nat) (x : Nat) (hWT : w_t S) (hX : g_sh S x = some (.inl 2)) : Met l yR_enter (kR_enter :: gU) { frames := 3, cells := 0, slots := 0, locals := 66 } (g_Pc G S sz [va_rf (some x)]) (g_Qi G S sz (fun r S' => r = (f_enter S x).1 ∧ S' = (f_enter S x).2)) 0 0 (g_A S sz) := by
  refine s_head (by decide) (Nat.le_of_ble_eq_true rfl) ?_
  intro p e s m below meth c ls hsz hC hr hlocks hnm hl hW
  subst hsz
  obtain ⟨hx, hb, hml, hown, hts⟩ := id hC
  have hl : lv_has ls 3 [(0, va_rf (some x))] := hl
  refine s_aload_n (x := some x) hx hb dR_enter_0 rfl (lv_at hl 0 rfl) ?_
  obtain ⟨r1, er1⟩ : ∃ r : Option Nat, g_r S 2 10 x = r := ⟨_, rfl⟩
  refine s_getr hC hW gc_R iw_R 10 (by decide) uw_82 rfl hX (v := r1) er1 dR_enter_1 ?_
  refine s_astore_n (x := r1) (lv' := [(1, va_rf r1), (0, va_rf (some x))]) hx hb dR_enter_4 rfl hl (by decide) rfl (fun ls hl => ?_)
  refine s_aload_n (x := r1) hx hb dR_enter_5 rfl (lv_at hl 0 rfl) ?_
  refine s_ifnull (x := r1) (tgt := 16) hx hb dR_enter_6 (by decide) (fun c_6 => ?_) (fun b_6 c_6 => ?_)
  · skip
    subst c_6
    refine lv_bipush (v := (-4)) hx hb dR_enter_16 (by decide) ?_
    exact s_iret hC hr hlocks rfl hW dR_enter_18 ⟨by rw [f_enter, er1], by rw [f_enter, er1]⟩
  · skip
    subst c_6
    have sb_6 := w_prepared hWT hX _ er1
    refine s_aload_n (x := some b_6) hx hb dR_enter_9 rfl (lv_at hl 0 rfl) ?_
    obtain ⟨r10, er10⟩ : ∃ r : Option Nat, g_r S 0 2 b_6 = r := ⟨_, rfl⟩
    refine s_getr hC hW gc_L iw_L 2 (by decide) uw_32 rfl sb_6 (v := r10) er10 dR_enter_10 ?_
    refine s_ifnonnull (x := r10) (tgt := 19) hx hb dR_enter_13 (by decide) (fun b_13 c_13 => ?_) (fun c_13 => ?_)
    · skip
      subst c_13
      have sb_13 := w_program hWT sb_6 _ er10
      refine s_aload_n (x := some x) hx hb dR_enter_19 rfl (lv_at hl 1 rfl) ?_
      refine s_null hx hb dR_enter_20 ?_
      refine s_putr (v := none) hC hW gc_R iw_R 10 (by decide) uw_82 (Or.inl rfl) (g_nr _) (g_ft _) rfl hX dR_enter_21 (fun H locs hW => ?_)
      refine s_aload_n (x := some b_6) hx hb dR_enter_24 rfl (lv_at hl 0 rfl) ?_
      refine s_getr hC hW gc_L iw_L 2 (by decide) uw_32 rfl sb_6 (v := some b_13) er10 dR_enter_25 ?_
      refine s_astore_n (x := some b_13) (lv' := [(2, va_rf (some b_13)), (1, va_rf (some b_6)), (0, va_rf (some x))]) hx hb dR_enter_28 rfl hl (by decide) rfl (fun ls hl => ?_)
      refine s_aload_n (x := some b_6) hx hb dR_enter_29 rfl (lv_at hl 1 rfl) ?_
      refine s_aload_n (x := some b_13) hx hb dR_enter_30 rfl (lv_at hl 0 rfl) ?_
      refine s_calli hW (s_runS (n := 2) (As := [va_rf (some b_6), va_rf (some b_13)]) (rest := []) hC (c_R_argumentsFit l G (p_r S 2 10 x none) H.size b_6 b_13 (wt_unprep hWT) sb_6 sb_13) uc_R_argumentsFit uw_246 uw_247 uw_1 rfl rfl (by decide +kernel) ⟨by decide, by decide⟩ (g_preS hW [va_rf (some b_6), va_rf (some b_13)]) rfl hl.1 rfl (Nat.le_of_ble_eq_true rfl) dR_enter_31 ⟨Nat.le_of_ble_eq_true rfl, Nat.le_of_ble_eq_true rfl⟩) (fun q31 S31 H locs hp31 hW => ?_)
      obtain ⟨hs31, rfl⟩ := hp31
      replace hs31 := hs31.symm
      subst hs31
      refine lv_if_ne (tgt := 40) hx hb dR_enter_34 (by decide) (fun c_34 => ?_) (fun c_34 => ?_)
      · skip
        refine s_aload_n (x := some b_6) hx hb dR_enter_40 rfl (lv_at hl 1 rfl) ?_
        refine s_aload_n (x := some b_13) hx hb dR_enter_41 rfl (lv_at hl 0 rfl) ?_
        refine s_calli hW (s_runS (n := 2) (As := [va_rf (some b_6), va_rf (some b_13)]) (rest := []) hC (c_R_bytesSuffice l G (p_r S 2 10 x none) H.size b_6 b_13 (wt_unprep hWT) sb_6 sb_13) uc_R_bytesSuffice uw_249 uw_250 uw_1 rfl rfl (by decide +kernel) ⟨by decide, by decide⟩ (g_preS hW [va_rf (some b_6), va_rf (some b_13)]) rfl hl.1 rfl (Nat.le_of_ble_eq_true rfl) dR_enter_42 ⟨Nat.le_of_ble_eq_true rfl, Nat.le_of_ble_eq_true rfl⟩) (fun q42 S42 H locs hp42 hW => ?_)
        obtain ⟨hs42, rfl⟩ := hp42
        replace hs42 := hs42.symm
        subst hs42
        refine lv_if_ne (tgt := 51) hx hb dR_enter_45 (by decide) (fun c_45 => ?_) (fun c_45 => ?_)
        · skip
          refine s_aload_n (x := some b_6) hx hb dR_enter_51 rfl (lv_at hl 1 rfl) ?_
          refine s_aload_n (x := some b_13) hx hb dR_enter_52 rfl (lv_at hl 0 rfl) ?_
          refine s_callv hW (s_runS (n := 2) (As := [va_rf (some b_6), va_rf (some b_13)]) (rest := []) hC (c_R_makeFormals l G (p_r S 2 10 x none) H.size b_6 b_13 (wt_unprep hWT) sb_6 sb_13) uc_R_makeFormals uw_252 uw_253 uw_1 rfl rfl (by decide +kernel) ⟨by decide, by decide⟩ (g_preS hW [va_rf (some b_6), va_rf (some b_13)]) rfl hl.1 rfl (Nat.le_of_ble_eq_true rfl) dR_enter_53 ⟨Nat.le_of_ble_eq_true rfl, Nat.le_of_ble_eq_true rfl⟩) (fun S53 H locs hp53 hW => ?_)
          subst hp53
          refine s_aload_n (x := some b_6) hx hb dR_enter_56 rfl (lv_at hl 1 rfl) ?_
          refine s_aload_n (x := some b_13) hx hb dR_enter_57 rfl (lv_at hl 0 rfl) ?_
          obtain ⟨r58, er58⟩ : ∃ r : Option Nat, g_r (f_cvs (p_r S 2 10 x none) b_6 b_13) 1 8 b_13 = r := ⟨_, rfl⟩
          refine s_getr hC hW gc_P iw_P 8 (by decide) uw_142 rfl ((f_cvs_sh _ _ _ _).trans sb_13) (v := r58) er58 dR_enter_58 ?_
          refine s_putr (v := r58) hC hW gc_L iw_L 3 (by decide) uw_33 (Or.inl rfl) (g_nr _) (g_ft _) rfl ((f_cvs_sh _ _ _ _).trans sb_6) dR_enter_61 (fun H locs hW => ?_)
          refine s_aload_n (x := some b_13) hx hb dR_enter_64 rfl (lv_at hl 0 rfl) ?_
          refine s_aload_n (x := some b_6) hx hb dR_enter_65 rfl (lv_at hl 1 rfl) ?_
          refine s_putr (v := some b_6) hC hW gc_P iw_P 8 (by decide) uw_142 (Or.inl rfl) (g_nr _) (g_ft _) rfl ((f_cvs_sh _ _ _ _).trans sb_13) dR_enter_66 (fun H locs hW => ?_)
          refine s_aload_n (x := some x) hx hb dR_enter_69 rfl (lv_at hl 2 rfl) ?_
          refine s_aload_n (x := some b_6) hx hb dR_enter_70 rfl (lv_at hl 1 rfl) ?_
          refine s_putr (v := some b_6) hC hW gc_R iw_R 8 (by decide) uw_80 (Or.inl rfl) (g_nr _) (g_ft _) rfl ((f_cvs_sh _ _ _ _).trans hX) dR_enter_71 (fun H locs hW => ?_)
          refine s_aload_n (x := some x) hx hb dR_enter_74 rfl (lv_at hl 2 rfl) ?_
          refine lv_dup hx hb dR_enter_75 rfl ?_
          refine s_geti hC hW gc_R iw_R 9 (by decide) uw_81 rfl ((f_cvs_sh _ _ _ _).trans hX) rfl dR_enter_76 ?_
          refine lv_iconst (v := 1) hx hb dR_enter_79 (by decide) ?_
          refine lv_iadd hx hb dR_enter_80 ?_
          refine s_puti hC hW gc_R iw_R 9 (by decide) uw_81 (Or.inl rfl) rfl rfl rfl ((f_cvs_sh _ _ _ _).trans hX) dR_enter_81 (fun H locs hW => ?_)
          subst er58
          have hw6 : w_t (e_6 S x b_6 b_13) := wt_e6 hWT sb_6 sb_13
          have hW : g_W G (g_A S s.heap.size) s (e_6 S x b_6 b_13) H locs := hW
          have sa6 : g_sh (e_6 S x b_6 b_13) b_13 = some (.inl 1) := (f_cvs_sh _ _ _ _).trans sb_13
          have sx6 : g_sh (e_6 S x b_6 b_13) x = some (.inl 2) := (f_cvs_sh _ _ _ _).trans hX
          refine s_aload_n (x := some b_13) hx hb dR_enter_84 rfl (lv_at hl 0 rfl) ?_
          refine s_calli hW (s_runV (n := 0) (As := []) (rest := []) hC (c_P_keepsData l G (e_6 S x b_6 b_13) H.size b_13 sa6) uc_P_keepsData uw_255 uw_256 uw_257 uw_5 rfl rfl (by decide +kernel) ⟨by decide, by decide⟩ (g_preV hW gc_P sa6 []) rfl hl.1 rfl (Nat.le_of_ble_eq_true rfl) dR_enter_85 ⟨Nat.le_of_ble_eq_true rfl, Nat.le_of_ble_eq_true rfl⟩) (fun q85 S85 H locs hp85 hW => ?_)
          obtain ⟨hs85, rfl⟩ := hp85
          replace hs85 := hs85.symm
          subst hs85
          refine lv_if_ne (tgt := 96) hx hb dR_enter_88 (by decide) (fun c_88 => ?_) (fun c_88 => ?_)
          · skip
            refine lv_iconst (v := 1) hx hb dR_enter_96 (by decide) ?_
            exact s_iret hC hr hlocks rfl hW dR_enter_97 ⟨by rw [f_enter, er1]; simp only [er10]; rw [if_neg c_34, if_neg c_45, if_neg c_88], by rw [f_enter, er1]; simp only [er10]; rw [if_neg c_34, if_neg c_45, if_neg c_88]⟩
          · skip
            refine s_aload_n (x := some x) hx hb dR_enter_91 rfl (lv_at hl 2 rfl) ?_
            refine s_aload_n (x := some b_13) hx hb dR_enter_92 rfl (lv_at hl 0 rfl) ?_
            refine s_callv hW (s_runV (n := 1) (As := [va_rf (some b_13)]) (rest := []) hC (c_R_giveFirstValues l G (e_6 S x b_6 b_13) H.size x b_13 hw6 sx6 sa6) uc_R_giveFirstValues uw_260 uw_262 us_R_giveFirstValues uw_1 rfl rfl (by decide +kernel) ⟨by decide, by decide⟩ (g_preV hW gc_R sx6 [va_rf (some b_13)]) rfl hl.1 rfl (Nat.le_of_ble_eq_true rfl) dR_enter_93 ⟨Nat.le_of_ble_eq_true rfl, Nat.le_of_ble_eq_true rfl⟩) (fun S93 H locs hp93 hW => ?_)
            subst hp93
            refine lv_iconst (v := 1) hx hb dR_enter_96 (by decide) ?_
            exact s_iret hC hr hlocks rfl hW dR_enter_97 ⟨by rw [f_enter, er1]; simp only [er10]; rw [if_neg c_34, if_neg c_45, if_pos c_88], by rw [f_enter, er1]; simp only [er10]; rw [if_neg c_34, if_neg c_45, if_pos c_88]⟩
        · skip
          refine lv_bipush (v := (-8)) hx hb dR_enter_48 (by decide) ?_
          exact s_iret hC hr hlocks rfl hW dR_enter_50 ⟨by rw [f_enter, er1]; simp only [er10]; rw [if_neg c_34, if_pos c_45], by rw [f_enter, er1]; simp only [er10]; rw [if_neg c_34, if_pos c_45]⟩
      · skip
        refine lv_bipush (v := (-7)) hx hb dR_enter_37 (by decide) ?_
        exact s_iret hC hr hlocks rfl hW dR_enter_39 ⟨by rw [f_enter, er1]; simp only [er10]; rw [if_pos c_34], by rw [f_enter, er1]; simp only [er10]; rw [if_pos c_34]⟩
    · skip
      subst c_13
      refine lv_bipush (v := (-4)) hx hb dR_enter_16 (by decide) ?_
      exact s_iret hC hr hlocks rfl hW dR_enter_18 ⟨by rw [f_enter, er1]; simp only [er10], by rw [f_enter, er1]; simp only [er10]⟩

/-! R.actual -/
def a_1 (S : gs_S) (x u b : Nat) (n : Int32) : gs_S := f_share S u (g_i S 0 4 u).toNatClampNeg (some b) (f_place S x n) (f_bytes S x n)
def f_actual (S : gs_S) (x : Nat) (n h : Int32) : Int32 × gs_S := match g_r S 2 10 x with
  | none => (-4, S)
  | some u => if h < 0 then (-2, S) else if h ≤ 2 then (if h = 2 then (if g_i S 0 4 u < 16 then (g_i S 0 4 u, p_i S 0 4 u (g_i S 0 4 u + 1)) else (-1, S)) else (match f_holder S x n with
      | none => (-2, S)
      | some b => if g_i S 0 4 u < 16 then (g_i S 0 4 u, p_i (if h = 1 then f_copy (a_1 S x u b n) u (g_i S 0 4 u).toNatClampNeg else a_1 S x u b n) 0 4 u (g_i S 0 4 u + 1)) else (-1, S))) else (-2, S)

set_option maxHeartbeats 4000000 in
set_option maxRecDepth 100000 in
theorem c_R_actual (l : Launch) (G : gs_G) (S : gs_S) (sz : Nat) (x : Nat) (n h : Int32) (hWT : w_t S) (hX : g_sh S x = some (.inl 2)) : Met l yR_actual (kR_actual :: gU) { frames := 3, cells := 0, slots := 0, locals := 66 } (g_Pc G S sz [va_rf (some x), .int n, .int h]) (g_Qi G S sz (fun r S' => r = (f_actual S x n h).1 ∧ S' = (f_actual S x n h).2)) 0 0 (g_A S sz) := by
  refine s_head (by decide) (Nat.le_of_ble_eq_true rfl) ?_
  intro p e s m below meth c ls hsz hC hr hlocks hnm hl hW
  subst hsz
  obtain ⟨hx, hb, hml, hown, hts⟩ := id hC
  have hl : lv_has ls 5 [(0, va_rf (some x)), (1, .int n), (2, .int h)] := hl
  refine s_aload_n (x := some x) hx hb dR_actual_0 rfl (lv_at hl 0 rfl) ?_
  obtain ⟨r1, er1⟩ : ∃ r : Option Nat, g_r S 2 10 x = r := ⟨_, rfl⟩
  refine s_getr hC hW gc_R iw_R 10 (by decide) uw_82 rfl hX (v := r1) er1 dR_actual_1 ?_
  refine s_ifnonnull (x := r1) (tgt := 10) hx hb dR_actual_4 (by decide) (fun b_4 c_4 => ?_) (fun c_4 => ?_)
  · skip
    subst c_4
    have sb_4 := w_prepared hWT hX _ er1
    refine lv_iload_n hx hb dR_actual_10 rfl (lv_at hl 2 rfl) ?_
    refine lv_if_lt (tgt := 19) hx hb dR_actual_11 (by decide) (fun c_11 => ?_) (fun c_11 => ?_)
    · skip
      refine lv_bipush (v := (-2)) hx hb dR_actual_19 (by decide) ?_
      exact s_iret hC hr hlocks rfl hW dR_actual_21 ⟨by rw [f_actual, er1]; simp only []; rw [if_pos c_11], by rw [f_actual, er1]; simp only []; rw [if_pos c_11]⟩
    · skip
      refine lv_iload_n hx hb dR_actual_14 rfl (lv_at hl 2 rfl) ?_
      refine lv_iconst (v := 2) hx hb dR_actual_15 (by decide) ?_
      refine lv_icmp_le (tgt := 22) hx hb dR_actual_16 (by decide) (fun c_16 => ?_) (fun c_16 => ?_)
      · skip
        refine lv_iload_n hx hb dR_actual_22 rfl (lv_at hl 2 rfl) ?_
        refine lv_iconst (v := 2) hx hb dR_actual_23 (by decide) ?_
        refine lv_icmp_ne (tgt := 31) hx hb dR_actual_24 (by decide) (fun c_24 => ?_) (fun c_24 => ?_)
        · skip
          refine s_aload_n (x := some x) hx hb dR_actual_31 rfl (lv_at hl 0 rfl) ?_
          refine lv_iload_n hx hb dR_actual_32 rfl (lv_at hl 1 rfl) ?_
          refine s_callq hW (s_runV (n := 1) (As := [.int n]) (rest := []) hC (c_R_holderOf l G S s.heap.size x n hWT hX) uc_R_holderOf uw_219 uw_221 us_R_holderOf uw_1 rfl rfl (by decide +kernel) ⟨by decide, by decide⟩ (g_preV hW gc_R hX [.int n]) rfl hl.1 rfl (Nat.le_of_ble_eq_true rfl) dR_actual_33 ⟨Nat.le_of_ble_eq_true rfl, Nat.le_of_ble_eq_true rfl⟩) (fun rq33 S33 H locs hp33 hW => ?_)
          obtain ⟨hs33, erq33⟩ := hp33
          replace hs33 := hs33.symm
          subst hs33
          refine s_astore_n (x := rq33) (lv' := [(3, va_rf rq33), (0, va_rf (some x)), (1, .int n), (2, .int h)]) hx hb dR_actual_36 rfl hl (by decide) rfl (fun ls hl => ?_)
          refine lv_iload_n hx hb dR_actual_37 rfl (lv_at hl 3 rfl) ?_
          refine lv_iconst (v := 2) hx hb dR_actual_38 (by decide) ?_
          refine lv_icmp_eq (tgt := 49) hx hb dR_actual_39 (by decide) (fun c => absurd c c_24) (fun c_39 => ?_)
          refine s_aload_n (x := rq33) hx hb dR_actual_42 rfl (lv_at hl 0 rfl) ?_
          refine s_ifnonnull (x := rq33) (tgt := 49) hx hb dR_actual_43 (by decide) (fun b_43 c_43 => ?_) (fun c_43 => ?_)
          · skip
            subst c_43
            have sb_43 := t_holder hWT hX _ erq33.symm
            obtain ⟨k, hk, ek⟩ := w_arguments hWT sb_4
            refine s_aload_n (x := some x) hx hb dR_actual_49 rfl (lv_at hl 1 rfl) ?_
            refine s_getr hC hW gc_R iw_R 10 (by decide) uw_82 rfl hX (v := some b_4) er1 dR_actual_50 ?_
            refine s_geti hC hW gc_L iw_L 4 (by decide) uw_35 rfl sb_4 (v := nI k) ek dR_actual_53 ?_
            refine lv_istore (lv' := [(4, .int (nI k)), (3, va_rf (some b_43)), (0, va_rf (some x)), (1, .int n), (2, .int h)]) hx hb dR_actual_56 hl (by decide) rfl (fun ls hl => ?_)
            refine lv_iload hx hb dR_actual_58 (lv_at hl 0 rfl) ?_
            refine lv_bipush (v := 16) hx hb dR_actual_60 (by decide) ?_
            refine lv_icmp_lt (tgt := 67) hx hb dR_actual_62 (by decide) (fun c_62 => ?_) (fun c_62 => ?_)
            · skip
              have hk2 : k < 16 := (nI_ltI (b := 16) (by omega) (by omega)).mp c_62
              refine s_aload_n (x := some b_43) hx hb dR_actual_67 rfl (lv_at hl 1 rfl) ?_
              refine s_ifnull (x := some b_43) (tgt := 91) hx hb dR_actual_68 (by decide) (fun c_68 => ?_) (fun b_68 c_68 => ?_)
              · skip
                cases c_68
              · skip
                obtain ⟨q, hq, eq⟩ := x_hold hWT hX erq33.symm
                refine s_aload_n (x := some x) hx hb dR_actual_71 rfl (lv_at hl 2 rfl) ?_
                refine s_getr hC hW gc_R iw_R 10 (by decide) uw_82 rfl hX (v := some b_4) er1 dR_actual_72 ?_
                refine lv_iload hx hb dR_actual_75 (lv_at hl 0 rfl) ?_
                refine s_aload_n (x := some b_43) hx hb dR_actual_77 rfl (lv_at hl 1 rfl) ?_
                refine s_aload_n (x := some x) hx hb dR_actual_78 rfl (lv_at hl 2 rfl) ?_
                refine lv_iload_n hx hb dR_actual_79 rfl (lv_at hl 3 rfl) ?_
                refine s_calli hW (s_runV (n := 1) (As := [.int n]) (rest := [va_rf (some b_43), .int (nI k), va_rf (some b_4)]) hC (c_R_placeOf l G S H.size x n hWT hX) uc_R_placeOf uw_170 uw_172 us_R_placeOf uw_1 rfl rfl (by decide +kernel) ⟨by decide, by decide⟩ (g_preV hW gc_R hX [.int n]) rfl hl.1 rfl (Nat.le_of_ble_eq_true rfl) dR_actual_80 ⟨Nat.le_of_ble_eq_true rfl, Nat.le_of_ble_eq_true rfl⟩) (fun q80 S80 H locs hp80 hW => ?_)
                obtain ⟨hs80, rfl⟩ := hp80
                replace hs80 := hs80.symm
                subst hs80
                refine s_aload_n (x := some x) hx hb dR_actual_83 rfl (lv_at hl 2 rfl) ?_
                refine lv_iload_n hx hb dR_actual_84 rfl (lv_at hl 3 rfl) ?_
                refine s_calli hW (s_runV (n := 1) (As := [.int n]) (rest := [.int (f_place S x n), va_rf (some b_43), .int (nI k), va_rf (some b_4)]) hC (c_R_bytesOf l G S H.size x n hWT hX) uc_R_bytesOf uw_230 uw_232 us_R_bytesOf uw_1 rfl rfl (by decide +kernel) ⟨by decide, by decide⟩ (g_preV hW gc_R hX [.int n]) rfl hl.1 rfl (Nat.le_of_ble_eq_true rfl) dR_actual_85 ⟨Nat.le_of_ble_eq_true rfl, Nat.le_of_ble_eq_true rfl⟩) (fun q85 S85 H locs hp85 hW => ?_)
                obtain ⟨hs85, rfl⟩ := hp85
                replace hs85 := hs85.symm
                subst hs85
                refine s_callv hW (s_runV (n := 4) (As := [.int (nI k), va_rf (some b_43), .int (f_place S x n), .int (f_bytes S x n)]) (rest := []) hC (c_L_share l G S H.size b_4 k b_43 (f_place S x n) (f_bytes S x n) hWT sb_4 sb_43 (by omega)) uc_L_share uw_234 uw_235 uw_236 uw_2 rfl rfl (by decide +kernel) ⟨by decide, by decide⟩ (g_preV hW gc_L sb_4 [.int (nI k), va_rf (some b_43), .int (f_place S x n), .int (f_bytes S x n)]) rfl hl.1 rfl (Nat.le_of_ble_eq_true rfl) dR_actual_88 ⟨Nat.le_of_ble_eq_true rfl, Nat.le_of_ble_eq_true rfl⟩) (fun S88 H locs hp88 hW => ?_)
                subst hp88
                have hw1 : w_t (f_share S b_4 k (some b_43) (f_place S x n) (f_bytes S x n)) := by rw [eq]; exact wt_share hWT sb_43 hq
                refine lv_iload_n hx hb dR_actual_91 rfl (lv_at hl 4 rfl) ?_
                refine lv_iconst (v := 1) hx hb dR_actual_92 (by decide) ?_
                refine lv_icmp_ne (tgt := 105) hx hb dR_actual_93 (by decide) (fun c_93 => ?_) (fun c_93 => ?_)
                · skip
                  refine s_aload_n (x := some x) hx hb dR_actual_105 rfl (lv_at hl 2 rfl) ?_
                  refine s_getr hC hW gc_R iw_R 10 (by decide) uw_82 rfl hX (v := some b_4) er1 dR_actual_106 ?_
                  refine lv_dup hx hb dR_actual_109 rfl ?_
                  refine s_geti hC hW gc_L iw_L 4 (by decide) uw_35 rfl sb_4 (v := nI k) ek dR_actual_110 ?_
                  refine lv_iconst (v := 1) hx hb dR_actual_113 (by decide) ?_
                  refine lv_iadd hx hb dR_actual_114 ?_
                  refine s_puti hC hW gc_L iw_L 4 (by decide) uw_35 (Or.inl rfl) rfl rfl rfl sb_4 dR_actual_115 (fun H locs hW => ?_)
                  refine lv_iload hx hb dR_actual_118 (lv_at hl 0 rfl) ?_
                  exact s_iret hC hr hlocks rfl hW dR_actual_120 ⟨by rw [f_actual, er1]; simp only []; rw [if_neg c_11, if_pos c_16, if_neg c_24, ← erq33]; simp only []; rw [ek, if_pos c_62], by rw [f_actual, er1]; simp only []; rw [if_neg c_11, if_pos c_16, if_neg c_24, ← erq33]; simp only []; rw [ek, if_pos c_62, if_neg c_93]; simp only [a_1, ek, nI_clamp (show k < 2 ^ 31 by omega)]⟩
                · skip
                  refine s_aload_n (x := some x) hx hb dR_actual_96 rfl (lv_at hl 2 rfl) ?_
                  refine s_getr hC hW gc_R iw_R 10 (by decide) uw_82 rfl hX (v := some b_4) er1 dR_actual_97 ?_
                  refine lv_iload hx hb dR_actual_100 (lv_at hl 0 rfl) ?_
                  refine s_callv hW (s_runV (n := 1) (As := [.int (nI k)]) (rest := []) hC (c_L_copy l G (f_share S b_4 k (some b_43) (f_place S x n) (f_bytes S x n)) H.size b_4 k hw1 sb_4 (by omega)) uc_L_copy uw_238 uw_239 uw_240 uw_2 rfl rfl (by decide +kernel) ⟨by decide, by decide⟩ (g_preV hW gc_L sb_4 [.int (nI k)]) rfl hl.1 rfl (Nat.le_of_ble_eq_true rfl) dR_actual_102 ⟨Nat.le_of_ble_eq_true rfl, Nat.le_of_ble_eq_true rfl⟩) (fun S102 H locs hp102 hW => ?_)
                  subst hp102
                  refine s_aload_n (x := some x) hx hb dR_actual_105 rfl (lv_at hl 2 rfl) ?_
                  refine s_getr hC hW gc_R iw_R 10 (by decide) uw_82 rfl ((f_copy_sh _ _ _ _).trans hX) (v := some b_4) ((f_copy_r _ _ _ _ _ _).trans er1) dR_actual_106 ?_
                  refine lv_dup hx hb dR_actual_109 rfl ?_
                  refine s_geti hC hW gc_L iw_L 4 (by decide) uw_35 rfl ((f_copy_sh _ _ _ _).trans sb_4) (v := nI k) ((f_copy_i _ _ _ _ _ _).trans ek) dR_actual_110 ?_
                  refine lv_iconst (v := 1) hx hb dR_actual_113 (by decide) ?_
                  refine lv_iadd hx hb dR_actual_114 ?_
                  refine s_puti hC hW gc_L iw_L 4 (by decide) uw_35 (Or.inl rfl) rfl rfl rfl ((f_copy_sh _ _ _ _).trans sb_4) dR_actual_115 (fun H locs hW => ?_)
                  refine lv_iload hx hb dR_actual_118 (lv_at hl 0 rfl) ?_
                  exact s_iret hC hr hlocks rfl hW dR_actual_120 ⟨by rw [f_actual, er1]; simp only []; rw [if_neg c_11, if_pos c_16, if_neg c_24, ← erq33]; simp only []; rw [ek, if_pos c_62], by rw [f_actual, er1]; simp only []; rw [if_neg c_11, if_pos c_16, if_neg c_24, ← erq33]; simp only []; rw [ek, if_pos c_62, if_pos c_93, nI_clamp (by omega)]; simp only [a_1, ek, nI_clamp (show k < 2 ^ 31 by omega)]⟩
            · skip
              refine lv_iconst (v := (-1)) hx hb dR_actual_65 (by decide) ?_
              exact s_iret hC hr hlocks rfl hW dR_actual_66 ⟨by rw [f_actual, er1]; simp only []; rw [if_neg c_11, if_pos c_16, if_neg c_24, ← erq33]; simp only []; rw [ek, if_neg c_62], by rw [f_actual, er1]; simp only []; rw [if_neg c_11, if_pos c_16, if_neg c_24, ← erq33]; simp only []; rw [ek, if_neg c_62]⟩
          · skip
            subst c_43
            refine lv_bipush (v := (-2)) hx hb dR_actual_46 (by decide) ?_
            exact s_iret hC hr hlocks rfl hW dR_actual_48 ⟨by rw [f_actual, er1]; simp only []; rw [if_neg c_11, if_pos c_16, if_neg c_24, ← erq33], by rw [f_actual, er1]; simp only []; rw [if_neg c_11, if_pos c_16, if_neg c_24, ← erq33]⟩
        · skip
          refine s_null hx hb dR_actual_27 ?_
          refine lv_goto (tgt := 36) hx hb dR_actual_28 (by decide) ?_
          refine s_astore_n (x := none) (lv' := [(3, va_rf none), (0, va_rf (some x)), (1, .int n), (2, .int h)]) hx hb dR_actual_36 rfl hl (by decide) rfl (fun ls hl => ?_)
          refine lv_iload_n hx hb dR_actual_37 rfl (lv_at hl 3 rfl) ?_
          refine lv_iconst (v := 2) hx hb dR_actual_38 (by decide) ?_
          refine lv_icmp_eq (tgt := 49) hx hb dR_actual_39 (by decide) (fun c_39 => ?_) (fun c => absurd c_24 c)
          obtain ⟨k, hk, ek⟩ := w_arguments hWT sb_4
          refine s_aload_n (x := some x) hx hb dR_actual_49 rfl (lv_at hl 1 rfl) ?_
          refine s_getr hC hW gc_R iw_R 10 (by decide) uw_82 rfl hX (v := some b_4) er1 dR_actual_50 ?_
          refine s_geti hC hW gc_L iw_L 4 (by decide) uw_35 rfl sb_4 (v := nI k) ek dR_actual_53 ?_
          refine lv_istore (lv' := [(4, .int (nI k)), (3, va_rf none), (0, va_rf (some x)), (1, .int n), (2, .int h)]) hx hb dR_actual_56 hl (by decide) rfl (fun ls hl => ?_)
          refine lv_iload hx hb dR_actual_58 (lv_at hl 0 rfl) ?_
          refine lv_bipush (v := 16) hx hb dR_actual_60 (by decide) ?_
          refine lv_icmp_lt (tgt := 67) hx hb dR_actual_62 (by decide) (fun c_62 => ?_) (fun c_62 => ?_)
          · skip
            have hk2 : k < 16 := (nI_ltI (b := 16) (by omega) (by omega)).mp c_62
            refine s_aload_n (x := none) hx hb dR_actual_67 rfl (lv_at hl 1 rfl) ?_
            refine s_ifnull (x := none) (tgt := 91) hx hb dR_actual_68 (by decide) (fun c_68 => ?_) (fun b_68 c_68 => ?_)
            · skip
              refine lv_iload_n hx hb dR_actual_91 rfl (lv_at hl 4 rfl) ?_
              refine lv_iconst (v := 1) hx hb dR_actual_92 (by decide) ?_
              refine lv_icmp_ne (tgt := 105) hx hb dR_actual_93 (by decide) (fun c_93 => ?_) (fun c => absurd (c.symm.trans c_24) (by decide))
              refine s_aload_n (x := some x) hx hb dR_actual_105 rfl (lv_at hl 2 rfl) ?_
              refine s_getr hC hW gc_R iw_R 10 (by decide) uw_82 rfl hX (v := some b_4) er1 dR_actual_106 ?_
              refine lv_dup hx hb dR_actual_109 rfl ?_
              refine s_geti hC hW gc_L iw_L 4 (by decide) uw_35 rfl sb_4 (v := nI k) ek dR_actual_110 ?_
              refine lv_iconst (v := 1) hx hb dR_actual_113 (by decide) ?_
              refine lv_iadd hx hb dR_actual_114 ?_
              refine s_puti hC hW gc_L iw_L 4 (by decide) uw_35 (Or.inl rfl) rfl rfl rfl sb_4 dR_actual_115 (fun H locs hW => ?_)
              refine lv_iload hx hb dR_actual_118 (lv_at hl 0 rfl) ?_
              exact s_iret hC hr hlocks rfl hW dR_actual_120 ⟨by rw [f_actual, er1]; simp only []; rw [if_neg c_11, if_pos c_16, if_pos c_24, ek, if_pos c_62], by rw [f_actual, er1]; simp only []; rw [if_neg c_11, if_pos c_16, if_pos c_24, ek, if_pos c_62]⟩
            · skip
              cases c_68
          · skip
            refine lv_iconst (v := (-1)) hx hb dR_actual_65 (by decide) ?_
            exact s_iret hC hr hlocks rfl hW dR_actual_66 ⟨by rw [f_actual, er1]; simp only []; rw [if_neg c_11, if_pos c_16, if_pos c_24, ek, if_neg c_62], by rw [f_actual, er1]; simp only []; rw [if_neg c_11, if_pos c_16, if_pos c_24, ek, if_neg c_62]⟩
      · skip
        refine lv_bipush (v := (-2)) hx hb dR_actual_19 (by decide) ?_
        exact s_iret hC hr hlocks rfl hW dR_actual_21 ⟨by rw [f_actual, er1]; simp only []; rw [if_neg c_11, if_neg c_16], by rw [f_actual, er1]; simp only []; rw [if_neg c_11, if_neg c_16]⟩
  · skip
    subst c_4
    refine lv_bipush (v := (-4)) hx hb dR_actual_7 (by decide) ?_
    exact s_iret hC hr hlocks rfl hW dR_actual_9 ⟨by rw [f_actual, er1], by rw [f_actual, er1]⟩
