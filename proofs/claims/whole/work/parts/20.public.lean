/-! R.call -/
def la_R (T : gs_S) (a u : Nat) (T1 : gs_S) : Prop := (g_r T 0 1 a = some u ∧ T1 = T) ∨ (g_r T 0 1 a = none ∧ ∃ h pl bb va : Nat, g_sh T u = none ∧ i_Lf (p_new T 0 u) u h pl bb va ∧ T1 = p_r (n_L T u (some a) h pl bb va) 0 1 a (some u))
theorem la_wt {T T1 : gs_S} {a u : Nat} (hw : w_t T) (ha : g_sh T a = some (.inl 0)) (h : la_R T a u T1) : w_t T1 ∧ g_sh T1 u = some (.inl 0) ∧ ∀ (b : Nat) (y : Nat ⊕ (Nat × Nat)), g_sh T b = some y → g_sh T1 b = some y := by
  rcases h with ⟨h1, rfl⟩ | ⟨h1, hh, pl, bb, va, h2, h3, rfl⟩
  · exact ⟨hw, w_above hw ha u h1, fun _ _ h => h⟩
  · have hu : g_sh (n_L T u (some a) hh pl bb va) u = some (.inl 0) := by
      obtain ⟨⟨a1, a2⟩, ⟨b1, b2, b3⟩, ⟨c1, c2, c3, c4⟩, d1, d2, d3, d4, d5⟩ := n_Lne h3
      rw [n_L_sh, if_neg (Ne.symm d4), if_neg (Ne.symm c3), if_neg (Ne.symm b2), if_neg (Ne.symm a1), if_pos rfl]
    refine ⟨wt_pr (wt_nL hw h2 h3 (fun b hb => by cases hb; exact ha)) (fun _ => Or.inl ⟨Or.inr (Or.inl rfl), fun b hb => by cases hb; exact hu⟩) (fun z => absurd z (by decide)) (fun z => absurd z (by decide)), hu, fun b y hb => ?_⟩
    exact sh_iL (be := some a) (sh_nO hb h2) h3
def f_callR (T : gs_S) (x : Nat) (fr nm : Int32) : Int32 := if fr = f_no T (f_run T x) then (if f_isName nm = 0 then -2 else (match f_found T x (f_run T x) nm with
  | none => -3
  | some c => match g_r T 1 8 c with
    | none => if g_i T 2 0 x ≤ g_i T 2 9 x then -6 else if g_i T 2 9 x < 256 then 0 else -6
    | some _ => if f_has T c 4 = 0 then -5 else if g_i T 2 0 x ≤ g_i T 2 9 x then -6 else if g_i T 2 9 x < 256 then 0 else -6)) else -2
def q_call (S : gs_S) (x : Nat) (fr nm : Int32) (r : Int32) (S' : gs_S) : Prop := (¬ f_callR (p_r S 2 10 x none) x fr nm = 0 ∧ r = f_callR (p_r S 2 10 x none) x fr nm ∧ S' = p_r S 2 10 x none) ∨ (f_callR (p_r S 2 10 x none) x fr nm = 0 ∧ ∃ (c u : Nat) (T1 : gs_S), f_found (p_r S 2 10 x none) x (f_run (p_r S 2 10 x none) x) nm = some c ∧ la_R (p_r S 2 10 x none) (f_top (p_r S 2 10 x none) x) u T1 ∧ S' = f_begin (p_r T1 2 10 x (some u)) u (some c) ∧ r = g_i S' 1 1 c)

set_option maxHeartbeats 4000000 in
set_option maxRecDepth 100000 in
theorem c_R_call (l : Launch) (G : gs_G) (S : gs_S) (sz : Nat) (x : Nat) (fr nm : Int32) (hWT : w_t S) (hX : g_sh S x = some (.inl 2)) : Met l yR_call (kR_call :: gU) { frames := 3, cells := 5, slots := 273, locals := 71 } (g_Pc G S sz [va_rf (some x), .int fr, .int nm]) (g_Qi G S sz (q_call S x fr nm)) 5 273 (g_A S sz) := by
  refine s_head (by decide) (Nat.le_of_ble_eq_true rfl) ?_
  intro p e s m below meth c ls hsz hC hr hlocks hnm hl hW
  subst hsz
  obtain ⟨hx, hb, hml, hown, hts⟩ := id hC
  have hl : lv_has ls 4 [(0, va_rf (some x)), (1, .int fr), (2, .int nm)] := hl
  refine s_aload_n (x := some x) hx hb dR_call_0 rfl (lv_at hl 0 rfl) ?_
  refine s_null hx hb dR_call_1 ?_
  refine s_putr (v := none) hC hW gc_R iw_R 10 (by decide) uw_82 (Or.inl rfl) (g_nr _) (g_ft _) rfl hX dR_call_2 (fun H locs hW => ?_)
  refine lv_iload_n hx hb dR_call_5 rfl (lv_at hl 1 rfl) ?_
  refine s_aload_n (x := some x) hx hb dR_call_6 rfl (lv_at hl 0 rfl) ?_
  obtain ⟨b7, eb7, sb7⟩ := w_top (wt_unprep hWT) hX
  refine s_getr hC hW gc_R iw_R 8 (by decide) uw_80 rfl hX (v := some b7) eb7 dR_call_7 ?_
  obtain ⟨r10, er10⟩ : ∃ r : Option Nat, g_r (p_r S 2 10 x none) 0 2 b7 = r := ⟨_, rfl⟩
  refine s_getr hC hW gc_L iw_L 2 (by decide) uw_32 rfl sb7 (v := r10) er10 dR_call_10 ?_
  refine s_calli hW (s_runS (n := 1) (As := [va_rf r10]) (rest := [.int fr]) hC (c_R_numberOf l G (p_r S 2 10 x none) H.size r10 (fun b q => w_program (wt_unprep hWT) sb7 b (Eq.trans (er10) q))) uc_R_numberOf uw_186 uw_187 uw_1 rfl rfl (by decide +kernel) ⟨by decide, by decide⟩ (g_preS hW [va_rf r10]) rfl hl.1 rfl (Nat.le_of_ble_eq_true rfl) dR_call_13 ⟨Nat.le_of_ble_eq_true rfl, Nat.le_of_ble_eq_true rfl⟩) (fun q13 S13 H locs hp13 hW => ?_)
  obtain ⟨hs13, rfl⟩ := hp13
  replace hs13 := hs13.symm
  subst hs13
  refine lv_icmp_ne (tgt := 26) hx hb dR_call_16 (by decide) (fun c_16 => ?_) (fun c_16 => ?_)
  · skip
    refine lv_bipush (v := (-2)) hx hb dR_call_26 (by decide) ?_
    have et : f_top (p_r S 2 10 x none) x = b7 := by rw [f_top, eb7]; rfl
    have er : f_run (p_r S 2 10 x none) x = r10 := by rw [f_run, et]; exact er10
    refine W.widen (k := 5) (n := 273) (Nat.le_of_ble_eq_true rfl) (Nat.le_of_ble_eq_true rfl) ?_
    have ec : f_callR (p_r S 2 10 x none) x fr nm = -2 := by rw [f_callR, er, if_neg c_16]
    exact s_iret hC hr hlocks rfl hW dR_call_28 (Or.inl ⟨by rw [ec]; decide, ec.symm, rfl⟩)
  · skip
    refine lv_iload_n hx hb dR_call_19 rfl (lv_at hl 2 rfl) ?_
    refine s_calli hW (s_runS (n := 1) (As := [.int nm]) (rest := []) hC (c_R_isName l G (p_r S 2 10 x none) H.size nm) uc_R_isName uw_117 uw_118 uw_1 rfl rfl (by decide +kernel) ⟨by decide, by decide⟩ (g_preS hW [.int nm]) rfl hl.1 rfl (Nat.le_of_ble_eq_true rfl) dR_call_20 ⟨Nat.le_of_ble_eq_true rfl, Nat.le_of_ble_eq_true rfl⟩) (fun q20 S20 H locs hp20 hW => ?_)
    obtain ⟨hs20, rfl⟩ := hp20
    replace hs20 := hs20.symm
    subst hs20
    refine lv_if_ne (tgt := 29) hx hb dR_call_23 (by decide) (fun c_23 => ?_) (fun c_23 => ?_)
    · skip
      refine s_aload_n (x := some x) hx hb dR_call_29 rfl (lv_at hl 0 rfl) ?_
      refine s_aload_n (x := some x) hx hb dR_call_30 rfl (lv_at hl 0 rfl) ?_
      refine s_getr hC hW gc_R iw_R 8 (by decide) uw_80 rfl hX (v := some b7) eb7 dR_call_31 ?_
      refine s_getr hC hW gc_L iw_L 2 (by decide) uw_32 rfl sb7 (v := r10) er10 dR_call_34 ?_
      refine lv_iload_n hx hb dR_call_37 rfl (lv_at hl 2 rfl) ?_
      refine s_callq hW (s_runV (n := 2) (As := [va_rf r10, .int nm]) (rest := []) hC (c_R_found l G (p_r S 2 10 x none) H.size x r10 nm (wt_unprep hWT) hX (fun b q => w_program (wt_unprep hWT) sb7 b (Eq.trans (er10) q))) uc_R_found uw_189 uw_191 us_R_found uw_1 rfl rfl (by decide +kernel) ⟨by decide, by decide⟩ (g_preV hW gc_R hX [va_rf r10, .int nm]) rfl hl.1 rfl (Nat.le_of_ble_eq_true rfl) dR_call_38 ⟨Nat.le_of_ble_eq_true rfl, Nat.le_of_ble_eq_true rfl⟩) (fun rq38 S38 H locs hp38 hW => ?_)
      obtain ⟨hs38, erq38⟩ := hp38
      replace hs38 := hs38.symm
      subst hs38
      refine s_astore_n (x := rq38) (lv' := [(3, va_rf rq38), (0, va_rf (some x)), (1, .int fr), (2, .int nm)]) hx hb dR_call_41 rfl hl (by decide) rfl (fun ls hl => ?_)
      refine s_aload_n (x := rq38) hx hb dR_call_42 rfl (lv_at hl 0 rfl) ?_
      refine s_ifnonnull (x := rq38) (tgt := 49) hx hb dR_call_43 (by decide) (fun b_43 c_43 => ?_) (fun c_43 => ?_)
      · skip
        subst c_43
        have sb_43 := t_found (wt_unprep hWT) hX (fun b q => w_program (wt_unprep hWT) sb7 b (Eq.trans (er10) q)) _ erq38.symm
        refine s_aload_n (x := some b_43) hx hb dR_call_49 rfl (lv_at hl 0 rfl) ?_
        obtain ⟨r50, er50⟩ : ∃ r : Option Nat, g_r (p_r S 2 10 x none) 1 8 b_43 = r := ⟨_, rfl⟩
        refine s_getr hC hW gc_P iw_P 8 (by decide) uw_142 rfl sb_43 (v := r50) er50 dR_call_50 ?_
        refine s_ifnull (x := r50) (tgt := 67) hx hb dR_call_53 (by decide) (fun c_53 => ?_) (fun b_53 c_53 => ?_)
        · skip
          subst c_53
          refine s_aload_n (x := some x) hx hb dR_call_67 rfl (lv_at hl 1 rfl) ?_
          refine s_geti hC hW gc_R iw_R 9 (by decide) uw_81 rfl hX rfl dR_call_68 ?_
          refine s_aload_n (x := some x) hx hb dR_call_71 rfl (lv_at hl 1 rfl) ?_
          refine s_geti hC hW gc_R iw_R 0 (by decide) uw_72 rfl hX rfl dR_call_72 ?_
          refine lv_icmp_ge (tgt := 88) hx hb dR_call_75 (by decide) (fun c_75 => ?_) (fun c_75 => ?_)
          · skip
            refine lv_bipush (v := (-6)) hx hb dR_call_88 (by decide) ?_
            have et : f_top (p_r S 2 10 x none) x = b7 := by rw [f_top, eb7]; rfl
            have er : f_run (p_r S 2 10 x none) x = r10 := by rw [f_run, et]; exact er10
            refine W.widen (k := 5) (n := 273) (Nat.le_of_ble_eq_true rfl) (Nat.le_of_ble_eq_true rfl) ?_
            have ec : f_callR (p_r S 2 10 x none) x fr nm = -6 := by rw [f_callR, er, if_pos c_16, if_neg c_23, ← erq38]; simp only [er50]; rw [if_pos c_75]
            exact s_iret hC hr hlocks rfl hW dR_call_90 (Or.inl ⟨by rw [ec]; decide, ec.symm, rfl⟩)
          · skip
            refine s_aload_n (x := some x) hx hb dR_call_78 rfl (lv_at hl 1 rfl) ?_
            refine s_geti hC hW gc_R iw_R 9 (by decide) uw_81 rfl hX rfl dR_call_79 ?_
            refine lv_sipush (v := 256) hx hb dR_call_82 (by decide) ?_
            refine lv_icmp_lt (tgt := 91) hx hb dR_call_85 (by decide) (fun c_85 => ?_) (fun c_85 => ?_)
            · skip
              refine s_aload_n (x := some x) hx hb dR_call_91 rfl (lv_at hl 1 rfl) ?_
              refine s_aload_n (x := some x) hx hb dR_call_92 rfl (lv_at hl 1 rfl) ?_
              refine s_getr hC hW gc_R iw_R 8 (by decide) uw_80 rfl hX (v := some b7) eb7 dR_call_93 ?_
              refine s_callq hW (s_runS (n := 1) (As := [va_rf (some b7)]) (rest := [va_rf (some x)]) hC (c_R_levelAbove l G (p_r S 2 10 x none) H.size b7 (wt_unprep hWT) sb7) uc_R_levelAbove uw_208 uw_209 uw_1 rfl rfl (by decide +kernel) ⟨by decide, by decide⟩ (g_preS hW [va_rf (some b7)]) rfl hl.1 rfl (Nat.le_of_ble_eq_true rfl) dR_call_96 ⟨Nat.le_of_ble_eq_true rfl, Nat.le_of_ble_eq_true rfl⟩) (fun rq96 S96 H locs hp96 hW => ?_)
              obtain ⟨u, hla, hre⟩ : ∃ u : Nat, la_R (p_r S 2 10 x none) b7 u S96 ∧ rq96 = some u := by
                rcases hp96 with ⟨u, h1, h2, h3⟩ | ⟨h1, q, h, pl, bb, va, h2, h3, h4, h5⟩
                · exact ⟨u, Or.inl ⟨h1, h2⟩, h3⟩
                · exact ⟨q, Or.inr ⟨h1, h, pl, bb, va, h2, h3, h4⟩, h5⟩
              subst hre
              obtain ⟨hw1, su, hext⟩ := la_wt (wt_unprep hWT) sb7 hla
              refine s_putr (v := some u) hC hW gc_R iw_R 10 (by decide) uw_82 (Or.inl rfl) (g_nr _) (g_ft _) rfl (hext _ _ hX) dR_call_99 (fun H locs hW => ?_)
              refine s_aload_n (x := some x) hx hb dR_call_102 rfl (lv_at hl 1 rfl) ?_
              refine s_getr hC hW gc_R iw_R 10 (by decide) uw_82 rfl (hext _ _ hX) (v := some u) (by simp [x_gs]) dR_call_103 ?_
              refine s_aload_n (x := some b_43) hx hb dR_call_106 rfl (lv_at hl 0 rfl) ?_
              refine s_callv hW (s_runV (n := 1) (As := [va_rf (some b_43)]) (rest := []) hC (c_L_begin l G (p_r S96 2 10 x (some u)) H.size u b_43 (wt_pr hw1 (fun z => absurd z (by decide)) (fun z => absurd z (by decide)) (fun _ => Or.inr ⟨rfl, fun b hb => by cases hb; exact su⟩)) su (hext _ _ sb_43)) uc_L_begin uw_211 uw_212 uw_213 uw_2 rfl rfl (by decide +kernel) ⟨by decide, by decide⟩ (g_preV hW gc_L su [va_rf (some b_43)]) rfl hl.1 rfl (Nat.le_of_ble_eq_true rfl) dR_call_107 ⟨Nat.le_of_ble_eq_true rfl, Nat.le_of_ble_eq_true rfl⟩) (fun S107 H locs hp107 hW => ?_)
              subst hp107
              refine s_aload_n (x := some b_43) hx hb dR_call_110 rfl (lv_at hl 0 rfl) ?_
              refine s_geti hC hW gc_P iw_P 1 (by decide) uw_132 rfl ((f_nul_sh _ _ _ _).trans (hext _ _ sb_43)) rfl dR_call_111 ?_
              have et : f_top (p_r S 2 10 x none) x = b7 := by rw [f_top, eb7]; rfl
              have er : f_run (p_r S 2 10 x none) x = r10 := by rw [f_run, et]; exact er10
              have ec : f_callR (p_r S 2 10 x none) x fr nm = 0 := by rw [f_callR, er, if_pos c_16, if_neg c_23, ← erq38]; simp only [er50]; rw [if_neg c_75, if_pos c_85]
              exact s_iret hC hr hlocks rfl hW dR_call_114 (Or.inr ⟨ec, b_43, u, S96, by rw [er]; exact erq38.symm, by rw [et]; exact hla, rfl, rfl⟩)
            · skip
              refine lv_bipush (v := (-6)) hx hb dR_call_88 (by decide) ?_
              have et : f_top (p_r S 2 10 x none) x = b7 := by rw [f_top, eb7]; rfl
              have er : f_run (p_r S 2 10 x none) x = r10 := by rw [f_run, et]; exact er10
              refine W.widen (k := 5) (n := 273) (Nat.le_of_ble_eq_true rfl) (Nat.le_of_ble_eq_true rfl) ?_
              have ec : f_callR (p_r S 2 10 x none) x fr nm = -6 := by rw [f_callR, er, if_pos c_16, if_neg c_23, ← erq38]; simp only [er50]; rw [if_neg c_75, if_neg c_85]
              exact s_iret hC hr hlocks rfl hW dR_call_90 (Or.inl ⟨by rw [ec]; decide, ec.symm, rfl⟩)
        · skip
          subst c_53
          have sb_53 := w_latest (wt_unprep hWT) sb_43 _ er50
          refine s_aload_n (x := some b_43) hx hb dR_call_56 rfl (lv_at hl 0 rfl) ?_
          refine lv_iconst (v := 4) hx hb dR_call_57 (by decide) ?_
          refine s_calli hW (s_runV (n := 1) (As := [.int 4]) (rest := []) hC (c_P_has l G (p_r S 2 10 x none) H.size b_43 4 sb_43) uc_P_has uw_196 uw_197 uw_198 uw_5 rfl rfl (by decide +kernel) ⟨by decide, by decide⟩ (g_preV hW gc_P sb_43 [.int 4]) rfl hl.1 rfl (Nat.le_of_ble_eq_true rfl) dR_call_58 ⟨Nat.le_of_ble_eq_true rfl, Nat.le_of_ble_eq_true rfl⟩) (fun q58 S58 H locs hp58 hW => ?_)
          obtain ⟨hs58, rfl⟩ := hp58
          replace hs58 := hs58.symm
          subst hs58
          refine lv_if_ne (tgt := 67) hx hb dR_call_61 (by decide) (fun c_61 => ?_) (fun c_61 => ?_)
          · skip
            refine s_aload_n (x := some x) hx hb dR_call_67 rfl (lv_at hl 1 rfl) ?_
            refine s_geti hC hW gc_R iw_R 9 (by decide) uw_81 rfl hX rfl dR_call_68 ?_
            refine s_aload_n (x := some x) hx hb dR_call_71 rfl (lv_at hl 1 rfl) ?_
            refine s_geti hC hW gc_R iw_R 0 (by decide) uw_72 rfl hX rfl dR_call_72 ?_
            refine lv_icmp_ge (tgt := 88) hx hb dR_call_75 (by decide) (fun c_75 => ?_) (fun c_75 => ?_)
            · skip
              refine lv_bipush (v := (-6)) hx hb dR_call_88 (by decide) ?_
              have et : f_top (p_r S 2 10 x none) x = b7 := by rw [f_top, eb7]; rfl
              have er : f_run (p_r S 2 10 x none) x = r10 := by rw [f_run, et]; exact er10
              refine W.widen (k := 5) (n := 273) (Nat.le_of_ble_eq_true rfl) (Nat.le_of_ble_eq_true rfl) ?_
              have ec : f_callR (p_r S 2 10 x none) x fr nm = -6 := by rw [f_callR, er, if_pos c_16, if_neg c_23, ← erq38]; simp only [er50]; rw [if_neg c_61, if_pos c_75]
              exact s_iret hC hr hlocks rfl hW dR_call_90 (Or.inl ⟨by rw [ec]; decide, ec.symm, rfl⟩)
            · skip
              refine s_aload_n (x := some x) hx hb dR_call_78 rfl (lv_at hl 1 rfl) ?_
              refine s_geti hC hW gc_R iw_R 9 (by decide) uw_81 rfl hX rfl dR_call_79 ?_
              refine lv_sipush (v := 256) hx hb dR_call_82 (by decide) ?_
              refine lv_icmp_lt (tgt := 91) hx hb dR_call_85 (by decide) (fun c_85 => ?_) (fun c_85 => ?_)
              · skip
                refine s_aload_n (x := some x) hx hb dR_call_91 rfl (lv_at hl 1 rfl) ?_
                refine s_aload_n (x := some x) hx hb dR_call_92 rfl (lv_at hl 1 rfl) ?_
                refine s_getr hC hW gc_R iw_R 8 (by decide) uw_80 rfl hX (v := some b7) eb7 dR_call_93 ?_
                refine s_callq hW (s_runS (n := 1) (As := [va_rf (some b7)]) (rest := [va_rf (some x)]) hC (c_R_levelAbove l G (p_r S 2 10 x none) H.size b7 (wt_unprep hWT) sb7) uc_R_levelAbove uw_208 uw_209 uw_1 rfl rfl (by decide +kernel) ⟨by decide, by decide⟩ (g_preS hW [va_rf (some b7)]) rfl hl.1 rfl (Nat.le_of_ble_eq_true rfl) dR_call_96 ⟨Nat.le_of_ble_eq_true rfl, Nat.le_of_ble_eq_true rfl⟩) (fun rq96 S96 H locs hp96 hW => ?_)
                obtain ⟨u, hla, hre⟩ : ∃ u : Nat, la_R (p_r S 2 10 x none) b7 u S96 ∧ rq96 = some u := by
                  rcases hp96 with ⟨u, h1, h2, h3⟩ | ⟨h1, q, h, pl, bb, va, h2, h3, h4, h5⟩
                  · exact ⟨u, Or.inl ⟨h1, h2⟩, h3⟩
                  · exact ⟨q, Or.inr ⟨h1, h, pl, bb, va, h2, h3, h4⟩, h5⟩
                subst hre
                obtain ⟨hw1, su, hext⟩ := la_wt (wt_unprep hWT) sb7 hla
                refine s_putr (v := some u) hC hW gc_R iw_R 10 (by decide) uw_82 (Or.inl rfl) (g_nr _) (g_ft _) rfl (hext _ _ hX) dR_call_99 (fun H locs hW => ?_)
                refine s_aload_n (x := some x) hx hb dR_call_102 rfl (lv_at hl 1 rfl) ?_
                refine s_getr hC hW gc_R iw_R 10 (by decide) uw_82 rfl (hext _ _ hX) (v := some u) (by simp [x_gs]) dR_call_103 ?_
                refine s_aload_n (x := some b_43) hx hb dR_call_106 rfl (lv_at hl 0 rfl) ?_
                refine s_callv hW (s_runV (n := 1) (As := [va_rf (some b_43)]) (rest := []) hC (c_L_begin l G (p_r S96 2 10 x (some u)) H.size u b_43 (wt_pr hw1 (fun z => absurd z (by decide)) (fun z => absurd z (by decide)) (fun _ => Or.inr ⟨rfl, fun b hb => by cases hb; exact su⟩)) su (hext _ _ sb_43)) uc_L_begin uw_211 uw_212 uw_213 uw_2 rfl rfl (by decide +kernel) ⟨by decide, by decide⟩ (g_preV hW gc_L su [va_rf (some b_43)]) rfl hl.1 rfl (Nat.le_of_ble_eq_true rfl) dR_call_107 ⟨Nat.le_of_ble_eq_true rfl, Nat.le_of_ble_eq_true rfl⟩) (fun S107 H locs hp107 hW => ?_)
                subst hp107
                refine s_aload_n (x := some b_43) hx hb dR_call_110 rfl (lv_at hl 0 rfl) ?_
                refine s_geti hC hW gc_P iw_P 1 (by decide) uw_132 rfl ((f_nul_sh _ _ _ _).trans (hext _ _ sb_43)) rfl dR_call_111 ?_
                have et : f_top (p_r S 2 10 x none) x = b7 := by rw [f_top, eb7]; rfl
                have er : f_run (p_r S 2 10 x none) x = r10 := by rw [f_run, et]; exact er10
                have ec : f_callR (p_r S 2 10 x none) x fr nm = 0 := by rw [f_callR, er, if_pos c_16, if_neg c_23, ← erq38]; simp only [er50]; rw [if_neg c_61, if_neg c_75, if_pos c_85]
                exact s_iret hC hr hlocks rfl hW dR_call_114 (Or.inr ⟨ec, b_43, u, S96, by rw [er]; exact erq38.symm, by rw [et]; exact hla, rfl, rfl⟩)
              · skip
                refine lv_bipush (v := (-6)) hx hb dR_call_88 (by decide) ?_
                have et : f_top (p_r S 2 10 x none) x = b7 := by rw [f_top, eb7]; rfl
                have er : f_run (p_r S 2 10 x none) x = r10 := by rw [f_run, et]; exact er10
                refine W.widen (k := 5) (n := 273) (Nat.le_of_ble_eq_true rfl) (Nat.le_of_ble_eq_true rfl) ?_
                have ec : f_callR (p_r S 2 10 x none) x fr nm = -6 := by rw [f_callR, er, if_pos c_16, if_neg c_23, ← erq38]; simp only [er50]; rw [if_neg c_61, if_neg c_75, if_neg c_85]
                exact s_iret hC hr hlocks rfl hW dR_call_90 (Or.inl ⟨by rw [ec]; decide, ec.symm, rfl⟩)
          · skip
            refine lv_bipush (v := (-5)) hx hb dR_call_64 (by decide) ?_
            have et : f_top (p_r S 2 10 x none) x = b7 := by rw [f_top, eb7]; rfl
            have er : f_run (p_r S 2 10 x none) x = r10 := by rw [f_run, et]; exact er10
            refine W.widen (k := 5) (n := 273) (Nat.le_of_ble_eq_true rfl) (Nat.le_of_ble_eq_true rfl) ?_
            have ec : f_callR (p_r S 2 10 x none) x fr nm = -5 := by rw [f_callR, er, if_pos c_16, if_neg c_23, ← erq38]; simp only [er50]; rw [if_pos c_61]
            exact s_iret hC hr hlocks rfl hW dR_call_66 (Or.inl ⟨by rw [ec]; decide, ec.symm, rfl⟩)
      · skip
        subst c_43
        refine lv_bipush (v := (-3)) hx hb dR_call_46 (by decide) ?_
        have et : f_top (p_r S 2 10 x none) x = b7 := by rw [f_top, eb7]; rfl
        have er : f_run (p_r S 2 10 x none) x = r10 := by rw [f_run, et]; exact er10
        refine W.widen (k := 5) (n := 273) (Nat.le_of_ble_eq_true rfl) (Nat.le_of_ble_eq_true rfl) ?_
        have ec : f_callR (p_r S 2 10 x none) x fr nm = -3 := by rw [f_callR, er, if_pos c_16, if_neg c_23, ← erq38]
        exact s_iret hC hr hlocks rfl hW dR_call_48 (Or.inl ⟨by rw [ec]; decide, ec.symm, rfl⟩)
    · skip
      refine lv_bipush (v := (-2)) hx hb dR_call_26 (by decide) ?_
      have et : f_top (p_r S 2 10 x none) x = b7 := by rw [f_top, eb7]; rfl
      have er : f_run (p_r S 2 10 x none) x = r10 := by rw [f_run, et]; exact er10
      refine W.widen (k := 5) (n := 273) (Nat.le_of_ble_eq_true rfl) (Nat.le_of_ble_eq_true rfl) ?_
      have ec : f_callR (p_r S 2 10 x none) x fr nm = -2 := by rw [f_callR, er, if_pos c_16, if_pos c_23]
      exact s_iret hC hr hlocks rfl hW dR_call_28 (Or.inl ⟨by rw [ec]; decide, ec.symm, rfl⟩)

/-! R.program -/
theorem sh_iP {S : gs_S} {q h b a : Nat} {o : Option Nat} {n nm mk : Int32} {x : Nat ⊕ (Nat × Nat)} (ha : g_sh S a = some x) (hf : i_Pf S q h b) : g_sh (i_P S q o n nm mk h b) a = some x := sh_nA (S := i_P1 S q h) (sh_nA ha hf.1) hf.2
def f_progR (S : gs_S) (x : Nat) (wi nm mk : Int32) : Int32 := if wi = 0 ∨ ¬ f_pOf S x wi = none then (if f_isName nm = 0 then -2 else if mk < 0 then -2 else if mk ≤ 15 then (if g_i S 2 9 x ≤ 0 then (match f_dwR S x (f_pOf S x wi) nm with
    | some _ => -3
    | none => if g_i S 2 2 x < 60 then 0 else -1) else -4) else -2) else -2
def q_program (S : gs_S) (x : Nat) (wi nm mk : Int32) (r : Int32) (S' : gs_S) : Prop := (¬ f_progR S x wi nm mk = 0 ∧ r = f_progR S x wi nm mk ∧ S' = S) ∨ (f_progR S x wi nm mk = 0 ∧ ∃ q h b : Nat, g_sh S q = none ∧ i_Pf (p_new (p_i S 2 2 x (g_i S 2 2 x + 1)) 1 q) q h b ∧ S' = p_ar (n_P (p_i S 2 2 x (g_i S 2 2 x + 1)) q (f_pOf S x wi) (g_i S 2 2 x + 1) nm mk h b) 0 (v_a (g_r S 2 1 x)) ((g_i S 2 2 x).toNatClampNeg + 1) (some q) ∧ r = g_i S 2 2 x + 1)

set_option maxHeartbeats 4000000 in
set_option maxRecDepth 100000 in
theorem c_R_program (l : Launch) (G : gs_G) (S : gs_S) (sz : Nat) (x : Nat) (wi nm mk : Int32) (hWT : w_t S) (hX : g_sh S x = some (.inl 2)) : Met l yR_program (kR_program :: gU) { frames := 2, cells := 3, slots := 41, locals := 36 } (g_Pc G S sz [va_rf (some x), .int wi, .int nm, .int mk]) (g_Qi G S sz (q_program S x wi nm mk)) 3 41 (g_A S sz) := by
  refine s_head (by decide) (Nat.le_of_ble_eq_true rfl) ?_
  intro p e s m below meth c ls hsz hC hr hlocks hnm hl hW
  subst hsz
  obtain ⟨hx, hb, hml, hown, hts⟩ := id hC
  have hl : lv_has ls 6 [(0, va_rf (some x)), (1, .int wi), (2, .int nm), (3, .int mk)] := hl
  refine lv_iload_n hx hb dR_program_0 rfl (lv_at hl 1 rfl) ?_
  refine lv_if_eq (tgt := 12) hx hb dR_program_1 (by decide) (fun c_1 => ?_) (fun c_1 => ?_)
  · skip
    refine lv_iconst (v := 1) hx hb dR_program_12 (by decide) ?_
    refine lv_goto (tgt := 17) hx hb dR_program_13 (by decide) ?_
    refine lv_istore (lv' := [(4, .int 1), (0, va_rf (some x)), (1, .int wi), (2, .int nm), (3, .int mk)]) hx hb dR_program_17 hl (by decide) rfl (fun ls hl => ?_)
    refine lv_iload hx hb dR_program_19 (lv_at hl 0 rfl) ?_
    refine lv_if_eq (tgt := 41) hx hb dR_program_21 (by decide) (fun c => absurd c (by decide)) (fun c_21 => ?_)
    refine lv_iload_n hx hb dR_program_24 rfl (lv_at hl 3 rfl) ?_
    refine s_calli hW (s_runS (n := 1) (As := [.int nm]) (rest := []) hC (c_R_isName l G S s.heap.size nm) uc_R_isName uw_117 uw_118 uw_1 rfl rfl (by decide +kernel) ⟨by decide, by decide⟩ (g_preS hW [.int nm]) rfl hl.1 rfl (Nat.le_of_ble_eq_true rfl) dR_program_25 ⟨Nat.le_of_ble_eq_true rfl, Nat.le_of_ble_eq_true rfl⟩) (fun q25 S25 H locs hp25 hW => ?_)
    obtain ⟨hs25, rfl⟩ := hp25
    replace hs25 := hs25.symm
    subst hs25
    refine lv_if_eq (tgt := 41) hx hb dR_program_28 (by decide) (fun c_28 => ?_) (fun c_28 => ?_)
    · skip
      refine lv_bipush (v := (-2)) hx hb dR_program_41 (by decide) ?_
      refine W.widen (k := 3) (n := 41) (Nat.le_of_ble_eq_true rfl) (Nat.le_of_ble_eq_true rfl) ?_
      have ec : f_progR S x wi nm mk = -2 := by rw [f_progR, if_pos (Or.inl c_1), if_pos c_28]
      exact s_iret hC hr hlocks rfl hW dR_program_43 (Or.inl ⟨by rw [ec]; decide, ec.symm, rfl⟩)
    · skip
      refine lv_iload_n hx hb dR_program_31 rfl (lv_at hl 4 rfl) ?_
      refine lv_if_lt (tgt := 41) hx hb dR_program_32 (by decide) (fun c_32 => ?_) (fun c_32 => ?_)
      · skip
        refine lv_bipush (v := (-2)) hx hb dR_program_41 (by decide) ?_
        refine W.widen (k := 3) (n := 41) (Nat.le_of_ble_eq_true rfl) (Nat.le_of_ble_eq_true rfl) ?_
        have ec : f_progR S x wi nm mk = -2 := by rw [f_progR, if_pos (Or.inl c_1), if_neg c_28, if_pos c_32]
        exact s_iret hC hr hlocks rfl hW dR_program_43 (Or.inl ⟨by rw [ec]; decide, ec.symm, rfl⟩)
      · skip
        refine lv_iload_n hx hb dR_program_35 rfl (lv_at hl 4 rfl) ?_
        refine lv_bipush (v := 15) hx hb dR_program_36 (by decide) ?_
        refine lv_icmp_le (tgt := 44) hx hb dR_program_38 (by decide) (fun c_38 => ?_) (fun c_38 => ?_)
        · skip
          refine s_aload_n (x := some x) hx hb dR_program_44 rfl (lv_at hl 1 rfl) ?_
          refine s_geti hC hW gc_R iw_R 9 (by decide) uw_81 rfl hX rfl dR_program_45 ?_
          refine lv_if_le (tgt := 54) hx hb dR_program_48 (by decide) (fun c_48 => ?_) (fun c_48 => ?_)
          · skip
            refine s_aload_n (x := some x) hx hb dR_program_54 rfl (lv_at hl 1 rfl) ?_
            refine lv_iload_n hx hb dR_program_55 rfl (lv_at hl 2 rfl) ?_
            refine s_callq hW (s_runV (n := 1) (As := [.int wi]) (rest := []) hC (c_R_programOf l G S H.size x wi hWT hX) uc_R_programOf uw_113 uw_115 us_R_programOf uw_1 rfl rfl (by decide +kernel) ⟨by decide, by decide⟩ (g_preV hW gc_R hX [.int wi]) rfl hl.1 rfl (Nat.le_of_ble_eq_true rfl) dR_program_56 ⟨Nat.le_of_ble_eq_true rfl, Nat.le_of_ble_eq_true rfl⟩) (fun rq56 S56 H locs hp56 hW => ?_)
            obtain ⟨hs56, erq56⟩ := hp56
            replace hs56 := hs56.symm
            subst hs56
            refine s_astore (x := rq56) (lv' := [(5, va_rf rq56), (4, .int 1), (0, va_rf (some x)), (1, .int wi), (2, .int nm), (3, .int mk)]) hx hb dR_program_59 hl (by decide) rfl (fun ls hl => ?_)
            refine s_aload_n (x := some x) hx hb dR_program_61 rfl (lv_at hl 2 rfl) ?_
            refine s_aload (x := rq56) hx hb dR_program_62 (lv_at hl 0 rfl) ?_
            refine lv_iload_n hx hb dR_program_64 rfl (lv_at hl 4 rfl) ?_
            refine s_callq hW (s_runV (n := 2) (As := [va_rf rq56, .int nm]) (rest := []) hC (c_R_directlyWithin l G S H.size x rq56 nm hWT hX) uc_R_directlyWithin uw_120 uw_122 us_R_directlyWithin uw_1 rfl rfl (by decide +kernel) ⟨by decide, by decide⟩ (g_preV hW gc_R hX [va_rf rq56, .int nm]) rfl hl.1 rfl (Nat.le_of_ble_eq_true rfl) dR_program_65 ⟨Nat.le_of_ble_eq_true rfl, Nat.le_of_ble_eq_true rfl⟩) (fun rq65 S65 H locs hp65 hW => ?_)
            obtain ⟨hs65, erq65⟩ := hp65
            replace hs65 := hs65.symm
            subst hs65
            refine s_ifnull (x := rq65) (tgt := 74) hx hb dR_program_68 (by decide) (fun c_68 => ?_) (fun b_68 c_68 => ?_)
            · skip
              subst c_68
              obtain ⟨n, hn, en⟩ := w_programCount hWT hX
              refine s_aload_n (x := some x) hx hb dR_program_74 rfl (lv_at hl 2 rfl) ?_
              refine s_geti hC hW gc_R iw_R 2 (by decide) uw_74 rfl hX (v := nI n) en dR_program_75 ?_
              refine lv_bipush (v := 60) hx hb dR_program_78 (by decide) ?_
              refine lv_icmp_lt (tgt := 85) hx hb dR_program_80 (by decide) (fun c_80 => ?_) (fun c_80 => ?_)
              · skip
                have hn2 : n < 60 := (nI_ltI (b := 60) (by omega) (by omega)).mp c_80
                refine s_aload_n (x := some x) hx hb dR_program_85 rfl (lv_at hl 2 rfl) ?_
                refine lv_dup hx hb dR_program_86 rfl ?_
                refine s_geti hC hW gc_R iw_R 2 (by decide) uw_74 rfl hX (v := nI n) en dR_program_87 ?_
                refine lv_iconst (v := 1) hx hb dR_program_90 (by decide) ?_
                refine lv_iadd hx hb dR_program_91 ?_
                refine s_puti hC hW gc_R iw_R 2 (by decide) uw_74 (Or.inl rfl) rfl rfl rfl hX dR_program_92 (fun H locs hW => ?_)
                have ek : g_i (p_i S 2 2 x (nI n + 1)) 2 2 x = nI (n + 1) := by rw [x_g_i_p_i, if_pos ⟨rfl, rfl, rfl⟩]; exact nI_1 n
                refine s_aload_n (x := some x) hx hb dR_program_95 rfl (lv_at hl 2 rfl) ?_
                obtain ⟨b96, eb96, sb96⟩ := w_programs hWT hX
                refine s_getr hC hW gc_R iw_R 1 (by decide) uw_73 rfl hX (v := some b96) eb96 dR_program_96 ?_
                refine s_aload_n (x := some x) hx hb dR_program_99 rfl (lv_at hl 2 rfl) ?_
                refine s_geti hC hW gc_R iw_R 2 (by decide) uw_74 rfl hX (v := nI (n + 1)) ek dR_program_100 ?_
                refine s_new hC hW gc_P iw_P uw_18 uw_124 uw_5 gd_P (Nat.le_of_ble_eq_true rfl) (Nat.le_of_ble_eq_true rfl) dR_program_103 (fun q103 H f103 hW => ?_)
                have hxq : x ≠ q103 := fun z => by rw [← z] at f103; exact absurd (hX.symm.trans f103) (by simp)
                have ek2 : g_i (p_new (p_i S 2 2 x (nI n + 1)) 1 q103) 2 2 x = nI (n + 1) := by rw [x_g_i_new, if_neg hxq]; exact ek
                refine lv_dup hx hb dR_program_106 rfl ?_
                refine s_aload (x := rq56) hx hb dR_program_107 (lv_at hl 0 rfl) ?_
                refine s_aload_n (x := some x) hx hb dR_program_109 rfl (lv_at hl 2 rfl) ?_
                refine s_geti hC hW gc_R iw_R 2 (by decide) uw_74 rfl (sh_nO hX f103) (v := nI (n + 1)) ek2 dR_program_110 ?_
                refine lv_iload_n hx hb dR_program_113 rfl (lv_at hl 4 rfl) ?_
                refine lv_iload_n hx hb dR_program_114 rfl (lv_at hl 5 rfl) ?_
                refine s_callv hW (s_runI (n := 4) (As := [va_rf rq56, .int (nI (n + 1)), .int nm, .int mk]) (rest := [va_rf (some q103), .int (nI (n + 1)), va_rf (some b96)]) hC (c_P_init l G (p_new (p_i S 2 2 x ((nI n) + 1)) 1 q103) H.size q103 rq56 (nI (n + 1)) nm mk g_sh_new) uc_P_init uw_125 uw_126 uw_5 rfl rfl rfl (by decide +kernel) ⟨by decide, by decide⟩ (g_preS hW (.ref q103 :: [va_rf rq56, .int (nI (n + 1)), .int nm, .int mk])) rfl hl.1 rfl (Nat.le_of_ble_eq_true rfl) dR_program_115 ⟨Nat.le_of_ble_eq_true rfl, Nat.le_of_ble_eq_true rfl⟩) (fun S115 H locs hp115 hW => ?_)
                obtain ⟨h115, b115, hf115, hS115⟩ := hp115
                subst hS115
                refine k_aast (x := some q103) hC hW gc_P (sh_iP (o := rq56) (n := nI (n + 1)) (nm := nm) (mk := mk) (sh_nO sb96 f103) hf115) rfl rfl (by decide) (fun _ q => by cases q; exact (sh_iP (o := rq56) (n := nI (n + 1)) (nm := nm) (mk := mk) g_sh_new hf115)) (n + 1) rfl (by omega) dR_program_118 (fun H locs hW => ?_)
                refine s_aload_n (x := some x) hx hb dR_program_119 rfl (lv_at hl 2 rfl) ?_
                refine s_geti hC hW gc_R iw_R 2 (by decide) uw_74 rfl (sh_iP (o := rq56) (n := nI (n + 1)) (nm := nm) (mk := mk) (sh_nO hX f103) hf115) (v := nI (n + 1)) ek2 dR_program_120 ?_
                have ec : f_progR S x wi nm mk = 0 := by rw [f_progR, if_pos (Or.inl c_1), if_neg c_28, if_neg c_32, if_pos c_38, if_pos c_48, ← erq56, ← erq65]; simp only []; rw [en, if_pos c_80]
                exact s_iret hC hr hlocks rfl hW dR_program_123 (Or.inr ⟨ec, q103, h115, b115, f103, by rw [en]; exact hf115, by rw [en, nI_clamp (by omega), eb96, nI_1, ← erq56]; rfl, by rw [en]; exact (nI_1 n).symm⟩)
              · skip
                refine lv_iconst (v := (-1)) hx hb dR_program_83 (by decide) ?_
                refine W.widen (k := 3) (n := 41) (Nat.le_of_ble_eq_true rfl) (Nat.le_of_ble_eq_true rfl) ?_
                have ec : f_progR S x wi nm mk = -1 := by rw [f_progR, if_pos (Or.inl c_1), if_neg c_28, if_neg c_32, if_pos c_38, if_pos c_48, ← erq56, ← erq65]; simp only []; rw [en, if_neg c_80]
                exact s_iret hC hr hlocks rfl hW dR_program_84 (Or.inl ⟨by rw [ec]; decide, ec.symm, rfl⟩)
            · skip
              subst c_68
              have sb_68 := t_dw hWT hX _ erq65.symm
              refine lv_bipush (v := (-3)) hx hb dR_program_71 (by decide) ?_
              refine W.widen (k := 3) (n := 41) (Nat.le_of_ble_eq_true rfl) (Nat.le_of_ble_eq_true rfl) ?_
              have ec : f_progR S x wi nm mk = -3 := by rw [f_progR, if_pos (Or.inl c_1), if_neg c_28, if_neg c_32, if_pos c_38, if_pos c_48, ← erq56, ← erq65]
              exact s_iret hC hr hlocks rfl hW dR_program_73 (Or.inl ⟨by rw [ec]; decide, ec.symm, rfl⟩)
          · skip
            refine lv_bipush (v := (-4)) hx hb dR_program_51 (by decide) ?_
            refine W.widen (k := 3) (n := 41) (Nat.le_of_ble_eq_true rfl) (Nat.le_of_ble_eq_true rfl) ?_
            have ec : f_progR S x wi nm mk = -4 := by rw [f_progR, if_pos (Or.inl c_1), if_neg c_28, if_neg c_32, if_pos c_38, if_neg c_48]
            exact s_iret hC hr hlocks rfl hW dR_program_53 (Or.inl ⟨by rw [ec]; decide, ec.symm, rfl⟩)
        · skip
          refine lv_bipush (v := (-2)) hx hb dR_program_41 (by decide) ?_
          refine W.widen (k := 3) (n := 41) (Nat.le_of_ble_eq_true rfl) (Nat.le_of_ble_eq_true rfl) ?_
          have ec : f_progR S x wi nm mk = -2 := by rw [f_progR, if_pos (Or.inl c_1), if_neg c_28, if_neg c_32, if_neg c_38]
          exact s_iret hC hr hlocks rfl hW dR_program_43 (Or.inl ⟨by rw [ec]; decide, ec.symm, rfl⟩)
  · skip
    refine s_aload_n (x := some x) hx hb dR_program_4 rfl (lv_at hl 0 rfl) ?_
    refine lv_iload_n hx hb dR_program_5 rfl (lv_at hl 1 rfl) ?_
    refine s_callq hW (s_runV (n := 1) (As := [.int wi]) (rest := []) hC (c_R_programOf l G S s.heap.size x wi hWT hX) uc_R_programOf uw_113 uw_115 us_R_programOf uw_1 rfl rfl (by decide +kernel) ⟨by decide, by decide⟩ (g_preV hW gc_R hX [.int wi]) rfl hl.1 rfl (Nat.le_of_ble_eq_true rfl) dR_program_6 ⟨Nat.le_of_ble_eq_true rfl, Nat.le_of_ble_eq_true rfl⟩) (fun rq6 S6 H locs hp6 hW => ?_)
    obtain ⟨hs6, erq6⟩ := hp6
    replace hs6 := hs6.symm
    subst hs6
    refine s_ifnull (x := rq6) (tgt := 16) hx hb dR_program_9 (by decide) (fun c_9 => ?_) (fun b_9 c_9 => ?_)
    · skip
      subst c_9
      refine lv_iconst (v := 0) hx hb dR_program_16 (by decide) ?_
      refine lv_istore (lv' := [(4, .int 0), (0, va_rf (some x)), (1, .int wi), (2, .int nm), (3, .int mk)]) hx hb dR_program_17 hl (by decide) rfl (fun ls hl => ?_)
      refine lv_iload hx hb dR_program_19 (lv_at hl 0 rfl) ?_
      refine lv_if_eq (tgt := 41) hx hb dR_program_21 (by decide) (fun c_21 => ?_) (fun c => absurd rfl c)
      refine lv_bipush (v := (-2)) hx hb dR_program_41 (by decide) ?_
      refine W.widen (k := 3) (n := 41) (Nat.le_of_ble_eq_true rfl) (Nat.le_of_ble_eq_true rfl) ?_
      have ec : f_progR S x wi nm mk = -2 := by rw [f_progR, if_neg (fun z => z.elim c_1 (fun z => z erq6.symm))]
      exact s_iret hC hr hlocks rfl hW dR_program_43 (Or.inl ⟨by rw [ec]; decide, ec.symm, rfl⟩)
    · skip
      subst c_9
      have sb_9 := t_pOf hWT hX _ erq6.symm
      refine lv_iconst (v := 1) hx hb dR_program_12 (by decide) ?_
      refine lv_goto (tgt := 17) hx hb dR_program_13 (by decide) ?_
      refine lv_istore (lv' := [(4, .int 1), (0, va_rf (some x)), (1, .int wi), (2, .int nm), (3, .int mk)]) hx hb dR_program_17 hl (by decide) rfl (fun ls hl => ?_)
      refine lv_iload hx hb dR_program_19 (lv_at hl 0 rfl) ?_
      refine lv_if_eq (tgt := 41) hx hb dR_program_21 (by decide) (fun c => absurd c (by decide)) (fun c_21 => ?_)
      refine lv_iload_n hx hb dR_program_24 rfl (lv_at hl 3 rfl) ?_
      refine s_calli hW (s_runS (n := 1) (As := [.int nm]) (rest := []) hC (c_R_isName l G S H.size nm) uc_R_isName uw_117 uw_118 uw_1 rfl rfl (by decide +kernel) ⟨by decide, by decide⟩ (g_preS hW [.int nm]) rfl hl.1 rfl (Nat.le_of_ble_eq_true rfl) dR_program_25 ⟨Nat.le_of_ble_eq_true rfl, Nat.le_of_ble_eq_true rfl⟩) (fun q25 S25 H locs hp25 hW => ?_)
      obtain ⟨hs25, rfl⟩ := hp25
      replace hs25 := hs25.symm
      subst hs25
      refine lv_if_eq (tgt := 41) hx hb dR_program_28 (by decide) (fun c_28 => ?_) (fun c_28 => ?_)
      · skip
        refine lv_bipush (v := (-2)) hx hb dR_program_41 (by decide) ?_
        refine W.widen (k := 3) (n := 41) (Nat.le_of_ble_eq_true rfl) (Nat.le_of_ble_eq_true rfl) ?_
        have ec : f_progR S x wi nm mk = -2 := by rw [f_progR, if_pos (Or.inr (by rw [← erq6]; simp)), if_pos c_28]
        exact s_iret hC hr hlocks rfl hW dR_program_43 (Or.inl ⟨by rw [ec]; decide, ec.symm, rfl⟩)
      · skip
        refine lv_iload_n hx hb dR_program_31 rfl (lv_at hl 4 rfl) ?_
        refine lv_if_lt (tgt := 41) hx hb dR_program_32 (by decide) (fun c_32 => ?_) (fun c_32 => ?_)
        · skip
          refine lv_bipush (v := (-2)) hx hb dR_program_41 (by decide) ?_
          refine W.widen (k := 3) (n := 41) (Nat.le_of_ble_eq_true rfl) (Nat.le_of_ble_eq_true rfl) ?_
          have ec : f_progR S x wi nm mk = -2 := by rw [f_progR, if_pos (Or.inr (by rw [← erq6]; simp)), if_neg c_28, if_pos c_32]
          exact s_iret hC hr hlocks rfl hW dR_program_43 (Or.inl ⟨by rw [ec]; decide, ec.symm, rfl⟩)
        · skip
          refine lv_iload_n hx hb dR_program_35 rfl (lv_at hl 4 rfl) ?_
          refine lv_bipush (v := 15) hx hb dR_program_36 (by decide) ?_
          refine lv_icmp_le (tgt := 44) hx hb dR_program_38 (by decide) (fun c_38 => ?_) (fun c_38 => ?_)
          · skip
            refine s_aload_n (x := some x) hx hb dR_program_44 rfl (lv_at hl 1 rfl) ?_
            refine s_geti hC hW gc_R iw_R 9 (by decide) uw_81 rfl hX rfl dR_program_45 ?_
            refine lv_if_le (tgt := 54) hx hb dR_program_48 (by decide) (fun c_48 => ?_) (fun c_48 => ?_)
            · skip
              refine s_aload_n (x := some x) hx hb dR_program_54 rfl (lv_at hl 1 rfl) ?_
              refine lv_iload_n hx hb dR_program_55 rfl (lv_at hl 2 rfl) ?_
              refine s_callq hW (s_runV (n := 1) (As := [.int wi]) (rest := []) hC (c_R_programOf l G S H.size x wi hWT hX) uc_R_programOf uw_113 uw_115 us_R_programOf uw_1 rfl rfl (by decide +kernel) ⟨by decide, by decide⟩ (g_preV hW gc_R hX [.int wi]) rfl hl.1 rfl (Nat.le_of_ble_eq_true rfl) dR_program_56 ⟨Nat.le_of_ble_eq_true rfl, Nat.le_of_ble_eq_true rfl⟩) (fun rq56 S56 H locs hp56 hW => ?_)
              obtain ⟨hs56, erq56⟩ := hp56
              replace hs56 := hs56.symm
              subst hs56
              refine s_astore (x := rq56) (lv' := [(5, va_rf rq56), (4, .int 1), (0, va_rf (some x)), (1, .int wi), (2, .int nm), (3, .int mk)]) hx hb dR_program_59 hl (by decide) rfl (fun ls hl => ?_)
              refine s_aload_n (x := some x) hx hb dR_program_61 rfl (lv_at hl 2 rfl) ?_
              refine s_aload (x := rq56) hx hb dR_program_62 (lv_at hl 0 rfl) ?_
              refine lv_iload_n hx hb dR_program_64 rfl (lv_at hl 4 rfl) ?_
              refine s_callq hW (s_runV (n := 2) (As := [va_rf rq56, .int nm]) (rest := []) hC (c_R_directlyWithin l G S H.size x rq56 nm hWT hX) uc_R_directlyWithin uw_120 uw_122 us_R_directlyWithin uw_1 rfl rfl (by decide +kernel) ⟨by decide, by decide⟩ (g_preV hW gc_R hX [va_rf rq56, .int nm]) rfl hl.1 rfl (Nat.le_of_ble_eq_true rfl) dR_program_65 ⟨Nat.le_of_ble_eq_true rfl, Nat.le_of_ble_eq_true rfl⟩) (fun rq65 S65 H locs hp65 hW => ?_)
              obtain ⟨hs65, erq65⟩ := hp65
              replace hs65 := hs65.symm
              subst hs65
              refine s_ifnull (x := rq65) (tgt := 74) hx hb dR_program_68 (by decide) (fun c_68 => ?_) (fun b_68 c_68 => ?_)
              · skip
                subst c_68
                obtain ⟨n, hn, en⟩ := w_programCount hWT hX
                refine s_aload_n (x := some x) hx hb dR_program_74 rfl (lv_at hl 2 rfl) ?_
                refine s_geti hC hW gc_R iw_R 2 (by decide) uw_74 rfl hX (v := nI n) en dR_program_75 ?_
                refine lv_bipush (v := 60) hx hb dR_program_78 (by decide) ?_
                refine lv_icmp_lt (tgt := 85) hx hb dR_program_80 (by decide) (fun c_80 => ?_) (fun c_80 => ?_)
                · skip
                  have hn2 : n < 60 := (nI_ltI (b := 60) (by omega) (by omega)).mp c_80
                  refine s_aload_n (x := some x) hx hb dR_program_85 rfl (lv_at hl 2 rfl) ?_
                  refine lv_dup hx hb dR_program_86 rfl ?_
                  refine s_geti hC hW gc_R iw_R 2 (by decide) uw_74 rfl hX (v := nI n) en dR_program_87 ?_
                  refine lv_iconst (v := 1) hx hb dR_program_90 (by decide) ?_
                  refine lv_iadd hx hb dR_program_91 ?_
                  refine s_puti hC hW gc_R iw_R 2 (by decide) uw_74 (Or.inl rfl) rfl rfl rfl hX dR_program_92 (fun H locs hW => ?_)
                  have ek : g_i (p_i S 2 2 x (nI n + 1)) 2 2 x = nI (n + 1) := by rw [x_g_i_p_i, if_pos ⟨rfl, rfl, rfl⟩]; exact nI_1 n
                  refine s_aload_n (x := some x) hx hb dR_program_95 rfl (lv_at hl 2 rfl) ?_
                  obtain ⟨b96, eb96, sb96⟩ := w_programs hWT hX
                  refine s_getr hC hW gc_R iw_R 1 (by decide) uw_73 rfl hX (v := some b96) eb96 dR_program_96 ?_
                  refine s_aload_n (x := some x) hx hb dR_program_99 rfl (lv_at hl 2 rfl) ?_
                  refine s_geti hC hW gc_R iw_R 2 (by decide) uw_74 rfl hX (v := nI (n + 1)) ek dR_program_100 ?_
                  refine s_new hC hW gc_P iw_P uw_18 uw_124 uw_5 gd_P (Nat.le_of_ble_eq_true rfl) (Nat.le_of_ble_eq_true rfl) dR_program_103 (fun q103 H f103 hW => ?_)
                  have hxq : x ≠ q103 := fun z => by rw [← z] at f103; exact absurd (hX.symm.trans f103) (by simp)
                  have ek2 : g_i (p_new (p_i S 2 2 x (nI n + 1)) 1 q103) 2 2 x = nI (n + 1) := by rw [x_g_i_new, if_neg hxq]; exact ek
                  refine lv_dup hx hb dR_program_106 rfl ?_
                  refine s_aload (x := rq56) hx hb dR_program_107 (lv_at hl 0 rfl) ?_
                  refine s_aload_n (x := some x) hx hb dR_program_109 rfl (lv_at hl 2 rfl) ?_
                  refine s_geti hC hW gc_R iw_R 2 (by decide) uw_74 rfl (sh_nO hX f103) (v := nI (n + 1)) ek2 dR_program_110 ?_
                  refine lv_iload_n hx hb dR_program_113 rfl (lv_at hl 4 rfl) ?_
                  refine lv_iload_n hx hb dR_program_114 rfl (lv_at hl 5 rfl) ?_
                  refine s_callv hW (s_runI (n := 4) (As := [va_rf rq56, .int (nI (n + 1)), .int nm, .int mk]) (rest := [va_rf (some q103), .int (nI (n + 1)), va_rf (some b96)]) hC (c_P_init l G (p_new (p_i S 2 2 x ((nI n) + 1)) 1 q103) H.size q103 rq56 (nI (n + 1)) nm mk g_sh_new) uc_P_init uw_125 uw_126 uw_5 rfl rfl rfl (by decide +kernel) ⟨by decide, by decide⟩ (g_preS hW (.ref q103 :: [va_rf rq56, .int (nI (n + 1)), .int nm, .int mk])) rfl hl.1 rfl (Nat.le_of_ble_eq_true rfl) dR_program_115 ⟨Nat.le_of_ble_eq_true rfl, Nat.le_of_ble_eq_true rfl⟩) (fun S115 H locs hp115 hW => ?_)
                  obtain ⟨h115, b115, hf115, hS115⟩ := hp115
                  subst hS115
                  refine k_aast (x := some q103) hC hW gc_P (sh_iP (o := rq56) (n := nI (n + 1)) (nm := nm) (mk := mk) (sh_nO sb96 f103) hf115) rfl rfl (by decide) (fun _ q => by cases q; exact (sh_iP (o := rq56) (n := nI (n + 1)) (nm := nm) (mk := mk) g_sh_new hf115)) (n + 1) rfl (by omega) dR_program_118 (fun H locs hW => ?_)
                  refine s_aload_n (x := some x) hx hb dR_program_119 rfl (lv_at hl 2 rfl) ?_
                  refine s_geti hC hW gc_R iw_R 2 (by decide) uw_74 rfl (sh_iP (o := rq56) (n := nI (n + 1)) (nm := nm) (mk := mk) (sh_nO hX f103) hf115) (v := nI (n + 1)) ek2 dR_program_120 ?_
                  have ec : f_progR S x wi nm mk = 0 := by rw [f_progR, if_pos (Or.inr (by rw [← erq6]; simp)), if_neg c_28, if_neg c_32, if_pos c_38, if_pos c_48, ← erq56, ← erq65]; simp only []; rw [en, if_pos c_80]
                  exact s_iret hC hr hlocks rfl hW dR_program_123 (Or.inr ⟨ec, q103, h115, b115, f103, by rw [en]; exact hf115, by rw [en, nI_clamp (by omega), eb96, nI_1, ← erq56]; rfl, by rw [en]; exact (nI_1 n).symm⟩)
                · skip
                  refine lv_iconst (v := (-1)) hx hb dR_program_83 (by decide) ?_
                  refine W.widen (k := 3) (n := 41) (Nat.le_of_ble_eq_true rfl) (Nat.le_of_ble_eq_true rfl) ?_
                  have ec : f_progR S x wi nm mk = -1 := by rw [f_progR, if_pos (Or.inr (by rw [← erq6]; simp)), if_neg c_28, if_neg c_32, if_pos c_38, if_pos c_48, ← erq56, ← erq65]; simp only []; rw [en, if_neg c_80]
                  exact s_iret hC hr hlocks rfl hW dR_program_84 (Or.inl ⟨by rw [ec]; decide, ec.symm, rfl⟩)
              · skip
                subst c_68
                have sb_68 := t_dw hWT hX _ erq65.symm
                refine lv_bipush (v := (-3)) hx hb dR_program_71 (by decide) ?_
                refine W.widen (k := 3) (n := 41) (Nat.le_of_ble_eq_true rfl) (Nat.le_of_ble_eq_true rfl) ?_
                have ec : f_progR S x wi nm mk = -3 := by rw [f_progR, if_pos (Or.inr (by rw [← erq6]; simp)), if_neg c_28, if_neg c_32, if_pos c_38, if_pos c_48, ← erq56, ← erq65]
                exact s_iret hC hr hlocks rfl hW dR_program_73 (Or.inl ⟨by rw [ec]; decide, ec.symm, rfl⟩)
            · skip
              refine lv_bipush (v := (-4)) hx hb dR_program_51 (by decide) ?_
              refine W.widen (k := 3) (n := 41) (Nat.le_of_ble_eq_true rfl) (Nat.le_of_ble_eq_true rfl) ?_
              have ec : f_progR S x wi nm mk = -4 := by rw [f_progR, if_pos (Or.inr (by rw [← erq6]; simp)), if_neg c_28, if_neg c_32, if_pos c_38, if_neg c_48]
              exact s_iret hC hr hlocks rfl hW dR_program_53 (Or.inl ⟨by rw [ec]; decide, ec.symm, rfl⟩)
          · skip
            refine lv_bipush (v := (-2)) hx hb dR_program_41 (by decide) ?_
            refine W.widen (k := 3) (n := 41) (Nat.le_of_ble_eq_true rfl) (Nat.le_of_ble_eq_true rfl) ?_
            have ec : f_progR S x wi nm mk = -2 := by rw [f_progR, if_pos (Or.inr (by rw [← erq6]; simp)), if_neg c_28, if_neg c_32, if_neg c_38]
            exact s_iret hC hr hlocks rfl hW dR_program_43 (Or.inl ⟨by rw [ec]; decide, ec.symm, rfl⟩)
