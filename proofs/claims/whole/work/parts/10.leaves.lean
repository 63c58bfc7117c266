theorem s_catI (x : Int32) : (Value.int x).category = 1 := rfl
theorem s_catL (x : Int64) : (Value.long x).category = 2 := rfl

/-! R.isName -/
def f_isName (n : Int32) : Int32 := if n < 0 then 0 else if 100 ≤ n then 0 else 1

set_option maxHeartbeats 4000000 in
set_option maxRecDepth 100000 in
theorem c_R_isName (l : Launch) (G : gs_G) (S : gs_S) (sz : Nat) (n : Int32) : Met l yR_isName (kR_isName :: gU) { frames := 0, cells := 0, slots := 0, locals := 0 } (g_Pc G S sz [.int n]) (g_Qi G S sz (fun r S' => S' = S ∧ r = f_isName n)) 0 0 (g_A S sz) := by
  refine s_head (by decide) (Nat.le_of_ble_eq_true rfl) ?_
  intro p e s m below meth c ls hsz hC hr hlocks hnm hl hW
  subst hsz
  obtain ⟨hx, hb, hml, hown, hts⟩ := id hC
  have hl : lv_has ls 1 [(0, .int n)] := hl
  refine lv_iload_n hx hb dR_isName_0 rfl (lv_at hl 0 rfl) ?_
  refine lv_if_lt (tgt := 14) hx hb dR_isName_1 (by decide) (fun c_1 => ?_) (fun c_1 => ?_)
  · skip
    refine lv_iconst (v := 0) hx hb dR_isName_14 (by decide) ?_
    exact s_iret hC hr hlocks rfl hW dR_isName_15 ⟨rfl, by simp [f_isName, c_1]⟩
  · skip
    refine lv_iload_n hx hb dR_isName_4 rfl (lv_at hl 0 rfl) ?_
    refine lv_bipush (v := 100) hx hb dR_isName_5 (by decide) ?_
    refine lv_icmp_ge (tgt := 14) hx hb dR_isName_7 (by decide) (fun c_7 => ?_) (fun c_7 => ?_)
    · skip
      refine lv_iconst (v := 0) hx hb dR_isName_14 (by decide) ?_
      exact s_iret hC hr hlocks rfl hW dR_isName_15 ⟨rfl, by simp [f_isName, c_1, c_7]⟩
    · skip
      refine lv_iconst (v := 1) hx hb dR_isName_10 (by decide) ?_
      refine lv_goto (tgt := 15) hx hb dR_isName_11 (by decide) ?_
      exact s_iret hC hr hlocks rfl hW dR_isName_15 ⟨rfl, by simp [f_isName, c_1, c_7]⟩

/-! R.numberOf -/
def f_no (S : gs_S) (r : Option Nat) : Int32 := match r with
  | none => 0
  | some a => g_i S 1 1 a

set_option maxHeartbeats 4000000 in
set_option maxRecDepth 100000 in
theorem c_R_numberOf (l : Launch) (G : gs_G) (S : gs_S) (sz : Nat) (r0 : Option Nat) (h0 : t_o S 1 r0) : Met l yR_numberOf (kR_numberOf :: gU) { frames := 0, cells := 0, slots := 0, locals := 0 } (g_Pc G S sz [va_rf r0]) (g_Qi G S sz (fun r S' => S' = S ∧ r = f_no S r0)) 0 0 (g_A S sz) := by
  refine s_head (by decide) (by simp [lg_sl, s_cat, s_catI, s_catL]) ?_
  intro p e s m below meth c ls hsz hC hr hlocks hnm hl hW
  subst hsz
  obtain ⟨hx, hb, hml, hown, hts⟩ := id hC
  have hl : lv_has ls 1 [(0, va_rf r0)] := by simpa [lv_args, s_cat, s_catI, s_catL] using hl
  refine s_aload_n (x := r0) hx hb dR_numberOf_0 rfl (lv_at hl 0 rfl) ?_
  refine s_ifnonnull (x := r0) (tgt := 8) hx hb dR_numberOf_1 (by decide) (fun b_1 c_1 => ?_) (fun c_1 => ?_)
  · skip
    subst c_1
    have sb_1 := h0 _ rfl
    refine s_aload_n (x := some b_1) hx hb dR_numberOf_8 rfl (lv_at hl 0 rfl) ?_
    refine s_geti hC hW gc_P iw_P 1 (by decide) uw_132 rfl sb_1 rfl dR_numberOf_9 ?_
    exact s_iret hC hr hlocks rfl hW dR_numberOf_12 ⟨rfl, rfl⟩
  · skip
    subst c_1
    refine lv_iconst (v := 0) hx hb dR_numberOf_4 (by decide) ?_
    refine lv_goto (tgt := 12) hx hb dR_numberOf_5 (by decide) ?_
    exact s_iret hC hr hlocks rfl hW dR_numberOf_12 ⟨rfl, rfl⟩

/-! P.has -/
def f_has (S : gs_S) (a : Nat) (k : Int32) : Int32 := if g_i S 1 3 a &&& k = 0 then 0 else 1

set_option maxHeartbeats 4000000 in
set_option maxRecDepth 100000 in
theorem c_P_has (l : Launch) (G : gs_G) (S : gs_S) (sz : Nat) (a : Nat) (k : Int32) (ha : g_sh S a = some (.inl 1)) : Met l yP_has (kP_has :: gU) { frames := 0, cells := 0, slots := 0, locals := 0 } (g_Pc G S sz [va_rf (some a), .int k]) (g_Qi G S sz (fun r S' => S' = S ∧ r = f_has S a k)) 0 0 (g_A S sz) := by
  refine s_head (by decide) (Nat.le_of_ble_eq_true rfl) ?_
  intro p e s m below meth c ls hsz hC hr hlocks hnm hl hW
  subst hsz
  obtain ⟨hx, hb, hml, hown, hts⟩ := id hC
  have hl : lv_has ls 2 [(0, va_rf (some a)), (1, .int k)] := hl
  refine s_aload_n (x := some a) hx hb dP_has_0 rfl (lv_at hl 0 rfl) ?_
  refine s_geti hC hW gc_P iw_P 3 (by decide) uw_135 rfl ha rfl dP_has_1 ?_
  refine lv_iload_n hx hb dP_has_4 rfl (lv_at hl 1 rfl) ?_
  refine lv_iand hx hb dP_has_5 ?_
  refine lv_if_eq (tgt := 13) hx hb dP_has_6 (by decide) (fun c_6 => ?_) (fun c_6 => ?_)
  · skip
    refine lv_iconst (v := 0) hx hb dP_has_13 (by decide) ?_
    exact s_iret hC hr hlocks rfl hW dP_has_14 ⟨rfl, by simp [f_has, c_6]⟩
  · skip
    refine lv_iconst (v := 1) hx hb dP_has_9 (by decide) ?_
    refine lv_goto (tgt := 14) hx hb dP_has_10 (by decide) ?_
    exact s_iret hC hr hlocks rfl hW dP_has_14 ⟨rfl, by simp [f_has, c_6]⟩

/-! P.keepsData -/
def f_keeps (S : gs_S) (a : Nat) : Int32 := if f_has S a 1 = 0 then (if f_has S a 4 = 0 then 1 else 0) else 0

set_option maxHeartbeats 4000000 in
set_option maxRecDepth 100000 in
theorem c_P_keepsData (l : Launch) (G : gs_G) (S : gs_S) (sz : Nat) (a : Nat) (ha : g_sh S a = some (.inl 1)) : Met l yP_keepsData (kP_keepsData :: gU) { frames := 1, cells := 0, slots := 0, locals := 21 } (g_Pc G S sz [va_rf (some a)]) (g_Qi G S sz (fun r S' => S' = S ∧ r = f_keeps S a)) 0 0 (g_A S sz) := by
  refine s_head (by decide) (Nat.le_of_ble_eq_true rfl) ?_
  intro p e s m below meth c ls hsz hC hr hlocks hnm hl hW
  subst hsz
  obtain ⟨hx, hb, hml, hown, hts⟩ := id hC
  have hl : lv_has ls 1 [(0, va_rf (some a))] := hl
  refine s_aload_n (x := some a) hx hb dP_keepsData_0 rfl (lv_at hl 0 rfl) ?_
  refine lv_iconst (v := 1) hx hb dP_keepsData_1 (by decide) ?_
  refine s_calli hW (s_runV (n := 1) (As := [.int 1]) (rest := []) hC (c_P_has l G S s.heap.size a 1 ha) uc_P_has uw_259 uw_197 uw_198 uw_5 rfl rfl (by decide +kernel) ⟨by decide, by decide⟩ (g_preV hW gc_P ha [.int 1]) rfl hl.1 rfl (Nat.le_of_ble_eq_true rfl) dP_keepsData_2 ⟨Nat.le_of_ble_eq_true rfl, Nat.le_of_ble_eq_true rfl⟩) (fun q2 S2 H locs hp2 hW => ?_)
  obtain ⟨hs2, rfl⟩ := hp2
  replace hs2 := hs2.symm
  subst hs2
  refine lv_if_ne (tgt := 20) hx hb dP_keepsData_5 (by decide) (fun c_5 => ?_) (fun c_5 => ?_)
  · skip
    refine lv_iconst (v := 0) hx hb dP_keepsData_20 (by decide) ?_
    exact s_iret hC hr hlocks rfl hW dP_keepsData_21 ⟨rfl, by simp [f_keeps, c_5]⟩
  · skip
    refine s_aload_n (x := some a) hx hb dP_keepsData_8 rfl (lv_at hl 0 rfl) ?_
    refine lv_iconst (v := 4) hx hb dP_keepsData_9 (by decide) ?_
    refine s_calli hW (s_runV (n := 1) (As := [.int 4]) (rest := []) hC (c_P_has l G S H.size a 4 ha) uc_P_has uw_259 uw_197 uw_198 uw_5 rfl rfl (by decide +kernel) ⟨by decide, by decide⟩ (g_preV hW gc_P ha [.int 4]) rfl hl.1 rfl (Nat.le_of_ble_eq_true rfl) dP_keepsData_10 ⟨Nat.le_of_ble_eq_true rfl, Nat.le_of_ble_eq_true rfl⟩) (fun q10 S10 H locs hp10 hW => ?_)
    obtain ⟨hs10, rfl⟩ := hp10
    replace hs10 := hs10.symm
    subst hs10
    refine lv_if_ne (tgt := 20) hx hb dP_keepsData_13 (by decide) (fun c_13 => ?_) (fun c_13 => ?_)
    · skip
      refine lv_iconst (v := 0) hx hb dP_keepsData_20 (by decide) ?_
      exact s_iret hC hr hlocks rfl hW dP_keepsData_21 ⟨rfl, by simp [f_keeps, c_5, c_13]⟩
    · skip
      refine lv_iconst (v := 1) hx hb dP_keepsData_16 (by decide) ?_
      refine lv_goto (tgt := 21) hx hb dP_keepsData_17 (by decide) ?_
      exact s_iret hC hr hlocks rfl hW dP_keepsData_21 ⟨rfl, by simp [f_keeps, c_5, c_13]⟩

/-! R.programOf -/
def v_a (r : Option Nat) : Nat := r.getD 0
def f_pOf (S : gs_S) (x : Nat) (i : Int32) : Option Nat := if i < 1 then none else if g_i S 2 2 x < i then none else g_ar S 0 (v_a (g_r S 2 1 x)) i.toNatClampNeg

theorem x_pOf {n : Nat} {i m : Int32} (hn : n ≤ 60) (em : m = nI n) (c1 : ¬ i < 1) (c2 : ¬ m < i) : ∃ j : Nat, j ≤ n ∧ i = nI j := by
  subst em
  have h0 : ¬ i < 0 := fun h => c1 (Int32.lt_iff_toInt_lt.mpr (by have := Int32.lt_iff_toInt_lt.mp h; simp at this ⊢; omega))
  obtain ⟨j, hj, rfl⟩ := nI_of h0
  refine ⟨j, ?_, rfl⟩
  rw [nI_ltI (by omega) hj] at c2
  omega

set_option maxHeartbeats 4000000 in
set_option maxRecDepth 100000 in
theorem c_R_programOf (l : Launch) (G : gs_G) (S : gs_S) (sz : Nat) (x : Nat) (i : Int32) (hWT : w_t S) (hX : g_sh S x = some (.inl 2)) : Met l yR_programOf (kR_programOf :: gU) { frames := 0, cells := 0, slots := 0, locals := 0 } (g_Pc G S sz [va_rf (some x), .int i]) (g_Qq G S sz (fun r S' => S' = S ∧ r = f_pOf S x i)) 0 0 (g_A S sz) := by
  refine s_head (by decide) (Nat.le_of_ble_eq_true rfl) ?_
  intro p e s m below meth c ls hsz hC hr hlocks hnm hl hW
  subst hsz
  obtain ⟨hx, hb, hml, hown, hts⟩ := id hC
  have hl : lv_has ls 2 [(0, va_rf (some x)), (1, .int i)] := hl
  refine lv_iload_n hx hb dR_programOf_0 rfl (lv_at hl 1 rfl) ?_
  refine lv_iconst (v := 1) hx hb dR_programOf_1 (by decide) ?_
  refine lv_icmp_lt (tgt := 22) hx hb dR_programOf_2 (by decide) (fun c_2 => ?_) (fun c_2 => ?_)
  · skip
    refine s_null hx hb dR_programOf_22 ?_
    exact s_aret (v := none) hC hr hlocks hW dR_programOf_23 ⟨rfl, by simp [f_pOf, c_2]⟩
  · skip
    refine lv_iload_n hx hb dR_programOf_5 rfl (lv_at hl 1 rfl) ?_
    refine s_aload_n (x := some x) hx hb dR_programOf_6 rfl (lv_at hl 0 rfl) ?_
    refine s_geti hC hW gc_R iw_R 2 (by decide) uw_74 rfl hX rfl dR_programOf_7 ?_
    refine lv_icmp_gt (tgt := 22) hx hb dR_programOf_10 (by decide) (fun c_10 => ?_) (fun c_10 => ?_)
    · skip
      refine s_null hx hb dR_programOf_22 ?_
      exact s_aret (v := none) hC hr hlocks hW dR_programOf_23 ⟨rfl, by simp [f_pOf, c_2, c_10]⟩
    · skip
      refine s_aload_n (x := some x) hx hb dR_programOf_13 rfl (lv_at hl 0 rfl) ?_
      obtain ⟨b14, eb14, sb14⟩ := w_programs hWT hX
      refine s_getr hC hW gc_R iw_R 1 (by decide) uw_73 rfl hX (v := some b14) eb14 dR_programOf_14 ?_
      refine lv_iload_n hx hb dR_programOf_17 rfl (lv_at hl 1 rfl) ?_
      obtain ⟨n, hn, en⟩ := w_programCount hWT hX
      obtain ⟨j, hj, ej⟩ := x_pOf hn en c_2 c_10
      obtain ⟨r18, er18⟩ : ∃ r : Option Nat, g_ar S 0 b14 j = r := ⟨_, rfl⟩
      refine k_aald hC hW sb14 rfl rfl (by decide) j ej (by omega) (v := r18) er18 dR_programOf_18 ?_
      refine lv_goto (tgt := 23) hx hb dR_programOf_19 (by decide) ?_
      exact s_aret (v := r18) hC hr hlocks hW dR_programOf_23 ⟨rfl, by unfold f_pOf; rw [if_neg c_2, if_neg c_10, eb14, ← er18, ej, nI_clamp (show j < 2 ^ 31 by omega)]; rfl⟩

/-! L.share -/
def f_share (S : gs_S) (a j : Nat) (h : Option Nat) (q b : Int32) : gs_S := p_ai (p_ai (p_ar S 6 (v_a (g_r S 0 5 a)) j h) 7 (v_a (g_r S 0 6 a)) j q) 8 (v_a (g_r S 0 7 a)) j b

set_option maxHeartbeats 4000000 in
set_option maxRecDepth 100000 in
theorem c_L_share (l : Launch) (G : gs_G) (S : gs_S) (sz : Nat) (a j h : Nat) (q b : Int32) (hWT : w_t S) (ha : g_sh S a = some (.inl 0)) (hh : g_sh S h = some (.inl 0)) (hlt_j : j < 16) : Met l yL_share (kL_share :: gU) { frames := 0, cells := 0, slots := 0, locals := 0 } (g_Pc G S sz [va_rf (some a), .int (nI j), va_rf (some h), .int q, .int b]) (g_Qv G S sz (fun S' => S' = f_share S a j (some h) q b)) 0 0 (g_A S sz) := by
  refine s_head (by decide) (Nat.le_of_ble_eq_true rfl) ?_
  intro p e s m below meth c ls hsz hC hr hlocks hnm hl hW
  subst hsz
  obtain ⟨hx, hb, hml, hown, hts⟩ := id hC
  have hl : lv_has ls 5 [(0, va_rf (some a)), (1, .int (nI j)), (2, va_rf (some h)), (3, .int q), (4, .int b)] := hl
  refine s_aload_n (x := some a) hx hb dL_share_0 rfl (lv_at hl 0 rfl) ?_
  obtain ⟨b1, eb1, sb1⟩ := w_holders hWT ha
  refine s_getr hC hW gc_L iw_L 5 (by decide) uw_36 rfl ha (v := some b1) eb1 dL_share_1 ?_
  refine lv_iload_n hx hb dL_share_4 rfl (lv_at hl 1 rfl) ?_
  refine s_aload_n (x := some h) hx hb dL_share_5 rfl (lv_at hl 2 rfl) ?_
  refine k_aast (x := some h) hC hW gc_L sb1 rfl rfl (by decide) (fun _ q => by cases q; exact hh) j rfl (by omega) dL_share_6 (fun H locs hW => ?_)
  refine s_aload_n (x := some a) hx hb dL_share_7 rfl (lv_at hl 0 rfl) ?_
  obtain ⟨b8, eb8, sb8⟩ := w_places hWT ha
  refine s_getr hC hW gc_L iw_L 6 (by decide) uw_38 rfl ha (v := some b8) eb8 dL_share_8 ?_
  refine lv_iload_n hx hb dL_share_11 rfl (lv_at hl 1 rfl) ?_
  refine lv_iload_n hx hb dL_share_12 rfl (lv_at hl 3 rfl) ?_
  refine k_iast hC hW sb8 rfl rfl (by decide) j rfl (by omega) dL_share_13 (fun H locs hW => ?_)
  refine s_aload_n (x := some a) hx hb dL_share_14 rfl (lv_at hl 0 rfl) ?_
  obtain ⟨b15, eb15, sb15⟩ := w_bytes hWT ha
  refine s_getr hC hW gc_L iw_L 7 (by decide) uw_40 rfl ha (v := some b15) eb15 dL_share_15 ?_
  refine lv_iload_n hx hb dL_share_18 rfl (lv_at hl 1 rfl) ?_
  refine lv_iload hx hb dL_share_19 (lv_at hl 4 rfl) ?_
  refine k_iast hC hW sb15 rfl rfl (by decide) j rfl (by omega) dL_share_21 (fun H locs hW => ?_)
  exact s_vret hC hr hlocks hW dL_share_22 (by simp only [f_share, v_a, eb1, eb8, eb15, Option.getD_some])

/-! L.copy -/
def f_copy (S : gs_S) (a j : Nat) : gs_S := match g_ar S 6 (v_a (g_r S 0 5 a)) j with
  | none => S
  | some h => p_ai (p_ar (p_al S 9 (v_a (g_r S 0 8 a)) j (g_al S 9 (v_a (g_r S 0 8 h)) (g_ai S 7 (v_a (g_r S 0 6 a)) j).toNatClampNeg)) 6 (v_a (g_r S 0 5 a)) j (some a)) 7 (v_a (g_r S 0 6 a)) j (nI j)

set_option maxHeartbeats 4000000 in
set_option maxRecDepth 100000 in
theorem c_L_copy (l : Launch) (G : gs_G) (S : gs_S) (sz : Nat) (a j : Nat) (hWT : w_t S) (ha : g_sh S a = some (.inl 0)) (hlt_j : j < 16) : Met l yL_copy (kL_copy :: gU) { frames := 0, cells := 0, slots := 0, locals := 0 } (g_Pc G S sz [va_rf (some a), .int (nI j)]) (g_Qv G S sz (fun S' => S' = f_copy S a j)) 0 0 (g_A S sz) := by
  refine s_head (by decide) (Nat.le_of_ble_eq_true rfl) ?_
  intro p e s m below meth c ls hsz hC hr hlocks hnm hl hW
  subst hsz
  obtain ⟨hx, hb, hml, hown, hts⟩ := id hC
  have hl : lv_has ls 3 [(0, va_rf (some a)), (1, .int (nI j))] := hl
  refine s_aload_n (x := some a) hx hb dL_copy_0 rfl (lv_at hl 0 rfl) ?_
  obtain ⟨b1, eb1, sb1⟩ := w_holders hWT ha
  refine s_getr hC hW gc_L iw_L 5 (by decide) uw_36 rfl ha (v := some b1) eb1 dL_copy_1 ?_
  refine lv_iload_n hx hb dL_copy_4 rfl (lv_at hl 1 rfl) ?_
  obtain ⟨r5, er5⟩ : ∃ r : Option Nat, g_ar S 6 b1 j = r := ⟨_, rfl⟩
  refine k_aald hC hW sb1 rfl rfl (by decide) j rfl (by omega) (v := r5) er5 dL_copy_5 ?_
  refine s_astore_n (x := r5) (lv' := [(2, va_rf r5), (0, va_rf (some a)), (1, .int (nI j))]) hx hb dL_copy_6 rfl hl (by decide) rfl (fun ls hl => ?_)
  refine s_aload_n (x := r5) hx hb dL_copy_7 rfl (lv_at hl 0 rfl) ?_
  refine s_ifnull (x := r5) (tgt := 42) hx hb dL_copy_8 (by decide) (fun c_8 => ?_) (fun b_8 c_8 => ?_)
  · skip
    subst c_8
    exact s_vret hC hr hlocks hW dL_copy_42 (by simp only [f_copy, v_a, eb1, er5, Option.getD_some])
  · skip
    subst c_8
    have sb_8 := hWT.2.1 _ sb1 _ (by omega) _ er5
    refine s_aload_n (x := some a) hx hb dL_copy_11 rfl (lv_at hl 1 rfl) ?_
    obtain ⟨b12, eb12, sb12⟩ := w_values hWT ha
    refine s_getr hC hW gc_L iw_L 8 (by decide) uw_42 rfl ha (v := some b12) eb12 dL_copy_12 ?_
    refine lv_iload_n hx hb dL_copy_15 rfl (lv_at hl 2 rfl) ?_
    refine s_aload_n (x := some b_8) hx hb dL_copy_16 rfl (lv_at hl 0 rfl) ?_
    obtain ⟨b17, eb17, sb17⟩ := w_values hWT sb_8
    refine s_getr hC hW gc_L iw_L 8 (by decide) uw_42 rfl sb_8 (v := some b17) eb17 dL_copy_17 ?_
    refine s_aload_n (x := some a) hx hb dL_copy_20 rfl (lv_at hl 1 rfl) ?_
    obtain ⟨b21, eb21, sb21⟩ := w_places hWT ha
    refine s_getr hC hW gc_L iw_L 6 (by decide) uw_38 rfl ha (v := some b21) eb21 dL_copy_21 ?_
    refine lv_iload_n hx hb dL_copy_24 rfl (lv_at hl 2 rfl) ?_
    refine k_iald hC hW sb21 rfl rfl (by decide) j rfl (by omega) rfl dL_copy_25 ?_
    obtain ⟨q, hq, eq⟩ := hWT.2.2.1 _ sb21 j hlt_j
    refine k_lald hC hW sb17 rfl rfl (by decide) q eq hq rfl dL_copy_26 ?_
    refine k_last hC hW sb12 rfl rfl (by decide) j rfl (by omega) dL_copy_27 (fun H locs hW => ?_)
    refine s_aload_n (x := some a) hx hb dL_copy_28 rfl (lv_at hl 1 rfl) ?_
    refine s_getr hC hW gc_L iw_L 5 (by decide) uw_36 rfl ha (v := some b1) eb1 dL_copy_29 ?_
    refine lv_iload_n hx hb dL_copy_32 rfl (lv_at hl 2 rfl) ?_
    refine s_aload_n (x := some a) hx hb dL_copy_33 rfl (lv_at hl 1 rfl) ?_
    refine k_aast (x := some a) hC hW gc_L sb1 rfl rfl (by decide) (fun _ q => by cases q; exact ha) j rfl (by omega) dL_copy_34 (fun H locs hW => ?_)
    refine s_aload_n (x := some a) hx hb dL_copy_35 rfl (lv_at hl 1 rfl) ?_
    refine s_getr hC hW gc_L iw_L 6 (by decide) uw_38 rfl ha (v := some b21) eb21 dL_copy_36 ?_
    refine lv_iload_n hx hb dL_copy_39 rfl (lv_at hl 2 rfl) ?_
    refine lv_iload_n hx hb dL_copy_40 rfl (lv_at hl 2 rfl) ?_
    refine k_iast hC hW sb21 rfl rfl (by decide) j rfl (by omega) dL_copy_41 (fun H locs hW => ?_)
    exact s_vret hC hr hlocks hW dL_copy_42 (by simp only [f_copy, v_a, eb1, er5, eb12, eb17, eb21, eq, nI_clamp (show q < 2 ^ 31 by omega), Option.getD_some])

/-! P.isOrLiesIn -/
def f_li (S : gs_S) : Nat → Option Nat → Option Nat → Int32
  | _, none, _ => 0
  | 0, some _, _ => 0
  | k + 1, some a, o => if some a = o then 1 else f_li S k (g_r S 1 0 a) o
theorem f_li_n (S : gs_S) (k : Nat) (o : Option Nat) : f_li S k none o = 0 := by cases k <;> rfl

theorem x_li {S : gs_S} {b k : Nat} {r : Option Nat} (hk61 : k + 1 ≤ 61) (hWT : w_t S) (hb : g_sh S b = some (.inl 1)) (er : g_r S 1 0 b = r) (hk : ∀ c : Nat, some b = some c → ∃ n : Nat, n < k + 1 ∧ g_i S 1 1 c = nI n) : ∀ c : Nat, r = some c → ∃ n : Nat, n < k ∧ g_i S 1 1 c = nI n := by
  intro c hc
  obtain ⟨n, h1, h2⟩ := hk b rfl
  obtain ⟨j, h3, h4, h5, h6⟩ := w_number hWT hb
  obtain ⟨i, h7, h8⟩ := h6 c (er.trans hc)
  have h9 : n = j := by
    have := h2.symm.trans h5
    by_cases hn : n < 2 ^ 31
    · exact (nI_eq hn (by omega)).mp this
    · omega
  exact ⟨i, by omega, h8⟩
set_option maxHeartbeats 4000000 in
set_option maxRecDepth 100000 in
theorem lp_li (l : Launch) (G : gs_G) (S : gs_S) (a : Nat) (o : Option Nat) (hWT : w_t S) (ha : g_sh S a = some (.inl 1)) {p : Program} {e : Env} {s : State} {m : MethodId} {below : List Frame} {meth : Method} {c : Code} (hC : CallFix p m c cP_isOrLiesIn 3 s #[va_rf (some a), va_rf o] gU yP_isOrLiesIn.cls) (hr : meth.sig.returnType = some .boolean) (hlocks : meth.locks = false) (hW : g_W G (g_A S s.heap.size) s S s.heap []) :
    ∀ (k : Nat) (r : Option Nat), t_o S 1 r → (∀ b : Nat, r = some b → ∃ n : Nat, n < k ∧ g_i S 1 1 b = nI n) → k ≤ 61 → f_li S 61 (some a) o = f_li S k r o → ∀ (ls : Array Slot), lv_has ls 3 [(2, va_rf r), (0, va_rf (some a)), (1, va_rf o)] → W p l e { frames := 0, cells := 0, slots := 0, locals := 0 } s m #[va_rf (some a), va_rf o] below meth c s.heap [] 0 0 (MQ below (g_Qi G S s.heap.size (fun r S' => S' = S ∧ r = f_li S 61 (some a) o)) #[va_rf (some a), va_rf o] s 0 0 (g_A S s.heap.size)) (F0 m 2 ls []) := by
  obtain ⟨hx, hb, hml, hown, hts⟩ := id hC
  intro k
  induction k with
  | zero =>
    intro r ht hk hk61 hf ls hl
    cases r with
    | some b =>
      obtain ⟨n, h, -⟩ := hk b rfl
      exact absurd h (by omega)
    | none =>
      refine s_aload_n (x := none) hx hb dP_isOrLiesIn_2 rfl (lv_at hl 0 rfl) ?_
      refine s_ifnull (x := none) (tgt := 21) hx hb dP_isOrLiesIn_3 (by decide) (fun _ => ?_) (fun b q => by cases q)
      refine lv_iconst (v := 0) hx hb dP_isOrLiesIn_21 (by decide) ?_
      exact s_iret hC hr hlocks rfl hW dP_isOrLiesIn_22 ⟨rfl, by rw [hf, f_li_n]⟩
  | succ k ih =>
    intro r ht hk hk61 hf ls hl
    refine s_aload_n (x := r) hx hb dP_isOrLiesIn_2 rfl (lv_at hl 0 rfl) ?_
    refine s_ifnull (x := r) (tgt := 21) hx hb dP_isOrLiesIn_3 (by decide) (fun c_3 => ?_) (fun b_3 c_3 => ?_)
    · skip
      subst c_3
      refine lv_iconst (v := 0) hx hb dP_isOrLiesIn_21 (by decide) ?_
      exact s_iret hC hr hlocks rfl hW dP_isOrLiesIn_22 ⟨rfl, by rw [hf, f_li_n]⟩
    · skip
      subst c_3
      have sb_3 := ht _ rfl
      refine s_aload_n (x := some b_3) hx hb dP_isOrLiesIn_6 rfl (lv_at hl 0 rfl) ?_
      refine s_aload_n (x := o) hx hb dP_isOrLiesIn_7 rfl (lv_at hl 2 rfl) ?_
      refine lv_acmp_ne (rx := some b_3) (ry := o) (tgt := 13) hx hb dP_isOrLiesIn_8 (by decide) (fun c_8 => ?_) (fun c_8 => ?_)
      · skip
        refine s_aload_n (x := some b_3) hx hb dP_isOrLiesIn_13 rfl (lv_at hl 0 rfl) ?_
        obtain ⟨r14, er14⟩ : ∃ r : Option Nat, g_r S 1 0 b_3 = r := ⟨_, rfl⟩
        refine s_getr hC hW gc_P iw_P 0 (by decide) uw_129 rfl sb_3 (v := r14) er14 dP_isOrLiesIn_14 ?_
        refine s_astore_n (x := r14) (lv' := [(2, va_rf r14), (0, va_rf (some a)), (1, va_rf o)]) hx hb dP_isOrLiesIn_17 rfl hl (by decide) (by simp [s_cat, s_catI, s_catL] <;> decide) (fun ls hl => ?_)
        refine lv_goto (tgt := 2) hx hb dP_isOrLiesIn_18 (by decide) ?_
        exact ih r14 (fun b q => w_outer hWT sb_3 b (er14.trans q)) (x_li hk61 hWT sb_3 er14 hk) (by omega) (by rw [hf, ← er14, f_li, if_neg c_8]) ls hl
      · skip
        refine lv_iconst (v := 1) hx hb dP_isOrLiesIn_11 (by decide) ?_
        exact s_iret hC hr hlocks rfl hW dP_isOrLiesIn_12 ⟨rfl, by rw [hf, f_li, if_pos c_8]⟩

theorem x_li0 {S : gs_S} {a : Nat} (hWT : w_t S) (ha : g_sh S a = some (.inl 1)) : ∀ b : Nat, some a = some b → ∃ n : Nat, n < 61 ∧ g_i S 1 1 b = nI n := by
  intro b hb
  cases hb
  obtain ⟨j, h3, h4, h5, h6⟩ := w_number hWT ha
  exact ⟨j, by omega, h5⟩

set_option maxHeartbeats 4000000 in
set_option maxRecDepth 100000 in
theorem c_P_isOrLiesIn (l : Launch) (G : gs_G) (S : gs_S) (sz : Nat) (a : Nat) (o : Option Nat) (hWT : w_t S) (ha : g_sh S a = some (.inl 1)) : Met l yP_isOrLiesIn (kP_isOrLiesIn :: gU) { frames := 0, cells := 0, slots := 0, locals := 0 } (g_Pc G S sz [va_rf (some a), va_rf o]) (g_Qi G S sz (fun r S' => S' = S ∧ r = f_li S 61 (some a) o)) 0 0 (g_A S sz) := by
  refine s_head (by decide) (by simp [lg_sl, s_cat, s_catI, s_catL]) ?_
  intro p e s m below meth c ls hsz hC hr hlocks hnm hl hW
  subst hsz
  obtain ⟨hx, hb, hml, hown, hts⟩ := id hC
  have hl : lv_has ls 3 [(0, va_rf (some a)), (1, va_rf o)] := by simpa [lv_args, s_cat, s_catI, s_catL] using hl
  refine s_aload_n (x := some a) hx hb dP_isOrLiesIn_0 rfl (lv_at hl 0 rfl) ?_
  refine s_astore_n (x := some a) (lv' := [(2, va_rf (some a)), (0, va_rf (some a)), (1, va_rf o)]) hx hb dP_isOrLiesIn_1 rfl hl (by decide) (by simp [s_cat, s_catI, s_catL] <;> decide) (fun ls hl => ?_)
  exact lp_li l G S a o hWT ha hC hr hlocks hW 61 (some a) (fun b q => by cases q; exact ha) (x_li0 hWT ha) (Nat.le_refl _) rfl ls hl
