/-! R.seesCellsOf -/
def f_sees (S : gs_S) (a o : Nat) : Int32 := if some a = some o then 1 else if f_has S o 8 = 0 then 0 else if f_li S 61 (some a) (some o) = 0 then 0 else 1

set_option maxHeartbeats 4000000 in
set_option maxRecDepth 100000 in
theorem c_R_seesCellsOf (l : Launch) (G : gs_G) (S : gs_S) (sz : Nat) (a o : Nat) (hWT : w_t S) (ha : g_sh S a = some (.inl 1)) (ho : g_sh S o = some (.inl 1)) : Met l yR_seesCellsOf (kR_seesCellsOf :: gU) { frames := 1, cells := 0, slots := 0, locals := 22 } (g_Pc G S sz [va_rf (some a), va_rf (some o)]) (g_Qi G S sz (fun r S' => S' = S ∧ r = f_sees S a o)) 0 0 (g_A S sz) := by
  refine s_head (by decide) (Nat.le_of_ble_eq_true rfl) ?_
  intro p e s m below meth c ls hsz hC hr hlocks hnm hl hW
  subst hsz
  obtain ⟨hx, hb, hml, hown, hts⟩ := id hC
  have hl : lv_has ls 2 [(0, va_rf (some a)), (1, va_rf (some o))] := hl
  refine s_aload_n (x := some a) hx hb dR_seesCellsOf_0 rfl (lv_at hl 0 rfl) ?_
  refine s_aload_n (x := some o) hx hb dR_seesCellsOf_1 rfl (lv_at hl 1 rfl) ?_
  refine lv_acmp_eq (rx := some a) (ry := some o) (tgt := 22) hx hb dR_seesCellsOf_2 (by decide) (fun c_2 => ?_) (fun c_2 => ?_)
  · skip
    refine lv_iconst (v := 1) hx hb dR_seesCellsOf_22 (by decide) ?_
    refine lv_goto (tgt := 27) hx hb dR_seesCellsOf_23 (by decide) ?_
    exact s_iret hC hr hlocks rfl hW dR_seesCellsOf_27 ⟨rfl, by simp only [f_sees, if_pos c_2, if_true, if_false]⟩
  · skip
    refine s_aload_n (x := some o) hx hb dR_seesCellsOf_5 rfl (lv_at hl 1 rfl) ?_
    refine lv_bipush (v := 8) hx hb dR_seesCellsOf_6 (by decide) ?_
    refine s_calli hW (s_runV (n := 1) (As := [.int 8]) (rest := []) hC (c_P_has l G S s.heap.size o 8 ho) uc_P_has uw_192 uw_193 uw_194 uw_5 rfl rfl (by decide +kernel) ⟨by decide, by decide⟩ (g_preV hW gc_P ho [.int 8]) rfl hl.1 rfl (Nat.le_of_ble_eq_true rfl) dR_seesCellsOf_8 ⟨Nat.le_of_ble_eq_true rfl, Nat.le_of_ble_eq_true rfl⟩) (fun q8 S8 H locs hp8 hW => ?_)
    obtain ⟨hs8, rfl⟩ := hp8
    replace hs8 := hs8.symm
    subst hs8
    refine lv_if_eq (tgt := 26) hx hb dR_seesCellsOf_11 (by decide) (fun c_11 => ?_) (fun c_11 => ?_)
    · skip
      refine lv_iconst (v := 0) hx hb dR_seesCellsOf_26 (by decide) ?_
      exact s_iret hC hr hlocks rfl hW dR_seesCellsOf_27 ⟨rfl, by simp only [f_sees, if_neg c_2, if_pos c_11, if_true, if_false]⟩
    · skip
      refine s_aload_n (x := some a) hx hb dR_seesCellsOf_14 rfl (lv_at hl 0 rfl) ?_
      refine s_aload_n (x := some o) hx hb dR_seesCellsOf_15 rfl (lv_at hl 1 rfl) ?_
      refine s_calli hW (s_runV (n := 1) (As := [va_rf (some o)]) (rest := []) hC (c_P_isOrLiesIn l G S H.size a (some o) hWT ha) uc_P_isOrLiesIn uw_200 uw_201 uw_202 uw_5 rfl rfl (by decide +kernel) ⟨by decide, by decide⟩ (g_preV hW gc_P ha [va_rf (some o)]) rfl hl.1 rfl (Nat.le_of_ble_eq_true rfl) dR_seesCellsOf_16 ⟨Nat.le_of_ble_eq_true rfl, Nat.le_of_ble_eq_true rfl⟩) (fun q16 S16 H locs hp16 hW => ?_)
      obtain ⟨hs16, rfl⟩ := hp16
      replace hs16 := hs16.symm
      subst hs16
      refine lv_if_eq (tgt := 26) hx hb dR_seesCellsOf_19 (by decide) (fun c_19 => ?_) (fun c_19 => ?_)
      · skip
        refine lv_iconst (v := 0) hx hb dR_seesCellsOf_26 (by decide) ?_
        exact s_iret hC hr hlocks rfl hW dR_seesCellsOf_27 ⟨rfl, by simp only [f_sees, if_neg c_2, if_neg c_11, if_pos c_19, if_true, if_false]⟩
      · skip
        refine lv_iconst (v := 1) hx hb dR_seesCellsOf_22 (by decide) ?_
        refine lv_goto (tgt := 27) hx hb dR_seesCellsOf_23 (by decide) ?_
        exact s_iret hC hr hlocks rfl hW dR_seesCellsOf_27 ⟨rfl, by simp only [f_sees, if_neg c_2, if_neg c_11, if_neg c_19, if_true, if_false]⟩

/-! R.placeOf -/
def f_top (S : gs_S) (x : Nat) : Nat := v_a (g_r S 2 8 x)
def f_place (S : gs_S) (x : Nat) (n : Int32) : Int32 := if 0 ≤ n then 16 + n else g_ai S 7 (v_a (g_r S 0 6 (f_top S x))) (-1 - n).toNatClampNeg

set_option maxHeartbeats 4000000 in
set_option maxRecDepth 100000 in
theorem c_R_placeOf (l : Launch) (G : gs_G) (S : gs_S) (sz : Nat) (x : Nat) (n : Int32) (hWT : w_t S) (hX : g_sh S x = some (.inl 2)) (hc : ¬ 0 ≤ n → ∃ j : Nat, j < 16 ∧ -1 - n = nI j) : Met l yR_placeOf (kR_placeOf :: gU) { frames := 0, cells := 0, slots := 0, locals := 0 } (g_Pc G S sz [va_rf (some x), .int n]) (g_Qi G S sz (fun r S' => S' = S ∧ r = f_place S x n)) 0 0 (g_A S sz) := by
  refine s_head (by decide) (Nat.le_of_ble_eq_true rfl) ?_
  intro p e s m below meth c ls hsz hC hr hlocks hnm hl hW
  subst hsz
  obtain ⟨hx, hb, hml, hown, hts⟩ := id hC
  have hl : lv_has ls 2 [(0, va_rf (some x)), (1, .int n)] := hl
  refine lv_iload_n hx hb dR_placeOf_0 rfl (lv_at hl 1 rfl) ?_
  refine lv_if_ge (tgt := 18) hx hb dR_placeOf_1 (by decide) (fun c_1 => ?_) (fun c_1 => ?_)
  · skip
    refine lv_bipush (v := 16) hx hb dR_placeOf_18 (by decide) ?_
    refine lv_iload_n hx hb dR_placeOf_20 rfl (lv_at hl 1 rfl) ?_
    refine lv_iadd hx hb dR_placeOf_21 ?_
    exact s_iret hC hr hlocks rfl hW dR_placeOf_22 ⟨rfl, by rw [f_place, if_pos c_1]⟩
  · skip
    refine s_aload_n (x := some x) hx hb dR_placeOf_4 rfl (lv_at hl 0 rfl) ?_
    obtain ⟨b5, eb5, sb5⟩ := w_top hWT hX
    refine s_getr hC hW gc_R iw_R 8 (by decide) uw_80 rfl hX (v := some b5) eb5 dR_placeOf_5 ?_
    obtain ⟨b8, eb8, sb8⟩ := w_places hWT sb5
    refine s_getr hC hW gc_L iw_L 6 (by decide) uw_39 rfl sb5 (v := some b8) eb8 dR_placeOf_8 ?_
    refine lv_iconst (v := (-1)) hx hb dR_placeOf_11 (by decide) ?_
    refine lv_iload_n hx hb dR_placeOf_12 rfl (lv_at hl 1 rfl) ?_
    refine lv_isub hx hb dR_placeOf_13 ?_
    obtain ⟨j, hj, ej⟩ := hc c_1
    refine k_iald hC hW sb8 rfl rfl (by decide) j ej hj rfl dR_placeOf_14 ?_
    refine lv_goto (tgt := 22) hx hb dR_placeOf_15 (by decide) ?_
    exact s_iret hC hr hlocks rfl hW dR_placeOf_22 ⟨rfl, by rw [f_place, if_neg c_1, f_top, eb5, ej, nI_clamp (show j < 2 ^ 31 by omega)]; simp only [v_a, Option.getD_some, eb8]⟩

/-! R.bytesOf -/
def f_run (S : gs_S) (x : Nat) : Option Nat := g_r S 0 2 (f_top S x)
def f_bytes (S : gs_S) (x : Nat) (n : Int32) : Int32 := if 0 ≤ n then 8 else match f_run S x with
  | none => 8
  | some p => g_ai S 5 (v_a (g_r S 1 5 p)) (-1 - n).toNatClampNeg

set_option maxHeartbeats 4000000 in
set_option maxRecDepth 100000 in
theorem c_R_bytesOf (l : Launch) (G : gs_G) (S : gs_S) (sz : Nat) (x : Nat) (n : Int32) (hWT : w_t S) (hX : g_sh S x = some (.inl 2)) (hc : ¬ 0 ≤ n → ∃ j : Nat, j < 16 ∧ -1 - n = nI j) : Met l yR_bytesOf (kR_bytesOf :: gU) { frames := 0, cells := 0, slots := 0, locals := 0 } (g_Pc G S sz [va_rf (some x), .int n]) (g_Qi G S sz (fun r S' => S' = S ∧ r = f_bytes S x n)) 0 0 (g_A S sz) := by
  refine s_head (by decide) (Nat.le_of_ble_eq_true rfl) ?_
  intro p e s m below meth c ls hsz hC hr hlocks hnm hl hW
  subst hsz
  obtain ⟨hx, hb, hml, hown, hts⟩ := id hC
  have hl : lv_has ls 3 [(0, va_rf (some x)), (1, .int n)] := hl
  refine s_aload_n (x := some x) hx hb dR_bytesOf_0 rfl (lv_at hl 0 rfl) ?_
  obtain ⟨b1, eb1, sb1⟩ := w_top hWT hX
  refine s_getr hC hW gc_R iw_R 8 (by decide) uw_80 rfl hX (v := some b1) eb1 dR_bytesOf_1 ?_
  obtain ⟨r4, er4⟩ : ∃ r : Option Nat, g_r S 0 2 b1 = r := ⟨_, rfl⟩
  refine s_getr hC hW gc_L iw_L 2 (by decide) uw_32 rfl sb1 (v := r4) er4 dR_bytesOf_4 ?_
  refine s_astore_n (x := r4) (lv' := [(2, va_rf r4), (0, va_rf (some x)), (1, .int n)]) hx hb dR_bytesOf_7 rfl hl (by decide) rfl (fun ls hl => ?_)
  refine lv_iload_n hx hb dR_bytesOf_8 rfl (lv_at hl 2 rfl) ?_
  refine lv_if_ge (tgt := 27) hx hb dR_bytesOf_9 (by decide) (fun c_9 => ?_) (fun c_9 => ?_)
  · skip
    refine lv_bipush (v := 8) hx hb dR_bytesOf_27 (by decide) ?_
    exact s_iret hC hr hlocks rfl hW dR_bytesOf_29 ⟨rfl, by rw [f_bytes, if_pos c_9]⟩
  · skip
    refine s_aload_n (x := r4) hx hb dR_bytesOf_12 rfl (lv_at hl 0 rfl) ?_
    refine s_ifnull (x := r4) (tgt := 27) hx hb dR_bytesOf_13 (by decide) (fun c_13 => ?_) (fun b_13 c_13 => ?_)
    · skip
      subst c_13
      refine lv_bipush (v := 8) hx hb dR_bytesOf_27 (by decide) ?_
      exact s_iret hC hr hlocks rfl hW dR_bytesOf_29 ⟨rfl, by rw [f_bytes, if_neg c_9, f_run, f_top, eb1]; simp only [v_a, Option.getD_some, er4]⟩
    · skip
      subst c_13
      have sb_13 := w_program hWT sb1 _ er4
      refine s_aload_n (x := some b_13) hx hb dR_bytesOf_16 rfl (lv_at hl 0 rfl) ?_
      obtain ⟨b17, eb17, sb17⟩ := w_formalBytes hWT sb_13
      refine s_getr hC hW gc_P iw_P 5 (by decide) uw_139 rfl sb_13 (v := some b17) eb17 dR_bytesOf_17 ?_
      refine lv_iconst (v := (-1)) hx hb dR_bytesOf_20 (by decide) ?_
      refine lv_iload_n hx hb dR_bytesOf_21 rfl (lv_at hl 2 rfl) ?_
      refine lv_isub hx hb dR_bytesOf_22 ?_
      obtain ⟨j, hj, ej⟩ := hc c_9
      refine k_iald hC hW sb17 rfl rfl (by decide) j ej hj rfl dR_bytesOf_23 ?_
      refine lv_goto (tgt := 29) hx hb dR_bytesOf_24 (by decide) ?_
      exact s_iret hC hr hlocks rfl hW dR_bytesOf_29 ⟨rfl, by rw [f_bytes, if_neg c_9, f_run, f_top, eb1]; simp only [v_a, Option.getD_some, er4, eb17, ej, nI_clamp (show j < 2 ^ 31 by omega)]⟩

/-! R.unusedBits -/
def f_unused (S : gs_S) (x : Nat) (n : Int32) : Int32 := 8 * (8 - f_bytes S x n)

set_option maxHeartbeats 4000000 in
set_option maxRecDepth 100000 in
theorem c_R_unusedBits (l : Launch) (G : gs_G) (S : gs_S) (sz : Nat) (x : Nat) (n : Int32) (hWT : w_t S) (hX : g_sh S x = some (.inl 2)) (hc : ¬ 0 ≤ n → ∃ j : Nat, j < 16 ∧ -1 - n = nI j) : Met l yR_unusedBits (kR_unusedBits :: gU) { frames := 1, cells := 0, slots := 0, locals := 22 } (g_Pc G S sz [va_rf (some x), .int n]) (g_Qi G S sz (fun r S' => S' = S ∧ r = f_unused S x n)) 0 0 (g_A S sz) := by
  refine s_head (by decide) (Nat.le_of_ble_eq_true rfl) ?_
  intro p e s m below meth c ls hsz hC hr hlocks hnm hl hW
  subst hsz
  obtain ⟨hx, hb, hml, hown, hts⟩ := id hC
  have hl : lv_has ls 2 [(0, va_rf (some x)), (1, .int n)] := hl
  refine lv_bipush (v := 8) hx hb dR_unusedBits_0 (by decide) ?_
  refine lv_bipush (v := 8) hx hb dR_unusedBits_2 (by decide) ?_
  refine s_aload_n (x := some x) hx hb dR_unusedBits_4 rfl (lv_at hl 0 rfl) ?_
  refine lv_iload_n hx hb dR_unusedBits_5 rfl (lv_at hl 1 rfl) ?_
  refine s_calli hW (s_runV (n := 1) (As := [.int n]) (rest := [.int 8, .int 8]) hC (c_R_bytesOf l G S s.heap.size x n hWT hX hc) uc_R_bytesOf uw_226 uw_228 us_R_bytesOf uw_1 rfl rfl (by decide +kernel) ⟨by decide, by decide⟩ (g_preV hW gc_R hX [.int n]) rfl hl.1 rfl (Nat.le_of_ble_eq_true rfl) dR_unusedBits_6 ⟨Nat.le_of_ble_eq_true rfl, Nat.le_of_ble_eq_true rfl⟩) (fun q6 S6 H locs hp6 hW => ?_)
  obtain ⟨hs6, rfl⟩ := hp6
  replace hs6 := hs6.symm
  subst hs6
  refine lv_isub hx hb dR_unusedBits_9 ?_
  refine lv_imul hx hb dR_unusedBits_10 ?_
  exact s_iret hC hr hlocks rfl hW dR_unusedBits_11 ⟨rfl, rfl⟩

/-! R.dataOf -/
def f_data (S : gs_S) (x p : Nat) : Option Nat := if f_has S p 4 = 0 then g_r S 2 7 x else match g_r S 1 8 p with
  | none => g_r S 2 7 x
  | some l => some l
theorem t_data {S : gs_S} {x p : Nat} (hWT : w_t S) (hX : g_sh S x = some (.inl 2)) (hp : g_sh S p = some (.inl 1)) : t_n S 0 (f_data S x p) := by
  unfold f_data
  split
  · exact w_bottom hWT hX
  · split
    · exact w_bottom hWT hX
    · rename_i l hl
      exact ⟨l, rfl, w_latest hWT hp l hl⟩

set_option maxHeartbeats 4000000 in
set_option maxRecDepth 100000 in
theorem c_R_dataOf (l : Launch) (G : gs_G) (S : gs_S) (sz : Nat) (x a : Nat) (hWT : w_t S) (hX : g_sh S x = some (.inl 2)) (ha : g_sh S a = some (.inl 1)) : Met l yR_dataOf (kR_dataOf :: gU) { frames := 1, cells := 0, slots := 0, locals := 21 } (g_Pc G S sz [va_rf (some x), va_rf (some a)]) (g_Qq G S sz (fun r S' => S' = S ∧ r = f_data S x a)) 0 0 (g_A S sz) := by
  refine s_head (by decide) (Nat.le_of_ble_eq_true rfl) ?_
  intro p e s m below meth c ls hsz hC hr hlocks hnm hl hW
  subst hsz
  obtain ⟨hx, hb, hml, hown, hts⟩ := id hC
  have hl : lv_has ls 2 [(0, va_rf (some x)), (1, va_rf (some a))] := hl
  refine s_aload_n (x := some a) hx hb dR_dataOf_0 rfl (lv_at hl 1 rfl) ?_
  refine lv_iconst (v := 4) hx hb dR_dataOf_1 (by decide) ?_
  refine s_calli hW (s_runV (n := 1) (As := [.int 4]) (rest := []) hC (c_P_has l G S s.heap.size a 4 ha) uc_P_has uw_192 uw_193 uw_194 uw_5 rfl rfl (by decide +kernel) ⟨by decide, by decide⟩ (g_preV hW gc_P ha [.int 4]) rfl hl.1 rfl (Nat.le_of_ble_eq_true rfl) dR_dataOf_2 ⟨Nat.le_of_ble_eq_true rfl, Nat.le_of_ble_eq_true rfl⟩) (fun q2 S2 H locs hp2 hW => ?_)
  obtain ⟨hs2, rfl⟩ := hp2
  replace hs2 := hs2.symm
  subst hs2
  refine lv_if_eq (tgt := 22) hx hb dR_dataOf_5 (by decide) (fun c_5 => ?_) (fun c_5 => ?_)
  · skip
    refine s_aload_n (x := some x) hx hb dR_dataOf_22 rfl (lv_at hl 0 rfl) ?_
    obtain ⟨b23, eb23, sb23⟩ := w_bottom hWT hX
    refine s_getr hC hW gc_R iw_R 7 (by decide) uw_79 rfl hX (v := some b23) eb23 dR_dataOf_23 ?_
    exact s_aret (v := some b23) hC hr hlocks hW dR_dataOf_26 ⟨rfl, by rw [f_data, if_pos c_5, eb23]⟩
  · skip
    refine s_aload_n (x := some a) hx hb dR_dataOf_8 rfl (lv_at hl 1 rfl) ?_
    obtain ⟨r9, er9⟩ : ∃ r : Option Nat, g_r S 1 8 a = r := ⟨_, rfl⟩
    refine s_getr hC hW gc_P iw_P 8 (by decide) uw_142 rfl ha (v := r9) er9 dR_dataOf_9 ?_
    refine s_ifnull (x := r9) (tgt := 22) hx hb dR_dataOf_12 (by decide) (fun c_12 => ?_) (fun b_12 c_12 => ?_)
    · skip
      subst c_12
      refine s_aload_n (x := some x) hx hb dR_dataOf_22 rfl (lv_at hl 0 rfl) ?_
      obtain ⟨b23, eb23, sb23⟩ := w_bottom hWT hX
      refine s_getr hC hW gc_R iw_R 7 (by decide) uw_79 rfl hX (v := some b23) eb23 dR_dataOf_23 ?_
      exact s_aret (v := some b23) hC hr hlocks hW dR_dataOf_26 ⟨rfl, by rw [f_data, if_neg c_5, er9]; simp only [eb23]⟩
    · skip
      subst c_12
      have sb_12 := w_latest hWT ha _ er9
      refine s_aload_n (x := some a) hx hb dR_dataOf_15 rfl (lv_at hl 1 rfl) ?_
      refine s_getr hC hW gc_P iw_P 8 (by decide) uw_142 rfl ha (v := some b_12) er9 dR_dataOf_16 ?_
      refine lv_goto (tgt := 26) hx hb dR_dataOf_19 (by decide) ?_
      exact s_aret (v := some b_12) hC hr hlocks hW dR_dataOf_26 ⟨rfl, by rw [f_data, if_neg c_5, er9]⟩

theorem t_no {S : gs_S} {ci : Nat} {r : Option Nat} (h : t_n S ci r) : t_o S ci r := by
  obtain ⟨b, rfl, h⟩ := h
  intro c hc
  cases hc
  exact h

/-! R.holderOf -/
def f_holder (S : gs_S) (x : Nat) (n : Int32) : Option Nat := if 0 ≤ n then
    (if n < g_i S 2 5 x then (match g_ar S 1 (v_a (g_r S 2 3 x)) n.toNatClampNeg with
      | none => g_r S 2 7 x
      | some o => match f_run S x with
        | none => none
        | some p => if f_sees S p o = 0 then none else f_data S x o) else none)
  else match f_run S x with
    | none => none
    | some p => if g_i S 1 6 p ≤ -1 - n then none else g_ar S 6 (v_a (g_r S 0 5 (f_top S x))) (-1 - n).toNatClampNeg
theorem x_neg {n : Int32} (h : ¬ 0 ≤ n) : ∃ j : Nat, j < 2 ^ 31 ∧ -1 - n = nI j := by
  refine nI_of ?_
  rw [Int32.le_iff_toInt_le] at h
  rw [Int32.lt_iff_toInt_lt]
  have h1 := n.toInt_lt
  have h2 := n.le_toInt
  have h3 : (-1 - n).toInt = -1 - n.toInt := by
    rw [Int32.toInt_sub]
    have : (-1 : Int32).toInt = -1 := by decide
    rw [this]
    simp at h
    simp only [Int.bmod]
    omega
  rw [h3]
  simp at h ⊢
  omega
theorem x_ngt {n : Int32} {f m : Int32} {k : Nat} (hk : k ≤ 16) (ef : f = nI k) (h : ¬ 0 ≤ n) (em : m = -1 - n) (c : ¬ f ≤ m) : ∃ j : Nat, j < k ∧ m = nI j := by
  obtain ⟨j, hj, ej⟩ := x_neg h
  subst ef em
  rw [ej, nI_leI (by omega) hj] at c
  exact ⟨j, by omega, ej⟩
theorem x_cell {n m : Int32} {k : Nat} (hk : k ≤ 200) (em : m = nI k) (h : 0 ≤ n) (c : n < m) : ∃ j : Nat, j < k ∧ n = nI j := by
  subst em
  have h0 : ¬ n < 0 := fun q => by rw [Int32.lt_iff_toInt_lt] at q; rw [Int32.le_iff_toInt_le] at h; omega
  obtain ⟨j, hj, rfl⟩ := nI_of h0
  rw [nI_ltI hj (by omega)] at c
  exact ⟨j, c, rfl⟩

set_option maxHeartbeats 4000000 in
set_option maxRecDepth 100000 in
theorem c_R_holderOf (l : Launch) (G : gs_G) (S : gs_S) (sz : Nat) (x : Nat) (n : Int32) (hWT : w_t S) (hX : g_sh S x = some (.inl 2)) : Met l yR_holderOf (kR_holderOf :: gU) { frames := 2, cells := 0, slots := 0, locals := 43 } (g_Pc G S sz [va_rf (some x), .int n]) (g_Qq G S sz (fun r S' => S' = S ∧ r = f_holder S x n)) 0 0 (g_A S sz) := by
  refine s_head (by decide) (Nat.le_of_ble_eq_true rfl) ?_
  intro p e s m below meth c ls hsz hC hr hlocks hnm hl hW
  subst hsz
  obtain ⟨hx, hb, hml, hown, hts⟩ := id hC
  have hl : lv_has ls 4 [(0, va_rf (some x)), (1, .int n)] := hl
  refine s_aload_n (x := some x) hx hb dR_holderOf_0 rfl (lv_at hl 0 rfl) ?_
  obtain ⟨b1, eb1, sb1⟩ := w_top hWT hX
  refine s_getr hC hW gc_R iw_R 8 (by decide) uw_80 rfl hX (v := some b1) eb1 dR_holderOf_1 ?_
  obtain ⟨r4, er4⟩ : ∃ r : Option Nat, g_r S 0 2 b1 = r := ⟨_, rfl⟩
  refine s_getr hC hW gc_L iw_L 2 (by decide) uw_32 rfl sb1 (v := r4) er4 dR_holderOf_4 ?_
  refine s_astore_n (x := r4) (lv' := [(2, va_rf r4), (0, va_rf (some x)), (1, .int n)]) hx hb dR_holderOf_7 rfl hl (by decide) rfl (fun ls hl => ?_)
  refine lv_iload_n hx hb dR_holderOf_8 rfl (lv_at hl 2 rfl) ?_
  refine lv_if_ge (tgt := 42) hx hb dR_holderOf_9 (by decide) (fun c_9 => ?_) (fun c_9 => ?_)
  · skip
    refine lv_iload_n hx hb dR_holderOf_42 rfl (lv_at hl 2 rfl) ?_
    refine s_aload_n (x := some x) hx hb dR_holderOf_43 rfl (lv_at hl 1 rfl) ?_
    refine s_geti hC hW gc_R iw_R 5 (by decide) uw_77 rfl hX rfl dR_holderOf_44 ?_
    refine lv_icmp_lt (tgt := 52) hx hb dR_holderOf_47 (by decide) (fun c_47 => ?_) (fun c_47 => ?_)
    · skip
      refine s_aload_n (x := some x) hx hb dR_holderOf_52 rfl (lv_at hl 1 rfl) ?_
      obtain ⟨b53, eb53, sb53⟩ := w_owners hWT hX
      refine s_getr hC hW gc_R iw_R 3 (by decide) uw_75 rfl hX (v := some b53) eb53 dR_holderOf_53 ?_
      refine lv_iload_n hx hb dR_holderOf_56 rfl (lv_at hl 2 rfl) ?_
      obtain ⟨ck, hck, eck⟩ := w_cellCount hWT hX
      obtain ⟨j, hj, ej⟩ := x_cell hck eck c_9 c_47
      obtain ⟨r57, er57⟩ : ∃ r : Option Nat, g_ar S 1 b53 j = r := ⟨_, rfl⟩
      refine k_aald hC hW sb53 rfl rfl (by decide) j ej (by omega) (v := r57) er57 dR_holderOf_57 ?_
      refine s_astore_n (x := r57) (lv' := [(3, va_rf r57), (2, va_rf r4), (0, va_rf (some x)), (1, .int n)]) hx hb dR_holderOf_58 rfl hl (by decide) (by simp [s_cat, s_catI, s_catL] <;> decide) (fun ls hl => ?_)
      refine s_aload_n (x := r57) hx hb dR_holderOf_59 rfl (lv_at hl 0 rfl) ?_
      refine s_ifnonnull (x := r57) (tgt := 68) hx hb dR_holderOf_60 (by decide) (fun b_60 c_60 => ?_) (fun c_60 => ?_)
      · skip
        subst c_60
        have sb_60 := hWT.2.2.2.2.1.2 _ sb53 _ (by omega) _ er57
        refine s_aload_n (x := r4) hx hb dR_holderOf_68 rfl (lv_at hl 1 rfl) ?_
        refine s_ifnull (x := r4) (tgt := 88) hx hb dR_holderOf_69 (by decide) (fun c_69 => ?_) (fun b_69 c_69 => ?_)
        · skip
          subst c_69
          refine s_null hx hb dR_holderOf_88 ?_
          exact s_aret (v := none) hC hr hlocks hW dR_holderOf_89 ⟨rfl, by rw [f_holder, if_pos c_9, if_pos c_47, eb53, ej, nI_clamp (show j < 2 ^ 31 by omega), f_run, f_top, eb1]; simp only [v_a, Option.getD_some, er57, er4]⟩
        · skip
          subst c_69
          have sb_69 := w_program hWT sb1 _ er4
          refine s_aload_n (x := some b_69) hx hb dR_holderOf_72 rfl (lv_at hl 1 rfl) ?_
          refine s_aload_n (x := some b_60) hx hb dR_holderOf_73 rfl (lv_at hl 0 rfl) ?_
          refine s_calli hW (s_runS (n := 2) (As := [va_rf (some b_69), va_rf (some b_60)]) (rest := []) hC (c_R_seesCellsOf l G S s.heap.size b_69 b_60 hWT sb_69 sb_60) uc_R_seesCellsOf uw_219 uw_220 uw_1 rfl rfl (by decide +kernel) ⟨by decide, by decide⟩ (g_preS hW [va_rf (some b_69), va_rf (some b_60)]) rfl hl.1 rfl (Nat.le_of_ble_eq_true rfl) dR_holderOf_74 ⟨Nat.le_of_ble_eq_true rfl, Nat.le_of_ble_eq_true rfl⟩) (fun q74 S74 H locs hp74 hW => ?_)
          obtain ⟨hs74, rfl⟩ := hp74
          replace hs74 := hs74.symm
          subst hs74
          refine lv_if_eq (tgt := 88) hx hb dR_holderOf_77 (by decide) (fun c_77 => ?_) (fun c_77 => ?_)
          · skip
            refine s_null hx hb dR_holderOf_88 ?_
            exact s_aret (v := none) hC hr hlocks hW dR_holderOf_89 ⟨rfl, by rw [f_holder, if_pos c_9, if_pos c_47, eb53, ej, nI_clamp (show j < 2 ^ 31 by omega), f_run, f_top, eb1]; simp only [v_a, Option.getD_some, er57, er4]; rw [if_pos c_77]⟩
          · skip
            refine s_aload_n (x := some x) hx hb dR_holderOf_80 rfl (lv_at hl 2 rfl) ?_
            refine s_aload_n (x := some b_60) hx hb dR_holderOf_81 rfl (lv_at hl 0 rfl) ?_
            refine s_callq hW (s_runV (n := 1) (As := [va_rf (some b_60)]) (rest := []) hC (c_R_dataOf l G S H.size x b_60 hWT hX sb_60) uc_R_dataOf uw_222 uw_224 us_R_dataOf uw_1 rfl rfl (by decide +kernel) ⟨by decide, by decide⟩ (g_preV hW gc_R hX [va_rf (some b_60)]) rfl hl.1 rfl (Nat.le_of_ble_eq_true rfl) dR_holderOf_82 ⟨Nat.le_of_ble_eq_true rfl, Nat.le_of_ble_eq_true rfl⟩) (fun rq82 S82 H locs hp82 hW => ?_)
            obtain ⟨hs82, erq82⟩ := hp82
            replace hs82 := hs82.symm
            subst hs82
            refine lv_goto (tgt := 89) hx hb dR_holderOf_85 (by decide) ?_
            exact s_aret (v := rq82) hC hr hlocks hW dR_holderOf_89 ⟨rfl, by rw [f_holder, if_pos c_9, if_pos c_47, eb53, ej, nI_clamp (show j < 2 ^ 31 by omega), f_run, f_top, eb1]; simp only [v_a, Option.getD_some, er57, er4]; rw [if_neg c_77]; exact erq82⟩
      · skip
        subst c_60
        refine s_aload_n (x := some x) hx hb dR_holderOf_63 rfl (lv_at hl 2 rfl) ?_
        obtain ⟨b64, eb64, sb64⟩ := w_bottom hWT hX
        refine s_getr hC hW gc_R iw_R 7 (by decide) uw_79 rfl hX (v := some b64) eb64 dR_holderOf_64 ?_
        exact s_aret (v := some b64) hC hr hlocks hW dR_holderOf_67 ⟨rfl, by rw [f_holder, if_pos c_9, if_pos c_47, eb53, ej, nI_clamp (show j < 2 ^ 31 by omega)]; simp only [v_a, Option.getD_some, er57]; rw [eb64]⟩
    · skip
      refine s_null hx hb dR_holderOf_50 ?_
      exact s_aret (v := none) hC hr hlocks hW dR_holderOf_51 ⟨rfl, by rw [f_holder, if_pos c_9, if_neg c_47]⟩
  · skip
    refine lv_iconst (v := (-1)) hx hb dR_holderOf_12 (by decide) ?_
    refine lv_iload_n hx hb dR_holderOf_13 rfl (lv_at hl 2 rfl) ?_
    refine lv_isub hx hb dR_holderOf_14 ?_
    refine lv_topi (fun v_15 ev_15 => ?_)
    refine lv_istore_n (lv' := [(3, .int v_15), (2, va_rf r4), (0, va_rf (some x)), (1, .int n)]) hx hb dR_holderOf_15 rfl hl (by decide) (by simp [s_cat, s_catI, s_catL] <;> decide) (fun ls hl => ?_)
    refine s_aload_n (x := r4) hx hb dR_holderOf_16 rfl (lv_at hl 1 rfl) ?_
    refine s_ifnull (x := r4) (tgt := 40) hx hb dR_holderOf_17 (by decide) (fun c_17 => ?_) (fun b_17 c_17 => ?_)
    · skip
      subst c_17
      refine s_null hx hb dR_holderOf_40 ?_
      exact s_aret (v := none) hC hr hlocks hW dR_holderOf_41 ⟨rfl, by rw [f_holder, if_neg c_9, f_run, f_top, eb1]; simp only [v_a, Option.getD_some, er4]⟩
    · skip
      subst c_17
      have sb_17 := w_program hWT sb1 _ er4
      refine lv_iload_n hx hb dR_holderOf_20 rfl (lv_at hl 0 rfl) ?_
      refine s_aload_n (x := some b_17) hx hb dR_holderOf_21 rfl (lv_at hl 1 rfl) ?_
      refine s_geti hC hW gc_P iw_P 6 (by decide) uw_140 rfl sb_17 rfl dR_holderOf_22 ?_
      refine lv_icmp_ge (tgt := 40) hx hb dR_holderOf_25 (by decide) (fun c_25 => ?_) (fun c_25 => ?_)
      · skip
        refine s_null hx hb dR_holderOf_40 ?_
        exact s_aret (v := none) hC hr hlocks hW dR_holderOf_41 ⟨rfl, by rw [f_holder, if_neg c_9, f_run, f_top, eb1]; simp only [v_a, Option.getD_some, er4]; rw [if_pos (by rw [← ev_15]; exact c_25)]⟩
      · skip
        refine s_aload_n (x := some x) hx hb dR_holderOf_28 rfl (lv_at hl 2 rfl) ?_
        refine s_getr hC hW gc_R iw_R 8 (by decide) uw_80 rfl hX (v := some b1) eb1 dR_holderOf_29 ?_
        obtain ⟨b32, eb32, sb32⟩ := w_holders hWT sb1
        refine s_getr hC hW gc_L iw_L 5 (by decide) uw_37 rfl sb1 (v := some b32) eb32 dR_holderOf_32 ?_
        refine lv_iload_n hx hb dR_holderOf_35 rfl (lv_at hl 0 rfl) ?_
        obtain ⟨fk, hfk, efk⟩ := w_formals hWT sb_17
        obtain ⟨j, hj, ej⟩ := x_ngt hfk efk c_9 ev_15 c_25
        obtain ⟨r36, er36⟩ : ∃ r : Option Nat, g_ar S 6 b32 j = r := ⟨_, rfl⟩
        refine k_aald hC hW sb32 rfl rfl (by decide) j ej (by omega) (v := r36) er36 dR_holderOf_36 ?_
        refine lv_goto (tgt := 41) hx hb dR_holderOf_37 (by decide) ?_
        exact s_aret (v := r36) hC hr hlocks hW dR_holderOf_41 ⟨rfl, by rw [f_holder, if_neg c_9, f_run, f_top, eb1]; simp only [v_a, Option.getD_some, er4]; rw [if_neg (by rw [← ev_15]; exact c_25), ← ev_15, ej, nI_clamp (show j < 2 ^ 31 by omega), eb32]; exact er36.symm⟩
