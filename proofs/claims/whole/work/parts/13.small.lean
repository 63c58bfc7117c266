/-! R.seesCellsOf -/
def f_sees (S : gs_S) (a o : Nat) : Int32 := if some a = some o then 1 else if f_has S o 8 = 0 then 0 else if f_li S 61 (some a) (some o) = 0 then 0 else 1

set_option maxHeartbeats 4000000 in
set_option maxRecDepth 100000 in
theorem c_R_seesCellsOf (l : Launch) (G : gs_G) (S : gs_S) (sz : Nat) (a o : Nat) (hWT : w_t S) (ha : g_sh S a = some (.inl 1)) (ho : g_sh S o = some (.inl 1)) : Met l yR_seesCellsOf (kR_seesCellsOf :: gU) { frames := 1, cells := 0, slots := 0, locals := 22 } (g_Pc G S sz [va_rf (some a), va_rf (some o)]) (g_Qi G S sz (fun r S' => S' = S ∧ r = f_sees S a o)) 0 0 (g_A S sz) := by
  refine s_head (by decide) (Nat.le_of_ble_eq_true rfl) ?_
  intro p e s m below meth c ls hsz hC hr hlocks hnm hl hW
  subst hsz
  obtain ⟨hx, hb, hml, hown, hts⟩ := id hC
  have hl : lv_has ls 2 [(0, va_rf (some a)), (1, va_rf (some o))] := hl
  refine s_aload_n (x := some a) hx hb dR_seesCellsOf_0 rfl (lv_at hl 0 rfl) ?_
  refine s_aload_n (x := some o) hx hb dR_seesCellsOf_1 rfl (lv_at hl 1 rfl) ?_
  refine lv_acmp_eq (rx := some a) (ry := some o) (tgt := 22) hx hb dR_seesCellsOf_2 (by decide) (fun c_2 => ?_) (fun c_2 => ?_)
  · skip
    refine lv_iconst (v := 1) hx hb dR_seesCellsOf_22 (by decide) ?_
    refine lv_goto (tgt := 27) hx hb dR_seesCellsOf_23 (by decide) ?_
    exact s_iret hC hr hlocks rfl hW dR_seesCellsOf_27 ⟨rfl, by simp only [f_sees, if_pos c_2, if_true, if_false]⟩
  · skip
    refine s_aload_n (x := some o) hx hb dR_seesCellsOf_5 rfl (lv_at hl 1 rfl) ?_
    refine lv_bipush (v := 8) hx hb dR_seesCellsOf_6 (by decide) ?_
    refine s_calli hW (s_runV (n := 1) (As := [.int 8]) (rest := []) hC (c_P_has l G S s.heap.size o 8 ho) uc_P_has uw_196 uw_197 uw_198 uw_5 rfl rfl (by decide +kernel) ⟨by decide, by decide⟩ (g_preV hW gc_P ho [.int 8]) rfl hl.1 rfl (Nat.le_of_ble_eq_true rfl) dR_seesCellsOf_8 ⟨Nat.le_of_ble_eq_true rfl, Nat.le_of_ble_eq_true rfl⟩) (fun q8 S8 H locs hp8 hW => ?_)
    obtain ⟨hs8, rfl⟩ := hp8
    replace hs8 := hs8.symm
    subst hs8
    refine lv_if_eq (tgt := 26) hx hb dR_seesCellsOf_11 (by decide) (fun c_11 => ?_) (fun c_11 => ?_)
    · skip
      refine lv_iconst (v := 0) hx hb dR_seesCellsOf_26 (by decide) ?_
      exact s_iret hC hr hlocks rfl hW dR_seesCellsOf_27 ⟨rfl, by simp only [f_sees, if_neg c_2, if_pos c_11, if_true, if_false]⟩
    · skip
      refine s_aload_n (x := some a) hx hb dR_seesCellsOf_14 rfl (lv_at hl 0 rfl) ?_
      refine s_aload_n (x := some o) hx hb dR_seesCellsOf_15 rfl (lv_at hl 1 rfl) ?_
      refine s_calli hW (s_runV (n := 1) (As := [va_rf (some o)]) (rest := []) hC (c_P_isOrLiesIn l G S H.size a (some o) hWT ha) uc_P_isOrLiesIn uw_204 uw_205 uw_206 uw_5 rfl rfl (by decide +kernel) ⟨by decide, by decide⟩ (g_preV hW gc_P ha [va_rf (some o)]) rfl hl.1 rfl (Nat.le_of_ble_eq_true rfl) dR_seesCellsOf_16 ⟨Nat.le_of_ble_eq_true rfl, Nat.le_of_ble_eq_true rfl⟩) (fun q16 S16 H locs hp16 hW => ?_)
      obtain ⟨hs16, rfl⟩ := hp16
      replace hs16 := hs16.symm
      subst hs16
      refine lv_if_eq (tgt := 26) hx hb dR_seesCellsOf_19 (by decide) (fun c_19 => ?_) (fun c_19 => ?_)
      · skip
        refine lv_iconst (v := 0) hx hb dR_seesCellsOf_26 (by decide) ?_
        exact s_iret hC hr hlocks rfl hW dR_seesCellsOf_27 ⟨rfl, by simp only [f_sees, if_neg c_2, if_neg c_11, if_pos c_19, if_true, if_false]⟩
      · skip
        refine lv_iconst (v := 1) hx hb dR_seesCellsOf_22 (by decide) ?_
        refine lv_goto (tgt := 27) hx hb dR_seesCellsOf_23 (by decide) ?_
        exact s_iret hC hr hlocks rfl hW dR_seesCellsOf_27 ⟨rfl, by simp only [f_sees, if_neg c_2, if_neg c_11, if_neg c_19, if_true, if_false]⟩

/-! R.isFormal -/
def f_top (S : gs_S) (x : Nat) : Nat := v_a (g_r S 2 8 x)
def f_run (S : gs_S) (x : Nat) : Option Nat := g_r S 0 2 (f_top S x)
def f_fml (S : gs_S) (x : Nat) (n : Int32) : Int32 := match f_run S x with
  | none => 0
  | some p => if 0 ≤ n then 0 else if g_i S 1 6 p ≤ -1 - n then 0 else 1
theorem x_neg {n : Int32} (h : ¬ 0 ≤ n) : ∃ j : Nat, j < 2 ^ 31 ∧ -1 - n = nI j := by
  refine nI_of ?_
  rw [Int32.le_iff_toInt_le] at h
  rw [Int32.lt_iff_toInt_lt]
  have h1 := n.toInt_lt
  have h2 := n.le_toInt
  have h3 : (-1 - n).toInt = -1 - n.toInt := by
    rw [Int32.toInt_sub]
    have : (-1 : Int32).toInt = -1 := by decide
    rw [this]
    simp at h
    simp only [Int.bmod]
    omega
  rw [h3]
  simp at h ⊢
  omega
theorem x_ngt {n : Int32} {f m : Int32} {k : Nat} (hk : k ≤ 16) (ef : f = nI k) (h : ¬ 0 ≤ n) (em : m = -1 - n) (c : ¬ f ≤ m) : ∃ j : Nat, j < k ∧ m = nI j := by
  obtain ⟨j, hj, ej⟩ := x_neg h
  subst ef em
  rw [ej, nI_leI (by omega) hj] at c
  exact ⟨j, by omega, ej⟩
theorem fml_e {S : gs_S} {x : Nat} {n : Int32} (hWT : w_t S) (hX : g_sh S x = some (.inl 2)) (h : ¬ f_fml S x n = 0) : ∃ p j : Nat, f_run S x = some p ∧ ¬ 0 ≤ n ∧ ¬ g_i S 1 6 p ≤ -1 - n ∧ j < 16 ∧ -1 - n = nI j := by
  obtain ⟨tp, etp, stp⟩ := w_top hWT hX
  have erun : f_run S x = g_r S 0 2 tp := by rw [f_run, f_top, etp]; rfl
  unfold f_fml at h
  split at h
  · exact absurd rfl h
  · rename_i p hp
    split at h
    · exact absurd rfl h
    · rename_i c1
      split at h
      · exact absurd rfl h
      · rename_i c2
        obtain ⟨fk, hfk, efk⟩ := w_formals hWT (w_program hWT stp p (erun.symm.trans hp))
        obtain ⟨j, hj, ej⟩ := x_ngt hfk efk c1 rfl c2
        exact ⟨p, j, hp, c1, c2, by omega, ej⟩
theorem fml_0 {S : gs_S} {x : Nat} {n : Int32} (h : 0 ≤ n) : f_fml S x n = 0 := by
  unfold f_fml
  split
  · rfl
  · rw [if_pos h]
theorem fml_1 {S : gs_S} {x p : Nat} {n : Int32} (hp : f_run S x = some p) (h : ¬ 0 ≤ n) (c : ¬ g_i S 1 6 p ≤ -1 - n) : ¬ f_fml S x n = 0 := by
  unfold f_fml
  rw [hp]
  simp only []
  rw [if_neg h, if_neg c]
  decide

set_option maxHeartbeats 4000000 in
set_option maxRecDepth 100000 in
theorem c_R_isFormal (l : Launch) (G : gs_G) (S : gs_S) (sz : Nat) (x : Nat) (n : Int32) (hWT : w_t S) (hX : g_sh S x = some (.inl 2)) : Met l yR_isFormal (kR_isFormal :: gU) { frames := 0, cells := 0, slots := 0, locals := 0 } (g_Pc G S sz [va_rf (some x), .int n]) (g_Qi G S sz (fun r S' => S' = S ∧ r = f_fml S x n)) 0 0 (g_A S sz) := by
  refine s_head (by decide) (Nat.le_of_ble_eq_true rfl) ?_
  intro p e s m below meth c ls hsz hC hr hlocks hnm hl hW
  subst hsz
  obtain ⟨hx, hb, hml, hown, hts⟩ := id hC
  have hl : lv_has ls 3 [(0, va_rf (some x)), (1, .int n)] := hl
  refine s_aload_n (x := some x) hx hb dR_isFormal_0 rfl (lv_at hl 0 rfl) ?_
  obtain ⟨b1, eb1, sb1⟩ := w_top hWT hX
  refine s_getr hC hW gc_R iw_R 8 (by decide) uw_80 rfl hX (v := some b1) eb1 dR_isFormal_1 ?_
  obtain ⟨r4, er4⟩ : ∃ r : Option Nat, g_r S 0 2 b1 = r := ⟨_, rfl⟩
  refine s_getr hC hW gc_L iw_L 2 (by decide) uw_32 rfl sb1 (v := r4) er4 dR_isFormal_4 ?_
  refine s_astore_n (x := r4) (lv' := [(2, va_rf r4), (0, va_rf (some x)), (1, .int n)]) hx hb dR_isFormal_7 rfl hl (by decide) rfl (fun ls hl => ?_)
  refine s_aload_n (x := r4) hx hb dR_isFormal_8 rfl (lv_at hl 0 rfl) ?_
  refine s_ifnull (x := r4) (tgt := 30) hx hb dR_isFormal_9 (by decide) (fun c_9 => ?_) (fun b_9 c_9 => ?_)
  · skip
    subst c_9
    refine lv_iconst (v := 0) hx hb dR_isFormal_30 (by decide) ?_
    exact s_iret hC hr hlocks rfl hW dR_isFormal_31 ⟨rfl, by rw [f_fml, f_run, f_top, eb1]; simp only [v_a, Option.getD_some, er4]⟩
  · skip
    subst c_9
    have sb_9 := w_program hWT sb1 _ er4
    refine lv_iload_n hx hb dR_isFormal_12 rfl (lv_at hl 2 rfl) ?_
    refine lv_if_ge (tgt := 30) hx hb dR_isFormal_13 (by decide) (fun c_13 => ?_) (fun c_13 => ?_)
    · skip
      refine lv_iconst (v := 0) hx hb dR_isFormal_30 (by decide) ?_
      exact s_iret hC hr hlocks rfl hW dR_isFormal_31 ⟨rfl, by rw [f_fml, f_run, f_top, eb1]; simp only [v_a, Option.getD_some, er4]; rw [if_pos c_13]⟩
    · skip
      refine lv_iconst (v := (-1)) hx hb dR_isFormal_16 (by decide) ?_
      refine lv_iload_n hx hb dR_isFormal_17 rfl (lv_at hl 2 rfl) ?_
      refine lv_isub hx hb dR_isFormal_18 ?_
      refine s_aload_n (x := some b_9) hx hb dR_isFormal_19 rfl (lv_at hl 0 rfl) ?_
      refine s_geti hC hW gc_P iw_P 6 (by decide) uw_140 rfl sb_9 rfl dR_isFormal_20 ?_
      refine lv_icmp_ge (tgt := 30) hx hb dR_isFormal_23 (by decide) (fun c_23 => ?_) (fun c_23 => ?_)
      · skip
        refine lv_iconst (v := 0) hx hb dR_isFormal_30 (by decide) ?_
        exact s_iret hC hr hlocks rfl hW dR_isFormal_31 ⟨rfl, by rw [f_fml, f_run, f_top, eb1]; simp only [v_a, Option.getD_some, er4]; rw [if_neg c_13, if_pos c_23]⟩
      · skip
        refine lv_iconst (v := 1) hx hb dR_isFormal_26 (by decide) ?_
        refine lv_goto (tgt := 31) hx hb dR_isFormal_27 (by decide) ?_
        exact s_iret hC hr hlocks rfl hW dR_isFormal_31 ⟨rfl, by rw [f_fml, f_run, f_top, eb1]; simp only [v_a, Option.getD_some, er4]; rw [if_neg c_13, if_neg c_23]⟩

/-! R.placeOf -/
def f_place (S : gs_S) (x : Nat) (n : Int32) : Int32 := if f_fml S x n = 0 then 16 + n else g_ai S 7 (v_a (g_r S 0 6 (f_top S x))) (-1 - n).toNatClampNeg

set_option maxHeartbeats 4000000 in
set_option maxRecDepth 100000 in
theorem c_R_placeOf (l : Launch) (G : gs_G) (S : gs_S) (sz : Nat) (x : Nat) (n : Int32) (hWT : w_t S) (hX : g_sh S x = some (.inl 2)) : Met l yR_placeOf (kR_placeOf :: gU) { frames := 1, cells := 0, slots := 0, locals := 22 } (g_Pc G S sz [va_rf (some x), .int n]) (g_Qi G S sz (fun r S' => S' = S ∧ r = f_place S x n)) 0 0 (g_A S sz) := by
  refine s_head (by decide) (Nat.le_of_ble_eq_true rfl) ?_
  intro p e s m below meth c ls hsz hC hr hlocks hnm hl hW
  subst hsz
  obtain ⟨hx, hb, hml, hown, hts⟩ := id hC
  have hl : lv_has ls 2 [(0, va_rf (some x)), (1, .int n)] := hl
  refine s_aload_n (x := some x) hx hb dR_placeOf_0 rfl (lv_at hl 0 rfl) ?_
  refine lv_iload_n hx hb dR_placeOf_1 rfl (lv_at hl 1 rfl) ?_
  refine s_calli hW (s_runV (n := 1) (As := [.int n]) (rest := []) hC (c_R_isFormal l G S s.heap.size x n hWT hX) uc_R_isFormal uw_174 uw_176 us_R_isFormal uw_1 rfl rfl (by decide +kernel) ⟨by decide, by decide⟩ (g_preV hW gc_R hX [.int n]) rfl hl.1 rfl (Nat.le_of_ble_eq_true rfl) dR_placeOf_2 ⟨Nat.le_of_ble_eq_true rfl, Nat.le_of_ble_eq_true rfl⟩) (fun q2 S2 H locs hp2 hW => ?_)
  obtain ⟨hs2, rfl⟩ := hp2
  replace hs2 := hs2.symm
  subst hs2
  refine lv_if_eq (tgt := 22) hx hb dR_placeOf_5 (by decide) (fun c_5 => ?_) (fun c_5 => ?_)
  · skip
    refine lv_bipush (v := 16) hx hb dR_placeOf_22 (by decide) ?_
    refine lv_iload_n hx hb dR_placeOf_24 rfl (lv_at hl 1 rfl) ?_
    refine lv_iadd hx hb dR_placeOf_25 ?_
    exact s_iret hC hr hlocks rfl hW dR_placeOf_26 ⟨rfl, by rw [f_place, if_pos c_5]⟩
  · skip
    refine s_aload_n (x := some x) hx hb dR_placeOf_8 rfl (lv_at hl 0 rfl) ?_
    obtain ⟨b9, eb9, sb9⟩ := w_top hWT hX
    refine s_getr hC hW gc_R iw_R 8 (by decide) uw_80 rfl hX (v := some b9) eb9 dR_placeOf_9 ?_
    obtain ⟨b12, eb12, sb12⟩ := w_places hWT sb9
    refine s_getr hC hW gc_L iw_L 6 (by decide) uw_39 rfl sb9 (v := some b12) eb12 dR_placeOf_12 ?_
    refine lv_iconst (v := (-1)) hx hb dR_placeOf_15 (by decide) ?_
    refine lv_iload_n hx hb dR_placeOf_16 rfl (lv_at hl 1 rfl) ?_
    refine lv_isub hx hb dR_placeOf_17 ?_
    obtain ⟨pF, j, hpF, hnF, hcF, hj, ej⟩ := fml_e hWT hX c_5
    refine k_iald hC hW sb12 rfl rfl (by decide) j ej hj rfl dR_placeOf_18 ?_
    refine lv_goto (tgt := 26) hx hb dR_placeOf_19 (by decide) ?_
    exact s_iret hC hr hlocks rfl hW dR_placeOf_26 ⟨rfl, by rw [f_place, if_neg c_5, f_top, eb9, ej, nI_clamp (show j < 2 ^ 31 by omega)]; simp only [v_a, Option.getD_some, eb12]⟩

/-! R.bytesOf -/
def f_bytes (S : gs_S) (x : Nat) (n : Int32) : Int32 := if f_fml S x n = 0 then 8 else g_ai S 8 (v_a (g_r S 0 7 (f_top S x))) (-1 - n).toNatClampNeg

set_option maxHeartbeats 4000000 in
set_option maxRecDepth 100000 in
theorem c_R_bytesOf (l : Launch) (G : gs_G) (S : gs_S) (sz : Nat) (x : Nat) (n : Int32) (hWT : w_t S) (hX : g_sh S x = some (.inl 2)) : Met l yR_bytesOf (kR_bytesOf :: gU) { frames := 1, cells := 0, slots := 0, locals := 22 } (g_Pc G S sz [va_rf (some x), .int n]) (g_Qi G S sz (fun r S' => S' = S ∧ r = f_bytes S x n)) 0 0 (g_A S sz) := by
  refine s_head (by decide) (Nat.le_of_ble_eq_true rfl) ?_
  intro p e s m below meth c ls hsz hC hr hlocks hnm hl hW
  subst hsz
  obtain ⟨hx, hb, hml, hown, hts⟩ := id hC
  have hl : lv_has ls 2 [(0, va_rf (some x)), (1, .int n)] := hl
  refine s_aload_n (x := some x) hx hb dR_bytesOf_0 rfl (lv_at hl 0 rfl) ?_
  refine lv_iload_n hx hb dR_bytesOf_1 rfl (lv_at hl 1 rfl) ?_
  refine s_calli hW (s_runV (n := 1) (As := [.int n]) (rest := []) hC (c_R_isFormal l G S s.heap.size x n hWT hX) uc_R_isFormal uw_174 uw_176 us_R_isFormal uw_1 rfl rfl (by decide +kernel) ⟨by decide, by decide⟩ (g_preV hW gc_R hX [.int n]) rfl hl.1 rfl (Nat.le_of_ble_eq_true rfl) dR_bytesOf_2 ⟨Nat.le_of_ble_eq_true rfl, Nat.le_of_ble_eq_true rfl⟩) (fun q2 S2 H locs hp2 hW => ?_)
  obtain ⟨hs2, rfl⟩ := hp2
  replace hs2 := hs2.symm
  subst hs2
  refine lv_if_eq (tgt := 22) hx hb dR_bytesOf_5 (by decide) (fun c_5 => ?_) (fun c_5 => ?_)
  · skip
    refine lv_bipush (v := 8) hx hb dR_bytesOf_22 (by decide) ?_
    exact s_iret hC hr hlocks rfl hW dR_bytesOf_24 ⟨rfl, by rw [f_bytes, if_pos c_5]⟩
  · skip
    refine s_aload_n (x := some x) hx hb dR_bytesOf_8 rfl (lv_at hl 0 rfl) ?_
    obtain ⟨b9, eb9, sb9⟩ := w_top hWT hX
    refine s_getr hC hW gc_R iw_R 8 (by decide) uw_80 rfl hX (v := some b9) eb9 dR_bytesOf_9 ?_
    obtain ⟨b12, eb12, sb12⟩ := w_bytes hWT sb9
    refine s_getr hC hW gc_L iw_L 7 (by decide) uw_41 rfl sb9 (v := some b12) eb12 dR_bytesOf_12 ?_
    refine lv_iconst (v := (-1)) hx hb dR_bytesOf_15 (by decide) ?_
    refine lv_iload_n hx hb dR_bytesOf_16 rfl (lv_at hl 1 rfl) ?_
    refine lv_isub hx hb dR_bytesOf_17 ?_
    obtain ⟨pF, j, hpF, hnF, hcF, hj, ej⟩ := fml_e hWT hX c_5
    refine k_iald hC hW sb12 rfl rfl (by decide) j ej hj rfl dR_bytesOf_18 ?_
    refine lv_goto (tgt := 24) hx hb dR_bytesOf_19 (by decide) ?_
    exact s_iret hC hr hlocks rfl hW dR_bytesOf_24 ⟨rfl, by rw [f_bytes, if_neg c_5, f_top, eb9, ej, nI_clamp (show j < 2 ^ 31 by omega)]; simp only [v_a, Option.getD_some, eb12]⟩

/-! R.unusedBits -/
def f_unused (S : gs_S) (x : Nat) (n : Int32) : Int32 := 8 * (8 - f_bytes S x n)

set_option maxHeartbeats 4000000 in
set_option maxRecDepth 100000 in
theorem c_R_unusedBits (l : Launch) (G : gs_G) (S : gs_S) (sz : Nat) (x : Nat) (n : Int32) (hWT : w_t S) (hX : g_sh S x = some (.inl 2)) : Met l yR_unusedBits (kR_unusedBits :: gU) { frames := 2, cells := 0, slots := 0, locals := 43 } (g_Pc G S sz [va_rf (some x), .int n]) (g_Qi G S sz (fun r S' => S' = S ∧ r = f_unused S x n)) 0 0 (g_A S sz) := by
  refine s_head (by decide) (Nat.le_of_ble_eq_true rfl) ?_
  intro p e s m below meth c ls hsz hC hr hlocks hnm hl hW
  subst hsz
  obtain ⟨hx, hb, hml, hown, hts⟩ := id hC
  have hl : lv_has ls 2 [(0, va_rf (some x)), (1, .int n)] := hl
  refine lv_bipush (v := 8) hx hb dR_unusedBits_0 (by decide) ?_
  refine lv_bipush (v := 8) hx hb dR_unusedBits_2 (by decide) ?_
  refine s_aload_n (x := some x) hx hb dR_unusedBits_4 rfl (lv_at hl 0 rfl) ?_
  refine lv_iload_n hx hb dR_unusedBits_5 rfl (lv_at hl 1 rfl) ?_
  refine s_calli hW (s_runV (n := 1) (As := [.int n]) (rest := [.int 8, .int 8]) hC (c_R_bytesOf l G S s.heap.size x n hWT hX) uc_R_bytesOf uw_230 uw_232 us_R_bytesOf uw_1 rfl rfl (by decide +kernel) ⟨by decide, by decide⟩ (g_preV hW gc_R hX [.int n]) rfl hl.1 rfl (Nat.le_of_ble_eq_true rfl) dR_unusedBits_6 ⟨Nat.le_of_ble_eq_true rfl, Nat.le_of_ble_eq_true rfl⟩) (fun q6 S6 H locs hp6 hW => ?_)
  obtain ⟨hs6, rfl⟩ := hp6
  replace hs6 := hs6.symm
  subst hs6
  refine lv_isub hx hb dR_unusedBits_9 ?_
  refine lv_imul hx hb dR_unusedBits_10 ?_
  exact s_iret hC hr hlocks rfl hW dR_unusedBits_11 ⟨rfl, rfl⟩

/-! R.dataOf -/
def f_data (S : gs_S) (x p : Nat) : Option Nat := if f_has S p 4 = 0 then g_r S 2 7 x else match g_r S 1 8 p with
  | none => g_r S 2 7 x
  | some l => some l
theorem t_data {S : gs_S} {x p : Nat} (hWT : w_t S) (hX : g_sh S x = some (.inl 2)) (hp : g_sh S p = some (.inl 1)) : t_n S 0 (f_data S x p) := by
  unfold f_data
  split
  · exact w_bottom hWT hX
  · split
    · exact w_bottom hWT hX
    · rename_i l hl
      exact ⟨l, rfl, w_latest hWT hp l hl⟩

set_option maxHeartbeats 4000000 in
set_option maxRecDepth 100000 in
theorem c_R_dataOf (l : Launch) (G : gs_G) (S : gs_S) (sz : Nat) (x a : Nat) (hWT : w_t S) (hX : g_sh S x = some (.inl 2)) (ha : g_sh S a = some (.inl 1)) : Met l yR_dataOf (kR_dataOf :: gU) { frames := 1, cells := 0, slots := 0, locals := 21 } (g_Pc G S sz [va_rf (some x), va_rf (some a)]) (g_Qq G S sz (fun r S' => S' = S ∧ r = f_data S x a)) 0 0 (g_A S sz) := by
  refine s_head (by decide) (Nat.le_of_ble_eq_true rfl) ?_
  intro p e s m below meth c ls hsz hC hr hlocks hnm hl hW
  subst hsz
  obtain ⟨hx, hb, hml, hown, hts⟩ := id hC
  have hl : lv_has ls 2 [(0, va_rf (some x)), (1, va_rf (some a))] := hl
  refine s_aload_n (x := some a) hx hb dR_dataOf_0 rfl (lv_at hl 1 rfl) ?_
  refine lv_iconst (v := 4) hx hb dR_dataOf_1 (by decide) ?_
  refine s_calli hW (s_runV (n := 1) (As := [.int 4]) (rest := []) hC (c_P_has l G S s.heap.size a 4 ha) uc_P_has uw_196 uw_197 uw_198 uw_5 rfl rfl (by decide +kernel) ⟨by decide, by decide⟩ (g_preV hW gc_P ha [.int 4]) rfl hl.1 rfl (Nat.le_of_ble_eq_true rfl) dR_dataOf_2 ⟨Nat.le_of_ble_eq_true rfl, Nat.le_of_ble_eq_true rfl⟩) (fun q2 S2 H locs hp2 hW => ?_)
  obtain ⟨hs2, rfl⟩ := hp2
  replace hs2 := hs2.symm
  subst hs2
  refine lv_if_eq (tgt := 22) hx hb dR_dataOf_5 (by decide) (fun c_5 => ?_) (fun c_5 => ?_)
  · skip
    refine s_aload_n (x := some x) hx hb dR_dataOf_22 rfl (lv_at hl 0 rfl) ?_
    obtain ⟨b23, eb23, sb23⟩ := w_bottom hWT hX
    refine s_getr hC hW gc_R iw_R 7 (by decide) uw_79 rfl hX (v := some b23) eb23 dR_dataOf_23 ?_
    exact s_aret (v := some b23) hC hr hlocks hW dR_dataOf_26 ⟨rfl, by rw [f_data, if_pos c_5, eb23]⟩
  · skip
    refine s_aload_n (x := some a) hx hb dR_dataOf_8 rfl (lv_at hl 1 rfl) ?_
    obtain ⟨r9, er9⟩ : ∃ r : Option Nat, g_r S 1 8 a = r := ⟨_, rfl⟩
    refine s_getr hC hW gc_P iw_P 8 (by decide) uw_142 rfl ha (v := r9) er9 dR_dataOf_9 ?_
    refine s_ifnull (x := r9) (tgt := 22) hx hb dR_dataOf_12 (by decide) (fun c_12 => ?_) (fun b_12 c_12 => ?_)
    · skip
      subst c_12
      refine s_aload_n (x := some x) hx hb dR_dataOf_22 rfl (lv_at hl 0 rfl) ?_
      obtain ⟨b23, eb23, sb23⟩ := w_bottom hWT hX
      refine s_getr hC hW gc_R iw_R 7 (by decide) uw_79 rfl hX (v := some b23) eb23 dR_dataOf_23 ?_
      exact s_aret (v := some b23) hC hr hlocks hW dR_dataOf_26 ⟨rfl, by rw [f_data, if_neg c_5, er9]; simp only [eb23]⟩
    · skip
      subst c_12
      have sb_12 := w_latest hWT ha _ er9
      refine s_aload_n (x := some a) hx hb dR_dataOf_15 rfl (lv_at hl 1 rfl) ?_
      refine s_getr hC hW gc_P iw_P 8 (by decide) uw_142 rfl ha (v := some b_12) er9 dR_dataOf_16 ?_
      refine lv_goto (tgt := 26) hx hb dR_dataOf_19 (by decide) ?_
      exact s_aret (v := some b_12) hC hr hlocks hW dR_dataOf_26 ⟨rfl, by rw [f_data, if_neg c_5, er9]⟩

theorem t_no {S : gs_S} {ci : Nat} {r : Option Nat} (h : t_n S ci r) : t_o S ci r := by
  obtain ⟨b, rfl, h⟩ := h
  intro c hc
  cases hc
  exact h

/-! R.holderOf -/
def f_holder (S : gs_S) (x : Nat) (n : Int32) : Option Nat := if 0 ≤ n then
    (if n < g_i S 2 5 x then (match g_ar S 1 (v_a (g_r S 2 3 x)) n.toNatClampNeg with
      | none => g_r S 2 7 x
      | some o => match f_run S x with
        | none => none
        | some p => if f_sees S p o = 0 then none else f_data S x o) else none)
  else match f_run S x with
    | none => none
    | some p => if g_i S 1 6 p ≤ -1 - n then none else g_ar S 6 (v_a (g_r S 0 5 (f_top S x))) (-1 - n).toNatClampNeg
theorem hold_n {S : gs_S} {x : Nat} {n : Int32} (h : ¬ 0 ≤ n) (c : f_fml S x n = 0) : f_holder S x n = none := by
  unfold f_fml at c
  unfold f_holder
  rw [if_neg h]
  cases hr : f_run S x with
  | none => rfl
  | some p =>
    rw [hr] at c
    simp only [] at c ⊢
    rw [if_neg h] at c
    by_cases z : g_i S 1 6 p ≤ -1 - n
    · rw [if_pos z]
    · rw [if_neg z] at c
      exact absurd c (by decide)
theorem hold_s {S : gs_S} {x : Nat} {n : Int32} (h : ¬ 0 ≤ n) (c : ¬ f_fml S x n = 0) : f_holder S x n = g_ar S 6 (v_a (g_r S 0 5 (f_top S x))) (-1 - n).toNatClampNeg := by
  unfold f_fml at c
  unfold f_holder
  rw [if_neg h]
  cases hr : f_run S x with
  | none => rw [hr] at c; exact absurd rfl c
  | some p =>
    rw [hr] at c
    simp only [] at c ⊢
    rw [if_neg h] at c
    by_cases z : g_i S 1 6 p ≤ -1 - n
    · rw [if_pos z] at c; exact absurd rfl c
    · rw [if_neg z]
theorem x_cell {n m : Int32} {k : Nat} (hk : k ≤ 200) (em : m = nI k) (h : 0 ≤ n) (c : n < m) : ∃ j : Nat, j < k ∧ n = nI j := by
  subst em
  have h0 : ¬ n < 0 := fun q => by rw [Int32.lt_iff_toInt_lt] at q; rw [Int32.le_iff_toInt_le] at h; omega
  obtain ⟨j, hj, rfl⟩ := nI_of h0
  rw [nI_ltI hj (by omega)] at c
  exact ⟨j, c, rfl⟩

set_option maxHeartbeats 4000000 in
set_option maxRecDepth 100000 in
theorem c_R_holderOf (l : Launch) (G : gs_G) (S : gs_S) (sz : Nat) (x : Nat) (n : Int32) (hWT : w_t S) (hX : g_sh S x = some (.inl 2)) : Met l yR_holderOf (kR_holderOf :: gU) { frames := 2, cells := 0, slots := 0, locals := 43 } (g_Pc G S sz [va_rf (some x), .int n]) (g_Qq G S sz (fun r S' => S' = S ∧ r = f_holder S x n)) 0 0 (g_A S sz) := by
  refine s_head (by decide) (Nat.le_of_ble_eq_true rfl) ?_
  intro p e s m below meth c ls hsz hC hr hlocks hnm hl hW
  subst hsz
  obtain ⟨hx, hb, hml, hown, hts⟩ := id hC
  have hl : lv_has ls 4 [(0, va_rf (some x)), (1, .int n)] := hl
  refine s_aload_n (x := some x) hx hb dR_holderOf_0 rfl (lv_at hl 0 rfl) ?_
  obtain ⟨b1, eb1, sb1⟩ := w_top hWT hX
  refine s_getr hC hW gc_R iw_R 8 (by decide) uw_80 rfl hX (v := some b1) eb1 dR_holderOf_1 ?_
  obtain ⟨r4, er4⟩ : ∃ r : Option Nat, g_r S 0 2 b1 = r := ⟨_, rfl⟩
  refine s_getr hC hW gc_L iw_L 2 (by decide) uw_32 rfl sb1 (v := r4) er4 dR_holderOf_4 ?_
  refine s_astore_n (x := r4) (lv' := [(2, va_rf r4), (0, va_rf (some x)), (1, .int n)]) hx hb dR_holderOf_7 rfl hl (by decide) rfl (fun ls hl => ?_)
  refine lv_iload_n hx hb dR_holderOf_8 rfl (lv_at hl 2 rfl) ?_
  refine lv_if_ge (tgt := 36) hx hb dR_holderOf_9 (by decide) (fun c_9 => ?_) (fun c_9 => ?_)
  · skip
    refine lv_iload_n hx hb dR_holderOf_36 rfl (lv_at hl 2 rfl) ?_
    refine s_aload_n (x := some x) hx hb dR_holderOf_37 rfl (lv_at hl 1 rfl) ?_
    refine s_geti hC hW gc_R iw_R 5 (by decide) uw_77 rfl hX rfl dR_holderOf_38 ?_
    refine lv_icmp_lt (tgt := 46) hx hb dR_holderOf_41 (by decide) (fun c_41 => ?_) (fun c_41 => ?_)
    · skip
      refine s_aload_n (x := some x) hx hb dR_holderOf_46 rfl (lv_at hl 1 rfl) ?_
      obtain ⟨b47, eb47, sb47⟩ := w_owners hWT hX
      refine s_getr hC hW gc_R iw_R 3 (by decide) uw_75 rfl hX (v := some b47) eb47 dR_holderOf_47 ?_
      refine lv_iload_n hx hb dR_holderOf_50 rfl (lv_at hl 2 rfl) ?_
      obtain ⟨ck, hck, eck⟩ := w_cellCount hWT hX
      obtain ⟨j, hj, ej⟩ := x_cell hck eck c_9 c_41
      obtain ⟨r51, er51⟩ : ∃ r : Option Nat, g_ar S 1 b47 j = r := ⟨_, rfl⟩
      refine k_aald hC hW sb47 rfl rfl (by decide) j ej (by omega) (v := r51) er51 dR_holderOf_51 ?_
      refine s_astore_n (x := r51) (lv' := [(3, va_rf r51), (2, va_rf r4), (0, va_rf (some x)), (1, .int n)]) hx hb dR_holderOf_52 rfl hl (by decide) (by simp [s_cat, s_catI, s_catL] <;> decide) (fun ls hl => ?_)
      refine s_aload_n (x := r51) hx hb dR_holderOf_53 rfl (lv_at hl 0 rfl) ?_
      refine s_ifnonnull (x := r51) (tgt := 62) hx hb dR_holderOf_54 (by decide) (fun b_54 c_54 => ?_) (fun c_54 => ?_)
      · skip
        subst c_54
        have sb_54 := hWT.2.2.2.2.1.2 _ sb47 _ (by omega) _ er51
        refine s_aload_n (x := r4) hx hb dR_holderOf_62 rfl (lv_at hl 1 rfl) ?_
        refine s_ifnull (x := r4) (tgt := 82) hx hb dR_holderOf_63 (by decide) (fun c_63 => ?_) (fun b_63 c_63 => ?_)
        · skip
          subst c_63
          refine s_null hx hb dR_holderOf_82 ?_
          exact s_aret (v := none) hC hr hlocks hW dR_holderOf_83 ⟨rfl, by rw [f_holder, if_pos c_9, if_pos c_41, eb47, ej, nI_clamp (show j < 2 ^ 31 by omega), f_run, f_top, eb1]; simp only [v_a, Option.getD_some, er51, er4]⟩
        · skip
          subst c_63
          have sb_63 := w_program hWT sb1 _ er4
          refine s_aload_n (x := some b_63) hx hb dR_holderOf_66 rfl (lv_at hl 1 rfl) ?_
          refine s_aload_n (x := some b_54) hx hb dR_holderOf_67 rfl (lv_at hl 0 rfl) ?_
          refine s_calli hW (s_runS (n := 2) (As := [va_rf (some b_63), va_rf (some b_54)]) (rest := []) hC (c_R_seesCellsOf l G S s.heap.size b_63 b_54 hWT sb_63 sb_54) uc_R_seesCellsOf uw_223 uw_224 uw_1 rfl rfl (by decide +kernel) ⟨by decide, by decide⟩ (g_preS hW [va_rf (some b_63), va_rf (some b_54)]) rfl hl.1 rfl (Nat.le_of_ble_eq_true rfl) dR_holderOf_68 ⟨Nat.le_of_ble_eq_true rfl, Nat.le_of_ble_eq_true rfl⟩) (fun q68 S68 H locs hp68 hW => ?_)
          obtain ⟨hs68, rfl⟩ := hp68
          replace hs68 := hs68.symm
          subst hs68
          refine lv_if_eq (tgt := 82) hx hb dR_holderOf_71 (by decide) (fun c_71 => ?_) (fun c_71 => ?_)
          · skip
            refine s_null hx hb dR_holderOf_82 ?_
            exact s_aret (v := none) hC hr hlocks hW dR_holderOf_83 ⟨rfl, by rw [f_holder, if_pos c_9, if_pos c_41, eb47, ej, nI_clamp (show j < 2 ^ 31 by omega), f_run, f_top, eb1]; simp only [v_a, Option.getD_some, er51, er4]; rw [if_pos c_71]⟩
          · skip
            refine s_aload_n (x := some x) hx hb dR_holderOf_74 rfl (lv_at hl 2 rfl) ?_
            refine s_aload_n (x := some b_54) hx hb dR_holderOf_75 rfl (lv_at hl 0 rfl) ?_
            refine s_callq hW (s_runV (n := 1) (As := [va_rf (some b_54)]) (rest := []) hC (c_R_dataOf l G S H.size x b_54 hWT hX sb_54) uc_R_dataOf uw_226 uw_228 us_R_dataOf uw_1 rfl rfl (by decide +kernel) ⟨by decide, by decide⟩ (g_preV hW gc_R hX [va_rf (some b_54)]) rfl hl.1 rfl (Nat.le_of_ble_eq_true rfl) dR_holderOf_76 ⟨Nat.le_of_ble_eq_true rfl, Nat.le_of_ble_eq_true rfl⟩) (fun rq76 S76 H locs hp76 hW => ?_)
            obtain ⟨hs76, erq76⟩ := hp76
            replace hs76 := hs76.symm
            subst hs76
            refine lv_goto (tgt := 83) hx hb dR_holderOf_79 (by decide) ?_
            exact s_aret (v := rq76) hC hr hlocks hW dR_holderOf_83 ⟨rfl, by rw [f_holder, if_pos c_9, if_pos c_41, eb47, ej, nI_clamp (show j < 2 ^ 31 by omega), f_run, f_top, eb1]; simp only [v_a, Option.getD_some, er51, er4]; rw [if_neg c_71]; exact erq76⟩
      · skip
        subst c_54
        refine s_aload_n (x := some x) hx hb dR_holderOf_57 rfl (lv_at hl 2 rfl) ?_
        obtain ⟨b58, eb58, sb58⟩ := w_bottom hWT hX
        refine s_getr hC hW gc_R iw_R 7 (by decide) uw_79 rfl hX (v := some b58) eb58 dR_holderOf_58 ?_
        exact s_aret (v := some b58) hC hr hlocks hW dR_holderOf_61 ⟨rfl, by rw [f_holder, if_pos c_9, if_pos c_41, eb47, ej, nI_clamp (show j < 2 ^ 31 by omega)]; simp only [v_a, Option.getD_some, er51]; rw [eb58]⟩
    · skip
      refine s_null hx hb dR_holderOf_44 ?_
      exact s_aret (v := none) hC hr hlocks hW dR_holderOf_45 ⟨rfl, by rw [f_holder, if_pos c_9, if_neg c_41]⟩
  · skip
    refine s_aload_n (x := some x) hx hb dR_holderOf_12 rfl (lv_at hl 1 rfl) ?_
    refine lv_iload_n hx hb dR_holderOf_13 rfl (lv_at hl 2 rfl) ?_
    refine s_calli hW (s_runV (n := 1) (As := [.int n]) (rest := []) hC (c_R_isFormal l G S s.heap.size x n hWT hX) uc_R_isFormal uw_174 uw_176 us_R_isFormal uw_1 rfl rfl (by decide +kernel) ⟨by decide, by decide⟩ (g_preV hW gc_R hX [.int n]) rfl hl.1 rfl (Nat.le_of_ble_eq_true rfl) dR_holderOf_14 ⟨Nat.le_of_ble_eq_true rfl, Nat.le_of_ble_eq_true rfl⟩) (fun q14 S14 H locs hp14 hW => ?_)
    obtain ⟨hs14, rfl⟩ := hp14
    replace hs14 := hs14.symm
    subst hs14
    refine lv_if_eq (tgt := 34) hx hb dR_holderOf_17 (by decide) (fun c_17 => ?_) (fun c_17 => ?_)
    · skip
      refine s_null hx hb dR_holderOf_34 ?_
      exact s_aret (v := none) hC hr hlocks hW dR_holderOf_35 ⟨rfl, by exact (hold_n c_9 c_17).symm⟩
    · skip
      refine s_aload_n (x := some x) hx hb dR_holderOf_20 rfl (lv_at hl 1 rfl) ?_
      refine s_getr hC hW gc_R iw_R 8 (by decide) uw_80 rfl hX (v := some b1) eb1 dR_holderOf_21 ?_
      obtain ⟨b24, eb24, sb24⟩ := w_holders hWT sb1
      refine s_getr hC hW gc_L iw_L 5 (by decide) uw_37 rfl sb1 (v := some b24) eb24 dR_holderOf_24 ?_
      refine lv_iconst (v := (-1)) hx hb dR_holderOf_27 (by decide) ?_
      refine lv_iload_n hx hb dR_holderOf_28 rfl (lv_at hl 2 rfl) ?_
      refine lv_isub hx hb dR_holderOf_29 ?_
      obtain ⟨pF, j, hpF, hnF, hcF, hj, ej⟩ := fml_e hWT hX c_17
      obtain ⟨r30, er30⟩ : ∃ r : Option Nat, g_ar S 6 b24 j = r := ⟨_, rfl⟩
      refine k_aald hC hW sb24 rfl rfl (by decide) j ej hj (v := r30) er30 dR_holderOf_30 ?_
      refine lv_goto (tgt := 35) hx hb dR_holderOf_31 (by decide) ?_
      exact s_aret (v := r30) hC hr hlocks hW dR_holderOf_35 ⟨rfl, by rw [hold_s c_9 c_17, f_top, eb1]; simp only [v_a, Option.getD_some]; rw [ej, nI_clamp (show j < 2 ^ 31 by omega), eb24]; exact er30.symm⟩
