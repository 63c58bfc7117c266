/-! R.get's contracts -/
set_option maxHeartbeats 4000000 in
set_option maxRecDepth 100000 in
theorem c_R_getR (l : Launch) (G : gs_G) (S : gs_S) (sz : Nat) (x : Nat) (n : Int32) (hWT : w_t S) (hX : g_sh S x = some (.inl 2)) (v : Int64) (hv : f_get S x n = some v) : Met l yR_get (kR_get :: gU) { frames := 6, cells := 0, slots := 0, locals := 100 } (g_Pc G S sz [va_rf (some x), .int n]) (g_Ql G S sz (fun r S' => r = v ∧ S' = S)) 0 0 (g_A S sz) := by
  refine s_head (by decide) (Nat.le_of_ble_eq_true rfl) ?_
  intro p e s m below meth c ls hsz hC hr hlocks hnm hl hW
  subst hsz
  obtain ⟨hx, hb, hml, hown, hts⟩ := id hC
  have hl : lv_has ls 4 [(0, va_rf (some x)), (1, .int n)] := hl
  refine s_aload_n (x := some x) hx hb dR_get_0 rfl (lv_at hl 0 rfl) ?_
  refine lv_iload_n hx hb dR_get_1 rfl (lv_at hl 1 rfl) ?_
  refine s_callq hW (s_runV (n := 1) (As := [.int n]) (rest := []) hC (c_R_holderOf l G S s.heap.size x n hWT hX) uc_R_holderOf uw_219 uw_221 us_R_holderOf uw_1 rfl rfl (by decide +kernel) ⟨by decide, by decide⟩ (g_preV hW gc_R hX [.int n]) rfl hl.1 rfl (Nat.le_of_ble_eq_true rfl) dR_get_2 ⟨Nat.le_of_ble_eq_true rfl, Nat.le_of_ble_eq_true rfl⟩) (fun rq2 S2 H locs hp2 hW => ?_)
  obtain ⟨hs2, erq2⟩ := hp2
  replace hs2 := hs2.symm
  subst hs2
  refine s_astore_n (x := rq2) (lv' := [(2, va_rf rq2), (0, va_rf (some x)), (1, .int n)]) hx hb dR_get_5 rfl hl (by decide) rfl (fun ls hl => ?_)
  refine s_aload_n (x := rq2) hx hb dR_get_6 rfl (lv_at hl 0 rfl) ?_
  refine s_ifnonnull (x := rq2) (tgt := 20) hx hb dR_get_7 (by decide) (fun b_9 c_9 => ?_) (fun c_9 => ?_)
  · skip
    subst c_9
    have sb_9 := t_holder hWT hX _ erq2.symm
    obtain ⟨q, hq, eq⟩ := x_hold hWT hX erq2.symm
    refine s_aload_n (x := some x) hx hb dR_get_20 rfl (lv_at hl 1 rfl) ?_
    refine lv_iload_n hx hb dR_get_21 rfl (lv_at hl 2 rfl) ?_
    refine s_calli hW (s_runV (n := 1) (As := [.int n]) (rest := []) hC (c_R_unusedBits l G S H.size x n hWT hX) uc_R_unusedBits uw_269 uw_271 us_R_unusedBits uw_1 rfl rfl (by decide +kernel) ⟨by decide, by decide⟩ (g_preV hW gc_R hX [.int n]) rfl hl.1 rfl (Nat.le_of_ble_eq_true rfl) dR_get_22 ⟨Nat.le_of_ble_eq_true rfl, Nat.le_of_ble_eq_true rfl⟩) (fun q20 S20 H locs hp20 hW => ?_)
    obtain ⟨hs20, rfl⟩ := hp20
    replace hs20 := hs20.symm
    subst hs20
    refine lv_topi (fun v_25 ev_25 => ?_)
    refine lv_istore_n (lv' := [(3, .int v_25), (2, va_rf (some b_9)), (0, va_rf (some x)), (1, .int n)]) hx hb dR_get_25 rfl hl (by decide) rfl (fun ls hl => ?_)
    refine s_aload_n (x := some b_9) hx hb dR_get_26 rfl (lv_at hl 1 rfl) ?_
    obtain ⟨b35, eb35, sb35⟩ := w_values hWT sb_9
    refine s_getr hC hW gc_L iw_L 8 (by decide) uw_43 rfl sb_9 (v := some b35) eb35 dR_get_27 ?_
    refine s_aload_n (x := some x) hx hb dR_get_30 rfl (lv_at hl 2 rfl) ?_
    refine lv_iload_n hx hb dR_get_31 rfl (lv_at hl 3 rfl) ?_
    refine s_calli hW (s_runV (n := 1) (As := [.int n]) (rest := [va_rf (some b35)]) hC (c_R_placeOf l G S H.size x n hWT hX) uc_R_placeOf uw_170 uw_172 us_R_placeOf uw_1 rfl rfl (by decide +kernel) ⟨by decide, by decide⟩ (g_preV hW gc_R hX [.int n]) rfl hl.1 rfl (Nat.le_of_ble_eq_true rfl) dR_get_32 ⟨Nat.le_of_ble_eq_true rfl, Nat.le_of_ble_eq_true rfl⟩) (fun q28 S28 H locs hp28 hW => ?_)
    obtain ⟨hs28, rfl⟩ := hp28
    replace hs28 := hs28.symm
    subst hs28
    refine k_lald hC hW sb35 rfl rfl (by decide) q eq hq rfl dR_get_35 ?_
    refine lv_iload_n hx hb dR_get_36 rfl (lv_at hl 0 rfl) ?_
    refine lv_lshl hx hb dR_get_37 rfl ?_
    refine lv_iload_n hx hb dR_get_38 rfl (lv_at hl 0 rfl) ?_
    refine lv_lshr hx hb dR_get_39 rfl ?_
    refine lv_topl (fun v_40 ev_40 => ?_)
    refine s_lret hC hr hlocks hW dR_get_40 ⟨?_, rfl⟩
    rw [f_get, ← erq2] at hv
    simp only [] at hv
    rw [eb35, v_a_s, eq, nI_clamp (by omega), ← ev_25] at hv
    rw [ev_40]
    exact Option.some.inj hv
  · skip
    rw [f_get, ← erq2, c_9] at hv
    cases hv
set_option maxHeartbeats 4000000 in
set_option maxRecDepth 100000 in
theorem c_R_getT (l : Launch) (hfl : l.flags = pinnedFlags ++ [noTraceFlag]) (G : gs_G) (S : gs_S) (sz : Nat) (x : Nat) (n : Int32) (hWT : w_t S) (hX : g_sh S x = some (.inl 2)) (hv : f_get S x n = none) : MetFree l yR_get (headSpec (kR_get :: gU) { frames := 6, cells := 1, slots := 6, locals := 100 }) (fun a U => g_Pc G S sz [va_rf (some x), .int n] a U ∧ x_T U) (fun _ _ _ _ _ => True) (fun a st o t => g_QT G S a st o t ∧ ∃ L, x_FE st o t L 1 6 ∧ ∀ q ∈ L, g_A S sz q.base) := by
  refine MetFree.of_bodyS (code := cR_get) (maxLocals := 4) (ret := some .long) (by decide) ?_ ?_
  · intro args s m h hn
    obtain ⟨meth, c, h1, h2, h3, h4, h5, h6, -, -⟩ := Cond.code_spec hn (atoms_spec (ws := kR_get :: gU) h _ List.mem_cons_self)
    exact ⟨meth, c, h1, h2, h3, h4, h5, h6⟩
  · intro p e s m args below meth c s₁ B hml hP _
    have hcode : kR_get.before args s = true := atoms_spec (ws := kR_get :: gU) B.pre _ List.mem_cons_self
    have hex := B.noHandlers hcode
    have hh0 : s₁.heap = s.heap := by rw [B.state]; rfl
    have htr : e.platform.stackTraces = false := Launch.traces_off hfl B.admits
    obtain ⟨⟨rfl, hsz, hP0, hK⟩, hxT⟩ := hP
    have key : W p l e { frames := 6, cells := 1, slots := 6, locals := 100 } s m [va_rf (some x), Value.int n].toArray below meth c s.heap [] 0 0 (MQT below (g_QT G S) [va_rf (some x), Value.int n].toArray s 1 6 (g_A S s.heap.size)) (entryFrame m [va_rf (some x), Value.int n].toArray 4) := by
      have hl := lv_entry [va_rf (some x), Value.int n] (n := 4) (Nat.le_of_ble_eq_true rfl)
      rw [lg_entry_eq]
      generalize (lg_sl [va_rf (some x), Value.int n] ++ List.replicate (4 - (lg_sl [va_rf (some x), Value.int n]).length) Slot.unset).toArray = ls at hl ⊢
      have hC : CallFix p m c cR_get 4 s [va_rf (some x), Value.int n].toArray gU "CallRows" := ⟨B.exec, B.bytes, hml, findClass_of_methodNamed B.named, fun w h => atoms_spec (ws := kR_get :: gU) B.pre w (List.mem_cons_of_mem _ h)⟩
      have hW : g_W G (g_A S s.heap.size) s S s.heap [] := ⟨hK, hP0, fun a h => Or.inl h, fun q h => Or.inr h, va_S.rf⟩
      obtain ⟨hx, hb, -, hown, hts⟩ := id hC
      have hl : lv_has ls 4 [(0, va_rf (some x)), (1, .int n)] := hl
      refine s_aload_n (x := some x) hx hb dR_get_0 rfl (lv_at hl 0 rfl) ?_
      refine lv_iload_n hx hb dR_get_1 rfl (lv_at hl 1 rfl) ?_
      refine s_callq hW (s_runV (n := 1) (As := [.int n]) (rest := []) hC (c_R_holderOf l G S s.heap.size x n hWT hX) uc_R_holderOf uw_219 uw_221 us_R_holderOf uw_1 rfl rfl (by decide +kernel) ⟨by decide, by decide⟩ (g_preV hW gc_R hX [.int n]) rfl hl.1 rfl (Nat.le_of_ble_eq_true rfl) dR_get_2 ⟨Nat.le_of_ble_eq_true rfl, Nat.le_of_ble_eq_true rfl⟩) (fun rq2 S2 H locs hp2 hW => ?_)
      obtain ⟨hs2, erq2⟩ := hp2
      replace hs2 := hs2.symm
      subst hs2
      refine s_astore_n (x := rq2) (lv' := [(2, va_rf rq2), (0, va_rf (some x)), (1, .int n)]) hx hb dR_get_5 rfl hl (by decide) rfl (fun ls hl => ?_)
      refine s_aload_n (x := rq2) hx hb dR_get_6 rfl (lv_at hl 0 rfl) ?_
      refine s_ifnonnull (x := rq2) (tgt := 20) hx hb dR_get_7 (by decide) (fun b_9 c_9 => ?_) (fun c_9 => ?_)
      · skip
        rw [f_get, ← erq2, c_9] at hv
        cases hv
      · exact s_throw htr hC hex B.notSynchronized hl.1 hP0 hW hxT ⟨by decide, by decide, by decide, by decide⟩
    obtain ⟨t, a1, o, b1, b2, b3, b4⟩ := key s₁ hh0 (Stand.of_body B)
    exact ⟨t, o, a1, b1, b2, b3, by rw [← hsz]; exact b4⟩
