/-! THE LAW'S LOOP -/
theorem w_cmp {L i : Nat} (hL : L ≤ 2049) (hi : i ≤ 4000) : nI L - 4 < nI i ↔ L < i + 4 := by
  rw [Int32.lt_iff_toInt_lt, Int32.toInt_sub, nI_toInt (by omega), nI_toInt (by omega), show (4 : Int32).toInt = 4 from rfl]
  have : ((L : Int) - 4).bmod (2 ^ 32) = (L : Int) - 4 := by
    simp only [Int.bmod]
    split <;> omega
  rw [this]
  omega
theorem rX_mono {S : gs_S} {x y t : Nat} (h : r_X S x y t) : r_X S x y (t + 1) := by
  obtain ⟨P, L, D, N, h⟩ := h
  exact ⟨P, L, D, N, h.1, Nat.le_succ_of_le h.2.1, h.2.2⟩
set_option maxHeartbeats 4000000 in
set_option maxRecDepth 100000 in
theorem lw_loop {p : Program} {e : Env} {s : State} {m : MethodId} {below : List Frame} {meth : Method} {c : Code} {l : Launch} {b L : Nat} {xs : Nat → Int32} {G : gs_G} {x y o : Nat} (hfl : l.flags = pinnedFlags ++ [noTraceFlag]) (hxT : x_T s) (hC : CallFix p m c code 8 s #[Value.ref b] gU "CallRowsLaw") (hXs : va_X b L xs s s.heap) (hbl : b < s.heap.size) (hL : L ≤ 2049) (hr : meth.sig.returnType = ret) (hlocks : meth.locks = false) : ∀ (k t : Nat), L < 1 + 4 * (t + k) + 4 → 4 * t ≤ L → ∀ (S : gs_S) (H : Heap) (locs : List Loc) (ls : Array Slot), lw_I s G S H locs x y o t → lv_has ls 8 [(0, .ref b), (4, .int (nI (1 + 4 * t))), (1, va_rf (some x)), (2, va_rf (some y)), (3, va_rf (some o))] → W p l e room_1 s m #[Value.ref b] below meth c H locs (31 + 5 * t) (75426 + 273 * t) (lw_Z below #[Value.ref b] s) (F0 m 33 ls []) := by
  intro k
  induction k with
  | zero =>
    intro t hk ht4 S H locs ls hI hl
    obtain ⟨hx, hb, hml, hown, hts⟩ := id hC
    have hbA : ¬ (fun q => s.heap.size ≤ q) b := fun z => absurd hbl (Nat.not_lt.mpr z)
    have hW := hI.1
    refine lv_iload hx hb dW_law_33 (lv_at hl 1 rfl) ?_
    refine s_aload_n (x := some b) hx hb dW_law_35 rfl (lv_at hl 0 rfl) ?_
    refine va_slen hx hb hXs hbl hbA hW.2.2.2.2 dW_law_36 ?_
    refine lv_iconst (v := 4) hx hb dW_law_37 (by decide) ?_
    refine lv_isub hx hb dW_law_38 ?_
    refine lv_icmp_gt (tgt := 687) hx hb dW_law_39 (by decide) (fun _ => ?_) (fun z => absurd ((w_cmp hL (by omega)).mpr (by omega)) z)
    refine lv_iconst (v := 1) hx hb dW_law_687 (by decide) ?_
    refine va_forget (fun q hq => hW.2.2.2.2.2.2 q hq) ?_
    exact W.widen (by omega) (by omega) (lw_ret hx hb hr hlocks dW_law_688)
  | succ k ih =>
    intro t hk ht4 S H locs ls hI hl
    obtain ⟨hx, hb, hml, hown, hts⟩ := id hC
    have hbA : ¬ (fun q => s.heap.size ≤ q) b := fun z => absurd hbl (Nat.not_lt.mpr z)
    have hW := hI.1
    refine lv_iload hx hb dW_law_33 (lv_at hl 1 rfl) ?_
    refine s_aload_n (x := some b) hx hb dW_law_35 rfl (lv_at hl 0 rfl) ?_
    refine va_slen hx hb hXs hbl hbA hW.2.2.2.2 dW_law_36 ?_
    refine lv_iconst (v := 4) hx hb dW_law_37 (by decide) ?_
    refine lv_isub hx hb dW_law_38 ?_
    refine lv_icmp_gt (tgt := 687) hx hb dW_law_39 (by decide) (fun _ => ?_) (fun z => ?_)
    · refine lv_iconst (v := 1) hx hb dW_law_687 (by decide) ?_
      refine va_forget (fun q hq => hW.2.2.2.2.2.2 q hq) ?_
      exact W.widen (by omega) (by omega) (lw_ret hx hb hr hlocks dW_law_688)
    · have ht : 1 + 4 * t + 4 ≤ L := by
        rcases Nat.lt_or_ge L (1 + 4 * t + 4) with q | q
        · exact absurd ((w_cmp hL (by omega)).mpr q) z
        · exact q
      have kk : ∀ (S' : gs_S) (H' : Heap) (locs' : List Loc) (ls' : Array Slot), lw_I s G S' H' locs' x y o (t + 1) → lv_has ls' 8 [(0, .ref b), (4, .int (nI (1 + 4 * t))), (1, va_rf (some x)), (2, va_rf (some y)), (3, va_rf (some o))] → W p l e room_1 s m #[Value.ref b] below meth c H' locs' (31 + 5 * (t + 1)) (75426 + 273 * (t + 1)) (lw_Z below #[Value.ref b] s) (F0 m 681 ls' []) := fun S' H' locs' ls' hI' hl' => by
        refine lv_iinc (k := 1) (v := nI (1 + 4 * (t + 1))) (lv' := [(4, .int (nI (1 + 4 * (t + 1)))), (0, .ref b), (1, va_rf (some x)), (2, va_rf (some y)), (3, va_rf (some o))]) hx hb dW_law_681 hl' rfl (by
          show nI (1 + 4 * t) + nI 4 = _
          rw [nI_add]
          rfl) (by decide) rfl (fun ls2 hl2 => ?_)
        refine lv_goto (tgt := 33) hx hb dW_law_684 (by decide) ?_
        exact ih (t + 1) (by omega) (by omega) S' H' locs' ls2 hI' (lv_sub hl2 [1, 0, 2, 3, 4] rfl)
      refine s_aload_n (x := some b) hx hb dW_law_42 rfl (lv_at hl 0 rfl) ?_
      refine lv_iload hx hb dW_law_43 (lv_at hl 1 rfl) ?_
      have hc : (nI (1 + 4 * t)).toNatClampNeg = 1 + 4 * t := nI_clamp (by omega)
      refine va_sld hx hb hXs hbl hbA hW.2.2.2.2 (i := nI (1 + 4 * t)) (by
        intro z
        rcases z with z | z
        · exact absurd z (nI_pos (by omega))
        · rw [hc] at z; omega) dW_law_45 ?_
      refine lv_bipush (v := 15) hx hb dW_law_46 (by decide) ?_
      refine lv_iand hx hb dW_law_48 ?_
      obtain ⟨w, hw, ew⟩ := w_and (xs (nI (1 + 4 * t)).toNatClampNeg)
      rw [ew]
      have hcase : w = 0 ∨ w = 1 ∨ w = 2 ∨ w = 3 ∨ w = 4 ∨ w = 5 ∨ w = 6 ∨ w = 7 ∨ w = 8 ∨ w = 9 ∨ w = 10 ∨ w = 11 ∨ w = 12 ∨ w = 13 ∨ w = 14 ∨ w = 15 := by omega
      rcases hcase with rfl | rfl | rfl | rfl | rfl | rfl | rfl | rfl | rfl | rfl | rfl | rfl | rfl | rfl | rfl | rfl
      · exact lv_tableIn (off := 71) (tgt := 120) hx hb dW_law_49 (by decide) (by decide) rfl (by decide) (lw_0 hC hXs hbl hL ht hl hI kk)
      · exact lv_tableIn (off := 120) (tgt := 169) hx hb dW_law_49 (by decide) (by decide) rfl (by decide) (lw_1 hC hXs hbl hL ht hl hI kk)
      · exact lv_tableIn (off := 189) (tgt := 238) hx hb dW_law_49 (by decide) (by decide) rfl (by decide) (lw_2 hC hXs hbl hL ht hl hI kk)
      · exact lv_tableIn (off := 238) (tgt := 287) hx hb dW_law_49 (by decide) (by decide) rfl (by decide) (lw_3 hC hXs hbl hL ht hl hI kk)
      · exact lv_tableIn (off := 275) (tgt := 324) hx hb dW_law_49 (by decide) (by decide) rfl (by decide) (lw_4 hC hXs hbl hL ht hl hI kk)
      · exact lv_tableIn (off := 312) (tgt := 361) hx hb dW_law_49 (by decide) (by decide) rfl (by decide) (lw_5 hC hXs hbl hL ht hl hI kk)
      · exact lv_tableIn (off := 325) (tgt := 374) hx hb dW_law_49 (by decide) (by decide) rfl (by decide) (lw_6 hC hXs hbl hL ht hl hI kk)
      · exact lv_tableIn (off := 394) (tgt := 443) hx hb dW_law_49 (by decide) (by decide) rfl (by decide) (lw_7 hC hXs hbl hL ht hl hI kk)
      · exact lv_tableIn (off := 451) (tgt := 500) hx hb dW_law_49 (by decide) (by decide) rfl (by decide) (lw_8 hfl hxT hC hXs hbl hL ht hl hI kk)
      · exact lv_tableIn (off := 506) (tgt := 555) hx hb dW_law_49 (by decide) (by decide) rfl (by decide) (lw_9 hC hXs hbl hL ht hl hI kk)
      · exact lv_tableIn (off := 543) (tgt := 592) hx hb dW_law_49 (by decide) (by decide) rfl (by decide) (lw_10 hC hXs hbl hL ht hl hI kk)
      · exact lv_tableIn (off := 568) (tgt := 617) hx hb dW_law_49 (by decide) (by decide) rfl (by decide) (lw_11 hC hXs hbl hL ht hl hI kk)
      · exact lv_tableIn (off := 593) (tgt := 642) hx hb dW_law_49 (by decide) (by decide) rfl (by decide) (lw_12 hC hXs hbl hL ht hl hI kk)
      · exact lv_tableIn (off := 607) (tgt := 656) hx hb dW_law_49 (by decide) (by decide) rfl (by decide) (lw_13 hC hXs hbl hL ht hl hI kk)
      · exact lv_tableOut (tgt := 681) hx hb dW_law_49 (Or.inr (by decide)) (by decide) (W.widen (by omega) (by omega) (kk S H locs ls ⟨hI.1, rX_mono hI.2.1, hI.2.2⟩ hl))
      · exact lv_tableOut (tgt := 681) hx hb dW_law_49 (Or.inr (by decide)) (by decide) (W.widen (by omega) (by omega) (kk S H locs ls ⟨hI.1, rX_mono hI.2.1, hI.2.2⟩ hl))
/-- what a throw needs, at the law's entry -/
theorem x_start {args : Array Value} {s : State} (hts : ∀ w ∈ lw_tbl, w.before args s = true) (hg : (Jvm.Cond.and given_1 narrow_1).before args s = true) : x_T s := by
  have hs := flat_of_before _ hg
  have hstr : (Cond.stringRef "CallRows" 181 "the cell is not visible").before args s = true := hts _ (by decide +kernel)
  obtain ⟨cC, kC, hfc, -⟩ := Cond.instantiable_spec (hts (.instantiable "CallRows" 12) (by decide +kernel))
  obtain ⟨-, -, -, sa, -, -, -, -, -, hev⟩ := Cond.stringRef_spec hfc hstr
  refine ⟨⟨sa, vk_R.of hstr hev⟩, ?_⟩
  simp only [x_ws, List.forall_mem_cons]
  have q1 : (Cond.declares (Bundle.initS "java/lang/RuntimeException")).before args s = true := hts _ (by decide +kernel)
  have q2 : (Cond.declares (Bundle.initS "java/lang/Exception")).before args s = true := hts _ (by decide +kernel)
  have q3 : (Cond.declares (Bundle.initS Bundle.tN)).before args s = true := hts _ (by decide +kernel)
  have q4 : (Cond.castable "java/lang/IllegalArgumentException" "java/lang/IllegalArgumentException").before args s = true := hts _ (by decide +kernel)
  have q5 : (Cond.laysStatic Bundle.tN "UNASSIGNED_STACK" Bundle.steD).before args s = true := hts _ (by decide +kernel)
  have q6 : (Cond.laysStatic Bundle.tN "SUPPRESSED_SENTINEL" Bundle.listD).before args s = true := hts _ (by decide +kernel)
  have q7 : (Cond.isRef (.static Bundle.tN "UNASSIGNED_STACK" Bundle.steD)).before args s = true := hs _ (by decide +kernel)
  have q8 : (Cond.isRef (.static Bundle.tN "SUPPRESSED_SENTINEL" Bundle.listD)).before args s = true := hs _ (by decide +kernel)
  exact ⟨q1, q2, q3, q4, q5, q6, q7, q8, fun _ h => absurd h List.not_mem_nil⟩
set_option maxHeartbeats 4000000 in
set_option maxRecDepth 100000 in
theorem whole_start {p : Program} {e : Env} {s : State} {m : MethodId} {below : List Frame} {meth : Method} {c : Code} (l : Launch) (hfl : l.flags = flags0) {b L : Nat} {xs : Nat → Int32} (hL : L ≤ 2049) (C0 : lw_At p s m meth c b L xs) : W p l e room_1 s m #[Value.ref b] below meth c s.heap [] 0 0 (lw_Z below #[Value.ref b] s) (entryFrame m ([Value.ref b] : List Value).toArray 8) := by
  obtain ⟨hx, hb, hr, hml, hown, htb, hXs, hbl, hlocks, hg⟩ := C0
  have hxT := x_start htb hg
  obtain ⟨G, hK⟩ := k_start htb
  have hC : CallFix p m c code 8 s #[Value.ref b] gU "CallRowsLaw" := ⟨hx, hb, hml, hown, fun w hw => htb w (List.mem_filter.mp hw).1⟩
  have hts := hC.2.2.2.2
  have hW : g_W G (fun q => s.heap.size ≤ q) s s_0 s.heap [] := ⟨hK, fun a e1 he => absurd he (by unfold g_E; simp [g_sh, s_0]), fun a h => absurd rfl h, fun q h => h, va_S.rf⟩
  have hl := lv_entry [Value.ref b] (n := 8) (Nat.le_of_ble_eq_true rfl)
  rw [lg_entry_eq]
  generalize (lg_sl [Value.ref b] ++ List.replicate (8 - (lg_sl [Value.ref b]).length) Slot.unset).toArray = ls at hl ⊢
  have hl : lv_has ls 8 [(0, va_rf (some b))] := hl
  have hbA : ¬ (fun q => s.heap.size ≤ q) b := fun z => absurd hbl (Nat.not_lt.mpr z)
  have hbS : ∀ {S : gs_S} {H : Heap} {locs : List Loc}, g_W G (fun q => s.heap.size ≤ q) s S H locs → g_sh S b = none := fun {S H locs} hW => by
    cases hz : g_sh S b with
    | none => rfl
    | some z => exact absurd (hW.2.2.1 b (by rw [hz]; simp)) hbA
  have hpre : ∀ {S : gs_S} {H : Heap} {locs : List Loc}, g_W G (fun q => s.heap.size ≤ q) s S H locs → PreS s H (fun a U => g_Pc G S H.size [.ref b, .int 0] a U ∧ va_X b L xs U U.heap ∧ b < U.heap.size) [.ref b, .int 0] := fun {S H locs} hW => ⟨fun a U g mk q => by
      obtain ⟨⟨q0, q1, qP, qK⟩, qx, ql⟩ := q
      exact ⟨⟨q0, q1, qP, g_K.moved (u := U) (U := U.calling g mk a) (Vm.Alike.refl U.vm) qK⟩, va_X.moved (u := U) (U := U.calling g mk a) (Vm.Alike.refl U.vm) qx, ql⟩, fun U hU hWm => ⟨⟨rfl, by rw [hU], by rw [hU]; exact hW.2.1, g_K.moved hWm.alike hW.1⟩, va_X.moved hWm.alike (hXs.kept (by rw [hU]; exact hW.2.2.2.2.2.1 b hbl hbA)), by rw [hU]; exact Nat.lt_of_lt_of_le hbl hW.2.2.2.2.1⟩⟩
  refine s_new hC hW gc_R iw_R uw_10 uw_11 uw_1 gd_R (Nat.le_of_ble_eq_true rfl) (Nat.le_of_ble_eq_true rfl) dW_law_0 (fun x H fx hW => ?_)
  refine lv_dup hx hb dW_law_3 rfl ?_
  refine s_aload_n (x := some b) hx hb dW_law_4 rfl (lv_at hl 0 rfl) ?_
  refine lv_iconst (v := 0) hx hb dW_law_5 (by decide) ?_
  refine s_calli hW (s_runS (n := 2) (As := [.ref b, .int 0]) (rest := [.ref x, .ref x]) hC (c_W_cell l G _ H.size b L xs hL (hbS hW)) uc_W_cell uw_305 uw_306 uw_0 rfl rfl (by decide +kernel) ⟨by decide, by decide⟩ (hpre hW) rfl hl.1 rfl (Nat.le_of_ble_eq_true rfl) dW_law_6 ⟨Nat.le_of_ble_eq_true rfl, Nat.le_of_ble_eq_true rfl⟩) (fun d S1 H locs hp hW => ?_)
  obtain ⟨hs1, ed⟩ := hp
  subst hs1
  refine s_callv hW (s_runI (n := 1) (As := [.int d]) (rest := [.ref x]) hC (c_R_init l G (p_new s_0 2 x) H.size x d g_sh_new) uc_R_init uw_12 uw_13 uw_1 rfl rfl rfl (by decide +kernel) ⟨by decide, by decide⟩ (g_preS hW (.ref x :: [.int d])) rfl hl.1 rfl (Nat.le_of_ble_eq_true rfl) dW_law_9 ⟨Nat.le_of_ble_eq_true rfl, Nat.le_of_ble_eq_true rfl⟩) (fun S2 H locs hp hW => ?_)
  obtain ⟨pa, ow, fv, ex, q, h1, pl, bb, va, hf, hs2⟩ := hp
  have hR := st_1 (d := d) hf
  rw [← hs2] at hR
  refine s_astore_n (x := some x) (lv' := [(1, va_rf (some x)), (0, va_rf (some b))]) hx hb dW_law_12 rfl hl (by decide) rfl (fun ls hl => ?_)
  refine s_new hC hW gc_M iw_M uw_382 uw_383 uw_4 gd_M (Nat.le_of_ble_eq_true rfl) (Nat.le_of_ble_eq_true rfl) dW_law_13 (fun y H fy hW => ?_)
  refine lv_dup hx hb dW_law_16 rfl ?_
  refine s_aload_n (x := some b) hx hb dW_law_17 rfl (lv_at hl 1 rfl) ?_
  refine lv_iconst (v := 0) hx hb dW_law_18 (by decide) ?_
  refine s_calli hW (s_runS (n := 2) (As := [.ref b, .int 0]) (rest := [.ref y, .ref y]) hC (c_W_cell l G _ H.size b L xs hL (hbS hW)) uc_W_cell uw_305 uw_306 uw_0 rfl rfl (by decide +kernel) ⟨by decide, by decide⟩ (hpre hW) rfl hl.1 rfl (Nat.le_of_ble_eq_true rfl) dW_law_19 ⟨Nat.le_of_ble_eq_true rfl, Nat.le_of_ble_eq_true rfl⟩) (fun d2 S3 H locs hp hW => ?_)
  obtain ⟨hs3, ed2⟩ := hp
  subst hs3
  have edd : d2 = d := ed2.trans ed.symm
  rw [edd]
  refine s_callv hW (s_runI (n := 1) (As := [.int d]) (rest := [.ref y]) hC (c_M_init l G (p_new S2 3 y) H.size y d g_sh_new) uc_M_init uw_384 uw_385 uw_4 rfl rfl rfl (by decide +kernel) ⟨by decide, by decide⟩ (g_preS hW (.ref y :: [.int d])) rfl hl.1 rfl (Nat.le_of_ble_eq_true rfl) dW_law_22 ⟨Nat.le_of_ble_eq_true rfl, Nat.le_of_ble_eq_true rfl⟩) (fun S4 H locs hp hW => ?_)
  have hr4 := st_2 hR fy hp
  refine s_astore_n (x := some y) (lv' := [(2, va_rf (some y)), (1, va_rf (some x)), (0, va_rf (some b))]) hx hb dW_law_25 rfl hl (by decide) rfl (fun ls hl => ?_)
  refine lv_iconst (v := 1) hx hb dW_law_26 (by decide) ?_
  refine s_newL (n := 1) hC hW 2 rfl rfl uw_63 (by decide) (by decide) (by decide) (Nat.le_of_ble_eq_true rfl) (Nat.le_of_ble_eq_true rfl) dW_law_27 (fun o H fo hW => ?_)
  refine s_astore_n (x := some o) (lv' := [(3, va_rf (some o)), (2, va_rf (some y)), (1, va_rf (some x)), (0, va_rf (some b))]) hx hb dW_law_29 rfl hl (by decide) rfl (fun ls hl => ?_)
  refine lv_iconst (v := 1) hx hb dW_law_30 (by decide) ?_
  refine lv_istore (lv' := [(4, .int 1), (3, va_rf (some o)), (2, va_rf (some y)), (1, va_rf (some x)), (0, va_rf (some b))]) hx hb dW_law_31 hl (by decide) rfl (fun ls hl => ?_)
  refine W.widen (k := 31 + 5 * 0) (n := 75426 + 273 * 0) (by decide) (by decide) ?_
  exact lw_loop hfl hxT hC hXs hbl hL hr hlocks (L + 1) 0 (by omega) (by omega) _ _ _ _ ⟨hW, ⟨_, _, _, _, st_o hr4 fo⟩, g_sh_newA⟩ (lv_sub hl [4, 0, 3, 2, 1] rfl)
