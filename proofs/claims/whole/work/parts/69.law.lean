/-! THE LAW'S CASE 8: get -/
theorem x_HL {G : gs_G} {S : gs_S} {s : State} {H : Heap} {locs : List Loc} (hW : g_W G (fun q => s.heap.size ≤ q) s S H locs) : x_H s.heap H := by
  intro a cell hc _
  have hlt := (Array.getElem?_eq_some_iff.mp hc).1
  rw [hW.2.2.2.2.2.1 a hlt (fun z => absurd hlt (Nat.not_lt.mpr z))]
  exact hc
set_option maxHeartbeats 4000000 in
set_option maxRecDepth 100000 in
theorem lw_8 {p : Program} {e : Env} {s : State} {m : MethodId} {below : List Frame} {meth : Method} {c : Code} {l : Launch} {b L : Nat} {xs : Nat → Int32} {H : Heap} {locs : List Loc} {Q : State → Prop} {ls : Array Slot} {G : gs_G} {S : gs_S} {x y o t : Nat} (hfl : l.flags = pinnedFlags ++ [noTraceFlag]) (hxT : x_T s) (hC : CallFix p m c code 8 s #[Value.ref b] gU "CallRowsLaw") (hXs : va_X b L xs s s.heap) (hbl : b < s.heap.size) (hL : L ≤ 2049) (ht : 1 + 4 * t + 4 ≤ L) (hl : lv_has ls 8 [(0, .ref b), (4, .int (nI (1 + 4 * t))), (1, va_rf (some x)), (2, va_rf (some y)), (3, va_rf (some o))]) (hI : lw_I s G S H locs x y o t)
    (kk : ∀ (S' : gs_S) (H' : Heap) (locs' : List Loc) (ls' : Array Slot), lw_I s G S' H' locs' x y o (t + 1) → lv_has ls' 8 [(0, .ref b), (4, .int (nI (1 + 4 * t))), (1, va_rf (some x)), (2, va_rf (some y)), (3, va_rf (some o))] → W p l e room_1 s m #[Value.ref b] below meth c H' locs' (31 + 5 * (t + 1)) (75426 + 273 * (t + 1)) Q (F0 m 681 ls' [])) : W p l e room_1 s m #[Value.ref b] below meth c H locs (31 + 5 * t) (75426 + 273 * t) Q (F0 m 500 ls []) := by
  obtain ⟨hW, ⟨P, L0, D, N, h⟩, hO⟩ := hI
  have ht5 : t < 512 := by omega
  have hbA : ¬ (fun q => s.heap.size ≤ q) b := fun z => absurd hbl (Nat.not_lt.mpr z)
  obtain ⟨hx, hb, hml, hown, hts⟩ := id hC
  obtain ⟨hWT, hM, hX, hY⟩ := h.1
  refine s_aload_n (x := some x) hx hb dW_law_500 rfl (lv_at hl 2 rfl) ?_
  refine w_arg hx hb hXs hbl hbA hW.2.2.2.2 hl (k0 := 0) (k4 := 1) (j := 1) rfl rfl (by omega) hL dW_law_501 dW_law_502 dW_law_504 rfl dW_law_505 dW_law_506 ?_
  refine s_aload_n (x := some o) hx hb dW_law_507 rfl (lv_at hl 4 rfl) ?_
  generalize hn : xs (1 + 4 * t + 1) = n
  refine s_calli hW (s_runSW (n := 3) (As := [va_rf (some x), .int n, va_rf (some o)]) (rest := []) hC (c_W_get l hfl G S H.size x o n hWT hX hO) uc_W_get uw_308 uw_309 uw_0 rfl rfl (by decide) (by decide +kernel) ⟨by decide, by decide⟩ ⟨fun a U g mk q => by
      obtain ⟨⟨q0, q1, qP, qK⟩, qx⟩ := q
      exact ⟨⟨q0, q1, qP, g_K.moved (u := U) (U := U.calling g mk a) (Vm.Alike.refl U.vm) qK⟩, x_T.moved (s := U) (U := U.calling g mk a) (State.WarmedH.refl U) (fun _ _ h _ => h) qx⟩, fun U hU hWm => ⟨⟨rfl, by rw [hU], by rw [hU]; exact hW.2.1, g_K.moved hWm.alike hW.1⟩, x_T.moved hWm (by rw [hU]; exact x_HL hW) hxT⟩⟩ rfl hl.1 rfl (Nat.le_of_ble_eq_true rfl) dW_law_508 ⟨by show 31 + 5 * t + 1 ≤ 601024; omega, by show 75426 + 273 * t + 6 ≤ 7293000; omega⟩) (fun r1 S1 H locs hp hW => ?_)
  have hs1 : r_R S1 x y t P L0 D N ∧ f_get S1 x n = f_get S x n ∧ g_sh S1 o = some (.inr (2, 1)) ∧ ((f_get S x n = none ∧ r1 = 1) ∨ ∃ v, f_get S x n = some v ∧ r1 = 0 ∧ g_al S1 2 o 0 = v) := by
    rcases hp with ⟨q1, q2, q3⟩ | ⟨v, q1, q2, q3⟩
    · rw [q3]; exact ⟨h, rfl, hO, Or.inl ⟨q1, q2⟩⟩
    · rw [q3]; exact ⟨r_out h hO v, f_get_o _ _ _ _ _, hO, Or.inr ⟨v, q1, q2, by rw [rd_al, if_pos rfl]⟩⟩
  obtain ⟨h1, eg, hO1, hr1⟩ := hs1
  obtain ⟨hWT1, hM1, hX1, hY1⟩ := h1.1
  obtain ⟨hz, hz2⟩ := z_get h1 n
  refine lv_istore (lv' := [(5, .int r1), (0, .ref b), (4, .int (nI (1 + 4 * t))), (1, va_rf (some x)), (2, va_rf (some y)), (3, va_rf (some o))]) hx hb dW_law_511 hl (by decide) rfl (fun ls hl => ?_)
  refine s_aload_n (x := some y) hx hb dW_law_513 rfl (lv_at hl 4 rfl) ?_
  refine w_arg hx hb hXs hbl hbA hW.2.2.2.2 hl (k0 := 1) (k4 := 2) (j := 1) rfl rfl (by omega) hL dW_law_514 dW_law_515 dW_law_517 rfl dW_law_518 dW_law_519 ?_
  rw [hn]
  refine s_calll hW (s_runV (n := 1) (As := [.int n]) (rest := []) hC (c_M_get l G S1 H.size y n hM1 hY1) uc_M_get uw_539 uw_540 uw_541 uw_4 rfl rfl (by decide +kernel) ⟨by decide, by decide⟩ (g_preV hW gc_M hY1 [.int n]) rfl hl.1 rfl (Nat.le_of_ble_eq_true rfl) dW_law_520 ⟨by show 31 + 5 * t + 1 + 0 ≤ 601024; omega, by show 75426 + 273 * t + 6 + 0 ≤ 7293000; omega⟩) (fun v2 S2 H locs hp hW => ?_)
  obtain ⟨ev2, hs2⟩ := hp
  have eal : g_al S2 2 o 0 = g_al S1 2 o 0 := by
    rw [hs2]
    unfold f_getM
    split <;> rfl
  have ho2 : g_sh S2 o = some (.inr (2, 1)) := by rw [hs2]; exact (h_ge S1 y n o).trans hO1
  rw [← hs2, ← ev2] at hz
  rw [← hs2] at hz2
  obtain ⟨hWT2, hM2, hX2, hY2⟩ := hz2.1
  refine lv_lstore (lv' := [(6, .long v2), (5, .int r1), (0, .ref b), (4, .int (nI (1 + 4 * t))), (1, va_rf (some x)), (2, va_rf (some y)), (3, va_rf (some o))]) hx hb dW_law_523 hl (by decide) rfl (fun ls hl => ?_)
  refine s_aload_n (x := some y) hx hb dW_law_525 rfl (lv_at hl 5 rfl) ?_
  refine s_calli hW (s_runV (n := 0) (As := []) (rest := []) hC (c_M_thrown l G S2 H.size y hM2 hY2) uc_M_thrown uw_479 uw_480 uw_481 uw_4 rfl rfl (by decide +kernel) ⟨by decide, by decide⟩ (g_preV hW gc_M hY2 []) rfl hl.1 rfl (Nat.le_of_ble_eq_true rfl) dW_law_526 ⟨by show 31 + 5 * t + 1 + 0 + 0 ≤ 601024; omega, by show 75426 + 273 * t + 6 + 0 + 0 ≤ 7293000; omega⟩) (fun r3 S3 H locs hp hW => ?_)
  obtain ⟨hs3, er3⟩ := hp
  rw [hs3] at hW
  have heq : r3 = r1 ∧ (r1 = 0 → g_al S2 2 o 0 = v2) := by
    rw [er3, eal]
    rcases hz with ⟨g1, g2⟩ | ⟨g1, g2⟩
    · rw [g2]
      rcases hr1 with ⟨q1, q2⟩ | ⟨v, q1, -⟩
      · rw [q2]; exact ⟨rfl, fun z => absurd z (by decide)⟩
      · rw [eg, q1] at g1; cases g1
    · rw [g2]
      rcases hr1 with ⟨q1, -⟩ | ⟨v, q1, q2, q3⟩
      · rw [eg, q1] at g1; cases g1
      · rw [eg, q1] at g1
        rw [q2, q3]
        exact ⟨rfl, fun _ => Option.some.inj g1⟩
  have fin : ∀ ls : Array Slot, lv_has ls 8 [(6, .long v2), (5, .int r1), (0, .ref b), (4, .int (nI (1 + 4 * t))), (1, va_rf (some x)), (2, va_rf (some y)), (3, va_rf (some o))] → W p l e room_1 s m #[Value.ref b] below meth c H locs (31 + 5 * t + 1 + 0 + 0) (75426 + 273 * t + 6 + 0 + 0) Q (F0 m 552 ls []) := fun ls hl => by
    refine lv_goto (tgt := 681) hx hb dW_law_552 (by decide) ?_
    refine W.widen (k := 31 + 5 * (t + 1)) (n := 75426 + 273 * (t + 1)) (by omega) (by omega) ?_
    exact kk _ _ _ _ ⟨hW, ⟨P, L0, D, N, hz2⟩, ho2⟩ (lv_sub hl [2, 3, 4, 5, 6] rfl)
  refine lv_iload hx hb dW_law_529 (lv_at hl 1 rfl) ?_
  refine lv_icmp_eq (tgt := 536) hx hb dW_law_531 (by decide) (fun _ => ?_) (fun z => absurd heq.1 z)
  refine lv_iload hx hb dW_law_536 (lv_at hl 1 rfl) ?_
  refine lv_if_ne (tgt := 552) hx hb dW_law_538 (by decide) (fun _ => fin ls hl) (fun z0 => ?_)
  refine s_aload_n (x := some o) hx hb dW_law_541 rfl (lv_at hl 6 rfl) ?_
  refine lv_iconst (v := 0) hx hb dW_law_542 (by decide) ?_
  refine k_lald hC hW ho2 rfl rfl (by decide) 0 rfl (by decide) (heq.2 z0) dW_law_543 ?_
  refine lv_lload hx hb dW_law_544 (lv_at hl 0 rfl) ?_
  refine W.lcmp hx hb dW_law_546 ?_
  exact lv_if_eq (tgt := 552) hx hb dW_law_547 (by decide) (fun _ => fin ls hl) (fun z => absurd (by unfold lg_cmp; rw [if_neg (Int64.lt_irrefl), if_pos rfl]) z)
