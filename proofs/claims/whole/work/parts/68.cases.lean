/-! THE LAW'S CASES -/
set_option maxHeartbeats 4000000 in
set_option maxRecDepth 100000 in
theorem lw_0 {p : Program} {e : Env} {s : State} {m : MethodId} {below : List Frame} {meth : Method} {c : Code} {l : Launch} {b L : Nat} {xs : Nat → Int32} {H : Heap} {locs : List Loc} {Q : State → Prop} {ls : Array Slot} {G : gs_G} {S : gs_S} {x y o t : Nat} (hC : CallFix p m c code 8 s #[Value.ref b] gU "CallRowsLaw") (hXs : va_X b L xs s s.heap) (hbl : b < s.heap.size) (hL : L ≤ 2049) (ht : 1 + 4 * t + 4 ≤ L) (hl : lv_has ls 8 [(0, .ref b), (4, .int (nI (1 + 4 * t))), (1, va_rf (some x)), (2, va_rf (some y)), (3, va_rf (some o))]) (hI : lw_I s G S H locs x y o t)
    (kk : ∀ (S' : gs_S) (H' : Heap) (locs' : List Loc) (ls' : Array Slot), lw_I s G S' H' locs' x y o (t + 1) → lv_has ls' 8 [(0, .ref b), (4, .int (nI (1 + 4 * t))), (1, va_rf (some x)), (2, va_rf (some y)), (3, va_rf (some o))] → W p l e room_1 s m #[Value.ref b] below meth c H' locs' (31 + 5 * (t + 1)) (75426 + 273 * (t + 1)) Q (F0 m 681 ls' [])) : W p l e room_1 s m #[Value.ref b] below meth c H locs (31 + 5 * t) (75426 + 273 * t) Q (F0 m 120 ls []) := by
  obtain ⟨hW, ⟨P, L0, D, N, h⟩, hO⟩ := hI
  have ht5 : t < 512 := by omega
  have hbA : ¬ (fun q => s.heap.size ≤ q) b := fun z => absurd hbl (Nat.not_lt.mpr z)
  obtain ⟨hx, hb, hml, hown, hts⟩ := id hC
  obtain ⟨hWT, hM, hX, hY⟩ := h.1
  refine s_aload_n (x := some x) hx hb dW_law_120 rfl (lv_at hl 2 rfl) ?_
  refine w_arg hx hb hXs hbl hbA hW.2.2.2.2 hl (k0 := 0) (k4 := 1) (j := 1) rfl rfl (by omega) hL dW_law_121 dW_law_122 dW_law_124 rfl dW_law_125 dW_law_126 ?_
  refine w_arg hx hb hXs hbl hbA hW.2.2.2.2 hl (k0 := 0) (k4 := 1) (j := 2) rfl rfl (by omega) hL dW_law_127 dW_law_128 dW_law_130 rfl dW_law_131 dW_law_132 ?_
  refine w_arg hx hb hXs hbl hbA hW.2.2.2.2 hl (k0 := 0) (k4 := 1) (j := 3) rfl rfl (by omega) hL dW_law_133 dW_law_134 dW_law_136 rfl dW_law_137 dW_law_138 ?_
  refine s_calli hW (s_runV (n := 3) (As := [.int (xs (1 + 4 * t + 1)), .int (xs (1 + 4 * t + 2)), .int (xs (1 + 4 * t + 3))]) (rest := []) hC (c_R_program l G S H.size x (xs (1 + 4 * t + 1)) (xs (1 + 4 * t + 2)) (xs (1 + 4 * t + 3)) hWT hX) uc_R_program uw_109 uw_110 uw_111 uw_1 rfl rfl (by decide +kernel) ⟨by decide, by decide⟩ (g_preV hW gc_R hX [.int (xs (1 + 4 * t + 1)), .int (xs (1 + 4 * t + 2)), .int (xs (1 + 4 * t + 3))]) rfl hl.1 rfl (Nat.le_of_ble_eq_true rfl) dW_law_139 ⟨by show 31 + 5 * t + 3 ≤ 601024; omega, by show 75426 + 273 * t + 41 ≤ 7293000; omega⟩) (fun r1 S1 H locs hp hW => ?_)
  have hz := z_program h hp
  have hk := k_program hM hp
  have hM1 := hk.1
  have hY1 := hk.2.1 y _ hY
  have hO1 := hk.2.1 o _ hO
  refine s_aload_n (x := some y) hx hb dW_law_142 rfl (lv_at hl 3 rfl) ?_
  refine w_arg hx hb hXs hbl hbA hW.2.2.2.2 hl (k0 := 0) (k4 := 1) (j := 1) rfl rfl (by omega) hL dW_law_143 dW_law_144 dW_law_146 rfl dW_law_147 dW_law_148 ?_
  refine w_arg hx hb hXs hbl hbA hW.2.2.2.2 hl (k0 := 0) (k4 := 1) (j := 2) rfl rfl (by omega) hL dW_law_149 dW_law_150 dW_law_152 rfl dW_law_153 dW_law_154 ?_
  refine w_arg hx hb hXs hbl hbA hW.2.2.2.2 hl (k0 := 0) (k4 := 1) (j := 3) rfl rfl (by omega) hL dW_law_155 dW_law_156 dW_law_158 rfl dW_law_159 dW_law_160 ?_
  refine s_calli hW (s_runV (n := 3) (As := [.int (xs (1 + 4 * t + 1)), .int (xs (1 + 4 * t + 2)), .int (xs (1 + 4 * t + 3))]) (rest := [.int r1]) hC (c_M_program l G S1 H.size y (xs (1 + 4 * t + 1)) (xs (1 + 4 * t + 2)) (xs (1 + 4 * t + 3)) hM1 hY1) uc_M_program uw_483 uw_484 uw_485 uw_4 rfl rfl (by decide +kernel) ⟨by decide, by decide⟩ (g_preV hW gc_M hY1 [.int (xs (1 + 4 * t + 1)), .int (xs (1 + 4 * t + 2)), .int (xs (1 + 4 * t + 3))]) rfl hl.1 rfl (Nat.le_of_ble_eq_true rfl) dW_law_161 ⟨by show 31 + 5 * t + 3 + 0 ≤ 601024; omega, by show 75426 + 273 * t + 41 + 0 ≤ 7293000; omega⟩) (fun r2 S2 H locs hp hW => ?_)
  obtain ⟨er2, hs2⟩ := hp
  have heq : r1 = r2 := by rw [er2]; exact hz.1
  have hr : r_X S2 x y (t + 1) := by rw [hs2]; exact hz.2
  have ho2 : g_sh S2 o = some (.inr (2, 1)) := by rw [hs2]; exact (h_pr (m_0 S1 y) y _ _ _ o).trans hO1
  refine lv_icmp_eq (tgt := 681) hx hb dW_law_164 (by decide) (fun _ => ?_) (fun z => absurd heq z)
  refine W.widen (k := 31 + 5 * (t + 1)) (n := 75426 + 273 * (t + 1)) (by omega) (by omega) ?_
  exact kk _ _ _ _ ⟨hW, hr, ho2⟩ hl
set_option maxHeartbeats 4000000 in
set_option maxRecDepth 100000 in
theorem lw_1 {p : Program} {e : Env} {s : State} {m : MethodId} {below : List Frame} {meth : Method} {c : Code} {l : Launch} {b L : Nat} {xs : Nat → Int32} {H : Heap} {locs : List Loc} {Q : State → Prop} {ls : Array Slot} {G : gs_G} {S : gs_S} {x y o t : Nat} (hC : CallFix p m c code 8 s #[Value.ref b] gU "CallRowsLaw") (hXs : va_X b L xs s s.heap) (hbl : b < s.heap.size) (hL : L ≤ 2049) (ht : 1 + 4 * t + 4 ≤ L) (hl : lv_has ls 8 [(0, .ref b), (4, .int (nI (1 + 4 * t))), (1, va_rf (some x)), (2, va_rf (some y)), (3, va_rf (some o))]) (hI : lw_I s G S H locs x y o t)
    (kk : ∀ (S' : gs_S) (H' : Heap) (locs' : List Loc) (ls' : Array Slot), lw_I s G S' H' locs' x y o (t + 1) → lv_has ls' 8 [(0, .ref b), (4, .int (nI (1 + 4 * t))), (1, va_rf (some x)), (2, va_rf (some y)), (3, va_rf (some o))] → W p l e room_1 s m #[Value.ref b] below meth c H' locs' (31 + 5 * (t + 1)) (75426 + 273 * (t + 1)) Q (F0 m 681 ls' [])) : W p l e room_1 s m #[Value.ref b] below meth c H locs (31 + 5 * t) (75426 + 273 * t) Q (F0 m 169 ls []) := by
  obtain ⟨hW, ⟨P, L0, D, N, h⟩, hO⟩ := hI
  have ht5 : t < 512 := by omega
  have hbA : ¬ (fun q => s.heap.size ≤ q) b := fun z => absurd hbl (Nat.not_lt.mpr z)
  obtain ⟨hx, hb, hml, hown, hts⟩ := id hC
  obtain ⟨hWT, hM, hX, hY⟩ := h.1
  refine s_aload_n (x := some x) hx hb dW_law_169 rfl (lv_at hl 2 rfl) ?_
  refine w_arg hx hb hXs hbl hbA hW.2.2.2.2 hl (k0 := 0) (k4 := 1) (j := 1) rfl rfl (by omega) hL dW_law_170 dW_law_171 dW_law_173 rfl dW_law_174 dW_law_175 ?_
  refine w_arg hx hb hXs hbl hbA hW.2.2.2.2 hl (k0 := 0) (k4 := 1) (j := 2) rfl rfl (by omega) hL dW_law_176 dW_law_177 dW_law_179 rfl dW_law_180 dW_law_181 ?_
  refine lv_i2l hx hb dW_law_182 rfl ?_
  refine lv_bipush (v := 32) hx hb dW_law_183 (by decide) ?_
  refine lv_lshl hx hb dW_law_185 rfl ?_
  refine w_arg hx hb hXs hbl hbA hW.2.2.2.2 hl (k0 := 0) (k4 := 1) (j := 3) rfl rfl (by omega) hL dW_law_186 dW_law_187 dW_law_189 rfl dW_law_190 dW_law_191 ?_
  refine lv_i2l hx hb dW_law_192 rfl ?_
  refine lv_ldc2 (v := 4294967295) hx hb hown (hts _ uw_598) dW_law_193 ?_
  refine lv_land hx hb dW_law_196 ?_
  refine lv_lor hx hb dW_law_197 ?_
  refine lv_topl (fun v_197 ev_197 => ?_)
  refine s_calli hW (s_runV (n := 2) (As := [.int (xs (1 + 4 * t + 1)), .long v_197]) (rest := []) hC (c_R_cell l G S H.size x (xs (1 + 4 * t + 1)) (v_197) hWT hX) uc_R_cell uw_162 uw_163 uw_164 uw_1 rfl rfl (by decide +kernel) ⟨by decide, by decide⟩ (g_preV hW gc_R hX [.int (xs (1 + 4 * t + 1)), .long v_197]) rfl hl.1 rfl (Nat.le_of_ble_eq_true rfl) dW_law_198 ⟨by show 31 + 5 * t + 0 ≤ 601024; omega, by show 75426 + 273 * t + 0 ≤ 7293000; omega⟩) (fun r1 S1 H locs hp hW => ?_)
  obtain ⟨er1, hs⟩ := hp
  have hk : k_X S S1 := by rw [hs]; exact k_FX hM (k_cell S x (xs (1 + 4 * t + 1)) (v_197))
  have hM1 := hk.1
  have hY1 := hk.2.1 y _ hY
  have hO1 := hk.2.1 o _ hO
  refine s_aload_n (x := some y) hx hb dW_law_201 rfl (lv_at hl 3 rfl) ?_
  refine w_arg hx hb hXs hbl hbA hW.2.2.2.2 hl (k0 := 0) (k4 := 1) (j := 1) rfl rfl (by omega) hL dW_law_202 dW_law_203 dW_law_205 rfl dW_law_206 dW_law_207 ?_
  refine w_arg hx hb hXs hbl hbA hW.2.2.2.2 hl (k0 := 0) (k4 := 1) (j := 2) rfl rfl (by omega) hL dW_law_208 dW_law_209 dW_law_211 rfl dW_law_212 dW_law_213 ?_
  refine lv_i2l hx hb dW_law_214 rfl ?_
  refine lv_bipush (v := 32) hx hb dW_law_215 (by decide) ?_
  refine lv_lshl hx hb dW_law_217 rfl ?_
  refine w_arg hx hb hXs hbl hbA hW.2.2.2.2 hl (k0 := 0) (k4 := 1) (j := 3) rfl rfl (by omega) hL dW_law_218 dW_law_219 dW_law_221 rfl dW_law_222 dW_law_223 ?_
  refine lv_i2l hx hb dW_law_224 rfl ?_
  refine lv_ldc2 (v := 4294967295) hx hb hown (hts _ uw_598) dW_law_225 ?_
  refine lv_land hx hb dW_law_228 ?_
  refine lv_lor hx hb dW_law_229 ?_
  refine lv_topl (fun v_229 ev_229 => ?_)
  have hvv : v_229 = v_197 := ev_229.trans ev_197.symm
  rw [hvv]
  refine s_calli hW (s_runV (n := 2) (As := [.int (xs (1 + 4 * t + 1)), .long v_197]) (rest := [.int r1]) hC (c_M_cell l G S1 H.size y (xs (1 + 4 * t + 1)) (v_197) hM1 hY1) uc_M_cell uw_494 uw_495 uw_496 uw_4 rfl rfl (by decide +kernel) ⟨by decide, by decide⟩ (g_preV hW gc_M hY1 [.int (xs (1 + 4 * t + 1)), .long v_197]) rfl hl.1 rfl (Nat.le_of_ble_eq_true rfl) dW_law_230 ⟨by show 31 + 5 * t + 0 + 0 ≤ 601024; omega, by show 75426 + 273 * t + 0 + 0 ≤ 7293000; omega⟩) (fun r2 S2 H locs hp hW => ?_)
  obtain ⟨er2, hs2⟩ := hp
  have hz := z_cell h (xs (1 + 4 * t + 1)) (v_197)
  rw [← hs] at hz
  have heq : r1 = r2 := by rw [er1, er2]; exact hz.1
  have hr : r_X S2 x y (t + 1) := by rw [hs2]; exact hz.2
  have ho2 : g_sh S2 o = some (.inr (2, 1)) := by rw [hs2]; exact (h_ce (m_0 S1 y) y _ _ o).trans hO1
  refine lv_icmp_eq (tgt := 681) hx hb dW_law_233 (by decide) (fun _ => ?_) (fun z => absurd heq z)
  refine W.widen (k := 31 + 5 * (t + 1)) (n := 75426 + 273 * (t + 1)) (by omega) (by omega) ?_
  exact kk _ _ _ _ ⟨hW, hr, ho2⟩ hl
set_option maxHeartbeats 4000000 in
set_option maxRecDepth 100000 in
theorem lw_2 {p : Program} {e : Env} {s : State} {m : MethodId} {below : List Frame} {meth : Method} {c : Code} {l : Launch} {b L : Nat} {xs : Nat → Int32} {H : Heap} {locs : List Loc} {Q : State → Prop} {ls : Array Slot} {G : gs_G} {S : gs_S} {x y o t : Nat} (hC : CallFix p m c code 8 s #[Value.ref b] gU "CallRowsLaw") (hXs : va_X b L xs s s.heap) (hbl : b < s.heap.size) (hL : L ≤ 2049) (ht : 1 + 4 * t + 4 ≤ L) (hl : lv_has ls 8 [(0, .ref b), (4, .int (nI (1 + 4 * t))), (1, va_rf (some x)), (2, va_rf (some y)), (3, va_rf (some o))]) (hI : lw_I s G S H locs x y o t)
    (kk : ∀ (S' : gs_S) (H' : Heap) (locs' : List Loc) (ls' : Array Slot), lw_I s G S' H' locs' x y o (t + 1) → lv_has ls' 8 [(0, .ref b), (4, .int (nI (1 + 4 * t))), (1, va_rf (some x)), (2, va_rf (some y)), (3, va_rf (some o))] → W p l e room_1 s m #[Value.ref b] below meth c H' locs' (31 + 5 * (t + 1)) (75426 + 273 * (t + 1)) Q (F0 m 681 ls' [])) : W p l e room_1 s m #[Value.ref b] below meth c H locs (31 + 5 * t) (75426 + 273 * t) Q (F0 m 238 ls []) := by
  obtain ⟨hW, ⟨P, L0, D, N, h⟩, hO⟩ := hI
  have ht5 : t < 512 := by omega
  have hbA : ¬ (fun q => s.heap.size ≤ q) b := fun z => absurd hbl (Nat.not_lt.mpr z)
  obtain ⟨hx, hb, hml, hown, hts⟩ := id hC
  obtain ⟨hWT, hM, hX, hY⟩ := h.1
  refine s_aload_n (x := some x) hx hb dW_law_238 rfl (lv_at hl 2 rfl) ?_
  refine w_arg hx hb hXs hbl hbA hW.2.2.2.2 hl (k0 := 0) (k4 := 1) (j := 1) rfl rfl (by omega) hL dW_law_239 dW_law_240 dW_law_242 rfl dW_law_243 dW_law_244 ?_
  refine w_arg hx hb hXs hbl hbA hW.2.2.2.2 hl (k0 := 0) (k4 := 1) (j := 2) rfl rfl (by omega) hL dW_law_245 dW_law_246 dW_law_248 rfl dW_law_249 dW_law_250 ?_
  refine w_arg hx hb hXs hbl hbA hW.2.2.2.2 hl (k0 := 0) (k4 := 1) (j := 3) rfl rfl (by omega) hL dW_law_251 dW_law_252 dW_law_254 rfl dW_law_255 dW_law_256 ?_
  refine s_calli hW (s_runV (n := 3) (As := [.int (xs (1 + 4 * t + 1)), .int (xs (1 + 4 * t + 2)), .int (xs (1 + 4 * t + 3))]) (rest := []) hC (c_R_formal l G S H.size x (xs (1 + 4 * t + 1)) (xs (1 + 4 * t + 2)) (xs (1 + 4 * t + 3)) hWT hX) uc_R_formal uw_178 uw_179 uw_180 uw_1 rfl rfl (by decide +kernel) ⟨by decide, by decide⟩ (g_preV hW gc_R hX [.int (xs (1 + 4 * t + 1)), .int (xs (1 + 4 * t + 2)), .int (xs (1 + 4 * t + 3))]) rfl hl.1 rfl (Nat.le_of_ble_eq_true rfl) dW_law_257 ⟨by show 31 + 5 * t + 0 ≤ 601024; omega, by show 75426 + 273 * t + 0 ≤ 7293000; omega⟩) (fun r1 S1 H locs hp hW => ?_)
  obtain ⟨er1, hs⟩ := hp
  have hk : k_X S S1 := by rw [hs]; exact k_FX hM (k_formal S x (xs (1 + 4 * t + 1)) (xs (1 + 4 * t + 2)) (xs (1 + 4 * t + 3)))
  have hM1 := hk.1
  have hY1 := hk.2.1 y _ hY
  have hO1 := hk.2.1 o _ hO
  refine s_aload_n (x := some y) hx hb dW_law_260 rfl (lv_at hl 3 rfl) ?_
  refine w_arg hx hb hXs hbl hbA hW.2.2.2.2 hl (k0 := 0) (k4 := 1) (j := 1) rfl rfl (by omega) hL dW_law_261 dW_law_262 dW_law_264 rfl dW_law_265 dW_law_266 ?_
  refine w_arg hx hb hXs hbl hbA hW.2.2.2.2 hl (k0 := 0) (k4 := 1) (j := 2) rfl rfl (by omega) hL dW_law_267 dW_law_268 dW_law_270 rfl dW_law_271 dW_law_272 ?_
  refine w_arg hx hb hXs hbl hbA hW.2.2.2.2 hl (k0 := 0) (k4 := 1) (j := 3) rfl rfl (by omega) hL dW_law_273 dW_law_274 dW_law_276 rfl dW_law_277 dW_law_278 ?_
  refine s_calli hW (s_runV (n := 3) (As := [.int (xs (1 + 4 * t + 1)), .int (xs (1 + 4 * t + 2)), .int (xs (1 + 4 * t + 3))]) (rest := [.int r1]) hC (c_M_formal l G S1 H.size y (xs (1 + 4 * t + 1)) (xs (1 + 4 * t + 2)) (xs (1 + 4 * t + 3)) hM1 hY1) uc_M_formal uw_502 uw_503 uw_504 uw_4 rfl rfl (by decide +kernel) ⟨by decide, by decide⟩ (g_preV hW gc_M hY1 [.int (xs (1 + 4 * t + 1)), .int (xs (1 + 4 * t + 2)), .int (xs (1 + 4 * t + 3))]) rfl hl.1 rfl (Nat.le_of_ble_eq_true rfl) dW_law_279 ⟨by show 31 + 5 * t + 0 + 0 ≤ 601024; omega, by show 75426 + 273 * t + 0 + 0 ≤ 7293000; omega⟩) (fun r2 S2 H locs hp hW => ?_)
  obtain ⟨er2, hs2⟩ := hp
  have hz := z_formal h (xs (1 + 4 * t + 1)) (xs (1 + 4 * t + 2)) (xs (1 + 4 * t + 3))
  rw [← hs] at hz
  have heq : r1 = r2 := by rw [er1, er2]; exact hz.1
  have hr : r_X S2 x y (t + 1) := by rw [hs2]; exact hz.2
  have ho2 : g_sh S2 o = some (.inr (2, 1)) := by rw [hs2]; exact (h_fo (m_0 S1 y) y _ _ _ o).trans hO1
  refine lv_icmp_eq (tgt := 681) hx hb dW_law_282 (by decide) (fun _ => ?_) (fun z => absurd heq z)
  refine W.widen (k := 31 + 5 * (t + 1)) (n := 75426 + 273 * (t + 1)) (by omega) (by omega) ?_
  exact kk _ _ _ _ ⟨hW, hr, ho2⟩ hl
set_option maxHeartbeats 4000000 in
set_option maxRecDepth 100000 in
theorem lw_3 {p : Program} {e : Env} {s : State} {m : MethodId} {below : List Frame} {meth : Method} {c : Code} {l : Launch} {b L : Nat} {xs : Nat → Int32} {H : Heap} {locs : List Loc} {Q : State → Prop} {ls : Array Slot} {G : gs_G} {S : gs_S} {x y o t : Nat} (hC : CallFix p m c code 8 s #[Value.ref b] gU "CallRowsLaw") (hXs : va_X b L xs s s.heap) (hbl : b < s.heap.size) (hL : L ≤ 2049) (ht : 1 + 4 * t + 4 ≤ L) (hl : lv_has ls 8 [(0, .ref b), (4, .int (nI (1 + 4 * t))), (1, va_rf (some x)), (2, va_rf (some y)), (3, va_rf (some o))]) (hI : lw_I s G S H locs x y o t)
    (kk : ∀ (S' : gs_S) (H' : Heap) (locs' : List Loc) (ls' : Array Slot), lw_I s G S' H' locs' x y o (t + 1) → lv_has ls' 8 [(0, .ref b), (4, .int (nI (1 + 4 * t))), (1, va_rf (some x)), (2, va_rf (some y)), (3, va_rf (some o))] → W p l e room_1 s m #[Value.ref b] below meth c H' locs' (31 + 5 * (t + 1)) (75426 + 273 * (t + 1)) Q (F0 m 681 ls' [])) : W p l e room_1 s m #[Value.ref b] below meth c H locs (31 + 5 * t) (75426 + 273 * t) Q (F0 m 287 ls []) := by
  obtain ⟨hW, ⟨P, L0, D, N, h⟩, hO⟩ := hI
  have ht5 : t < 512 := by omega
  have hbA : ¬ (fun q => s.heap.size ≤ q) b := fun z => absurd hbl (Nat.not_lt.mpr z)
  obtain ⟨hx, hb, hml, hown, hts⟩ := id hC
  obtain ⟨hWT, hM, hX, hY⟩ := h.1
  refine s_aload_n (x := some x) hx hb dW_law_287 rfl (lv_at hl 2 rfl) ?_
  refine w_arg hx hb hXs hbl hbA hW.2.2.2.2 hl (k0 := 0) (k4 := 1) (j := 1) rfl rfl (by omega) hL dW_law_288 dW_law_289 dW_law_291 rfl dW_law_292 dW_law_293 ?_
  refine w_arg hx hb hXs hbl hbA hW.2.2.2.2 hl (k0 := 0) (k4 := 1) (j := 2) rfl rfl (by omega) hL dW_law_294 dW_law_295 dW_law_297 rfl dW_law_298 dW_law_299 ?_
  refine s_calli hW (s_runV (n := 2) (As := [.int (xs (1 + 4 * t + 1)), .int (xs (1 + 4 * t + 2))]) (rest := []) hC (c_R_call l G S H.size x (xs (1 + 4 * t + 1)) (xs (1 + 4 * t + 2)) hWT hX) uc_R_call uw_182 uw_183 uw_184 uw_1 rfl rfl (by decide +kernel) ⟨by decide, by decide⟩ (g_preV hW gc_R hX [.int (xs (1 + 4 * t + 1)), .int (xs (1 + 4 * t + 2))]) rfl hl.1 rfl (Nat.le_of_ble_eq_true rfl) dW_law_300 ⟨by show 31 + 5 * t + 5 ≤ 601024; omega, by show 75426 + 273 * t + 273 ≤ 7293000; omega⟩) (fun r1 S1 H locs hp hW => ?_)
  have hz := z_call h ht5 hp
  have hk := k_call hM hp
  have hM1 := hk.1
  have hY1 := hk.2.1 y _ hY
  have hO1 := hk.2.1 o _ hO
  refine s_aload_n (x := some y) hx hb dW_law_303 rfl (lv_at hl 3 rfl) ?_
  refine w_arg hx hb hXs hbl hbA hW.2.2.2.2 hl (k0 := 0) (k4 := 1) (j := 1) rfl rfl (by omega) hL dW_law_304 dW_law_305 dW_law_307 rfl dW_law_308 dW_law_309 ?_
  refine w_arg hx hb hXs hbl hbA hW.2.2.2.2 hl (k0 := 0) (k4 := 1) (j := 2) rfl rfl (by omega) hL dW_law_310 dW_law_311 dW_law_313 rfl dW_law_314 dW_law_315 ?_
  refine s_calli hW (s_runV (n := 2) (As := [.int (xs (1 + 4 * t + 1)), .int (xs (1 + 4 * t + 2))]) (rest := [.int r1]) hC (c_M_call l G S1 H.size y (xs (1 + 4 * t + 1)) (xs (1 + 4 * t + 2)) hM1 hY1) uc_M_call uw_546 uw_547 uw_548 uw_4 rfl rfl (by decide +kernel) ⟨by decide, by decide⟩ (g_preV hW gc_M hY1 [.int (xs (1 + 4 * t + 1)), .int (xs (1 + 4 * t + 2))]) rfl hl.1 rfl (Nat.le_of_ble_eq_true rfl) dW_law_316 ⟨by show 31 + 5 * t + 5 + 0 ≤ 601024; omega, by show 75426 + 273 * t + 273 + 0 ≤ 7293000; omega⟩) (fun r2 S2 H locs hp hW => ?_)
  obtain ⟨er2, hs2⟩ := hp
  have heq : r1 = r2 := by rw [er2]; exact hz.1
  have hr : r_X S2 x y (t + 1) := by rw [hs2]; exact hz.2
  have ho2 : g_sh S2 o = some (.inr (2, 1)) := by rw [hs2]; exact (h_ca (m_0 S1 y) y _ _ o).trans hO1
  refine lv_icmp_eq (tgt := 681) hx hb dW_law_319 (by decide) (fun _ => ?_) (fun z => absurd heq z)
  refine W.widen (k := 31 + 5 * (t + 1)) (n := 75426 + 273 * (t + 1)) (by omega) (by omega) ?_
  exact kk _ _ _ _ ⟨hW, hr, ho2⟩ hl
set_option maxHeartbeats 4000000 in
set_option maxRecDepth 100000 in
theorem lw_4 {p : Program} {e : Env} {s : State} {m : MethodId} {below : List Frame} {meth : Method} {c : Code} {l : Launch} {b L : Nat} {xs : Nat → Int32} {H : Heap} {locs : List Loc} {Q : State → Prop} {ls : Array Slot} {G : gs_G} {S : gs_S} {x y o t : Nat} (hC : CallFix p m c code 8 s #[Value.ref b] gU "CallRowsLaw") (hXs : va_X b L xs s s.heap) (hbl : b < s.heap.size) (hL : L ≤ 2049) (ht : 1 + 4 * t + 4 ≤ L) (hl : lv_has ls 8 [(0, .ref b), (4, .int (nI (1 + 4 * t))), (1, va_rf (some x)), (2, va_rf (some y)), (3, va_rf (some o))]) (hI : lw_I s G S H locs x y o t)
    (kk : ∀ (S' : gs_S) (H' : Heap) (locs' : List Loc) (ls' : Array Slot), lw_I s G S' H' locs' x y o (t + 1) → lv_has ls' 8 [(0, .ref b), (4, .int (nI (1 + 4 * t))), (1, va_rf (some x)), (2, va_rf (some y)), (3, va_rf (some o))] → W p l e room_1 s m #[Value.ref b] below meth c H' locs' (31 + 5 * (t + 1)) (75426 + 273 * (t + 1)) Q (F0 m 681 ls' [])) : W p l e room_1 s m #[Value.ref b] below meth c H locs (31 + 5 * t) (75426 + 273 * t) Q (F0 m 324 ls []) := by
  obtain ⟨hW, ⟨P, L0, D, N, h⟩, hO⟩ := hI
  have ht5 : t < 512 := by omega
  have hbA : ¬ (fun q => s.heap.size ≤ q) b := fun z => absurd hbl (Nat.not_lt.mpr z)
  obtain ⟨hx, hb, hml, hown, hts⟩ := id hC
  obtain ⟨hWT, hM, hX, hY⟩ := h.1
  refine s_aload_n (x := some x) hx hb dW_law_324 rfl (lv_at hl 2 rfl) ?_
  refine w_arg hx hb hXs hbl hbA hW.2.2.2.2 hl (k0 := 0) (k4 := 1) (j := 1) rfl rfl (by omega) hL dW_law_325 dW_law_326 dW_law_328 rfl dW_law_329 dW_law_330 ?_
  refine w_arg hx hb hXs hbl hbA hW.2.2.2.2 hl (k0 := 0) (k4 := 1) (j := 2) rfl rfl (by omega) hL dW_law_331 dW_law_332 dW_law_334 rfl dW_law_335 dW_law_336 ?_
  refine s_calli hW (s_runV (n := 2) (As := [.int (xs (1 + 4 * t + 1)), .int (xs (1 + 4 * t + 2))]) (rest := []) hC (c_R_actual l G S H.size x (xs (1 + 4 * t + 1)) (xs (1 + 4 * t + 2)) hWT hX) uc_R_actual uw_215 uw_216 uw_217 uw_1 rfl rfl (by decide +kernel) ⟨by decide, by decide⟩ (g_preV hW gc_R hX [.int (xs (1 + 4 * t + 1)), .int (xs (1 + 4 * t + 2))]) rfl hl.1 rfl (Nat.le_of_ble_eq_true rfl) dW_law_337 ⟨by show 31 + 5 * t + 0 ≤ 601024; omega, by show 75426 + 273 * t + 0 ≤ 7293000; omega⟩) (fun r1 S1 H locs hp hW => ?_)
  obtain ⟨er1, hs⟩ := hp
  have hk : k_X S S1 := by rw [hs]; exact k_FX hM (k_actual S x (xs (1 + 4 * t + 1)) (xs (1 + 4 * t + 2)))
  have hM1 := hk.1
  have hY1 := hk.2.1 y _ hY
  have hO1 := hk.2.1 o _ hO
  have hub := U_bd h (by omega)
  have eu1 : m_used S1 y = m_used S y := by unfold m_used; rw [hk.2.2 17 y hY]
  have hu1 : m_used S1 y < 60000 := by rw [eu1]; exact hub.2.1
  refine s_aload_n (x := some y) hx hb dW_law_340 rfl (lv_at hl 3 rfl) ?_
  refine w_arg hx hb hXs hbl hbA hW.2.2.2.2 hl (k0 := 0) (k4 := 1) (j := 1) rfl rfl (by omega) hL dW_law_341 dW_law_342 dW_law_344 rfl dW_law_345 dW_law_346 ?_
  refine w_arg hx hb hXs hbl hbA hW.2.2.2.2 hl (k0 := 0) (k4 := 1) (j := 2) rfl rfl (by omega) hL dW_law_347 dW_law_348 dW_law_350 rfl dW_law_351 dW_law_352 ?_
  refine s_calli hW (s_runV (n := 2) (As := [.int (xs (1 + 4 * t + 1)), .int (xs (1 + 4 * t + 2))]) (rest := [.int r1]) hC (c_M_actual l G S1 H.size y (xs (1 + 4 * t + 1)) (xs (1 + 4 * t + 2)) hM1 hY1 hu1) uc_M_actual uw_562 uw_563 uw_564 uw_4 rfl rfl (by decide +kernel) ⟨by decide, by decide⟩ (g_preV hW gc_M hY1 [.int (xs (1 + 4 * t + 1)), .int (xs (1 + 4 * t + 2))]) rfl hl.1 rfl (Nat.le_of_ble_eq_true rfl) dW_law_353 ⟨by show 31 + 5 * t + 0 + 0 ≤ 601024; omega, by show 75426 + 273 * t + 0 + 0 ≤ 7293000; omega⟩) (fun r2 S2 H locs hp hW => ?_)
  obtain ⟨er2, hs2⟩ := hp
  have hz := z_actual h hub.2.1 (xs (1 + 4 * t + 1)) (xs (1 + 4 * t + 2))
  rw [← hs] at hz
  have heq : r1 = r2 := by rw [er1, er2]; exact hz.1
  have hr : r_X S2 x y (t + 1) := by rw [hs2]; exact hz.2
  have ho2 : g_sh S2 o = some (.inr (2, 1)) := by rw [hs2]; exact (h_ac (m_0 S1 y) y _ _ o).trans hO1
  refine lv_icmp_eq (tgt := 681) hx hb dW_law_356 (by decide) (fun _ => ?_) (fun z => absurd heq z)
  refine W.widen (k := 31 + 5 * (t + 1)) (n := 75426 + 273 * (t + 1)) (by omega) (by omega) ?_
  exact kk _ _ _ _ ⟨hW, hr, ho2⟩ hl
set_option maxHeartbeats 4000000 in
set_option maxRecDepth 100000 in
theorem lw_5 {p : Program} {e : Env} {s : State} {m : MethodId} {below : List Frame} {meth : Method} {c : Code} {l : Launch} {b L : Nat} {xs : Nat → Int32} {H : Heap} {locs : List Loc} {Q : State → Prop} {ls : Array Slot} {G : gs_G} {S : gs_S} {x y o t : Nat} (hC : CallFix p m c code 8 s #[Value.ref b] gU "CallRowsLaw") (hXs : va_X b L xs s s.heap) (hbl : b < s.heap.size) (hL : L ≤ 2049) (ht : 1 + 4 * t + 4 ≤ L) (hl : lv_has ls 8 [(0, .ref b), (4, .int (nI (1 + 4 * t))), (1, va_rf (some x)), (2, va_rf (some y)), (3, va_rf (some o))]) (hI : lw_I s G S H locs x y o t)
    (kk : ∀ (S' : gs_S) (H' : Heap) (locs' : List Loc) (ls' : Array Slot), lw_I s G S' H' locs' x y o (t + 1) → lv_has ls' 8 [(0, .ref b), (4, .int (nI (1 + 4 * t))), (1, va_rf (some x)), (2, va_rf (some y)), (3, va_rf (some o))] → W p l e room_1 s m #[Value.ref b] below meth c H' locs' (31 + 5 * (t + 1)) (75426 + 273 * (t + 1)) Q (F0 m 681 ls' [])) : W p l e room_1 s m #[Value.ref b] below meth c H locs (31 + 5 * t) (75426 + 273 * t) Q (F0 m 361 ls []) := by
  obtain ⟨hW, ⟨P, L0, D, N, h⟩, hO⟩ := hI
  have ht5 : t < 512 := by omega
  have hbA : ¬ (fun q => s.heap.size ≤ q) b := fun z => absurd hbl (Nat.not_lt.mpr z)
  obtain ⟨hx, hb, hml, hown, hts⟩ := id hC
  obtain ⟨hWT, hM, hX, hY⟩ := h.1
  refine s_aload_n (x := some x) hx hb dW_law_361 rfl (lv_at hl 2 rfl) ?_
  refine s_calli hW (s_runV (n := 0) (As := []) (rest := []) hC (c_R_enter l G S H.size x  hWT hX) uc_R_enter uw_242 uw_243 uw_244 uw_1 rfl rfl (by decide +kernel) ⟨by decide, by decide⟩ (g_preV hW gc_R hX []) rfl hl.1 rfl (Nat.le_of_ble_eq_true rfl) dW_law_362 ⟨by show 31 + 5 * t + 0 ≤ 601024; omega, by show 75426 + 273 * t + 0 ≤ 7293000; omega⟩) (fun r1 S1 H locs hp hW => ?_)
  obtain ⟨er1, hs⟩ := hp
  have hk : k_X S S1 := by rw [hs]; exact k_FX hM (k_enter S x )
  have hM1 := hk.1
  have hY1 := hk.2.1 y _ hY
  have hO1 := hk.2.1 o _ hO
  have hub := U_bd h (by omega)
  have eu1 : m_used S1 y = m_used S y := by unfold m_used; rw [hk.2.2 17 y hY]
  have hu1 : m_used S1 y + 16 ≤ 59800 := by rw [eu1]; exact hub.1
  have ha1 : m_active S1 y < 256 := by
    have : m_active S1 y = m_active S y := by unfold m_active; rw [hk.2.2 22 y hY]
    have := hub.2.2
    omega
  refine s_aload_n (x := some y) hx hb dW_law_365 rfl (lv_at hl 3 rfl) ?_
  refine s_calli hW (s_runV (n := 0) (As := []) (rest := [.int r1]) hC (c_M_enter l G S1 H.size y  hM1 hY1 ha1 hu1) uc_M_enter uw_570 uw_571 uw_572 uw_4 rfl rfl (by decide +kernel) ⟨by decide, by decide⟩ (g_preV hW gc_M hY1 []) rfl hl.1 rfl (Nat.le_of_ble_eq_true rfl) dW_law_366 ⟨by show 31 + 5 * t + 0 + 0 ≤ 601024; omega, by show 75426 + 273 * t + 0 + 0 ≤ 7293000; omega⟩) (fun r2 S2 H locs hp hW => ?_)
  obtain ⟨er2, hs2⟩ := hp
  have hz := z_enter h ht5
  rw [← hs] at hz
  have heq : r1 = r2 := by rw [er1, er2]; exact hz.1
  have hr : r_X S2 x y (t + 1) := by rw [hs2]; exact hz.2
  have ho2 : g_sh S2 o = some (.inr (2, 1)) := by rw [hs2]; exact (h_en (m_0 S1 y) y o).trans hO1
  refine lv_icmp_eq (tgt := 681) hx hb dW_law_369 (by decide) (fun _ => ?_) (fun z => absurd heq z)
  refine W.widen (k := 31 + 5 * (t + 1)) (n := 75426 + 273 * (t + 1)) (by omega) (by omega) ?_
  exact kk _ _ _ _ ⟨hW, hr, ho2⟩ hl
set_option maxHeartbeats 4000000 in
set_option maxRecDepth 100000 in
theorem lw_6 {p : Program} {e : Env} {s : State} {m : MethodId} {below : List Frame} {meth : Method} {c : Code} {l : Launch} {b L : Nat} {xs : Nat → Int32} {H : Heap} {locs : List Loc} {Q : State → Prop} {ls : Array Slot} {G : gs_G} {S : gs_S} {x y o t : Nat} (hC : CallFix p m c code 8 s #[Value.ref b] gU "CallRowsLaw") (hXs : va_X b L xs s s.heap) (hbl : b < s.heap.size) (hL : L ≤ 2049) (ht : 1 + 4 * t + 4 ≤ L) (hl : lv_has ls 8 [(0, .ref b), (4, .int (nI (1 + 4 * t))), (1, va_rf (some x)), (2, va_rf (some y)), (3, va_rf (some o))]) (hI : lw_I s G S H locs x y o t)
    (kk : ∀ (S' : gs_S) (H' : Heap) (locs' : List Loc) (ls' : Array Slot), lw_I s G S' H' locs' x y o (t + 1) → lv_has ls' 8 [(0, .ref b), (4, .int (nI (1 + 4 * t))), (1, va_rf (some x)), (2, va_rf (some y)), (3, va_rf (some o))] → W p l e room_1 s m #[Value.ref b] below meth c H' locs' (31 + 5 * (t + 1)) (75426 + 273 * (t + 1)) Q (F0 m 681 ls' [])) : W p l e room_1 s m #[Value.ref b] below meth c H locs (31 + 5 * t) (75426 + 273 * t) Q (F0 m 374 ls []) := by
  obtain ⟨hW, ⟨P, L0, D, N, h⟩, hO⟩ := hI
  have ht5 : t < 512 := by omega
  have hbA : ¬ (fun q => s.heap.size ≤ q) b := fun z => absurd hbl (Nat.not_lt.mpr z)
  obtain ⟨hx, hb, hml, hown, hts⟩ := id hC
  obtain ⟨hWT, hM, hX, hY⟩ := h.1
  refine s_aload_n (x := some x) hx hb dW_law_374 rfl (lv_at hl 2 rfl) ?_
  refine w_arg hx hb hXs hbl hbA hW.2.2.2.2 hl (k0 := 0) (k4 := 1) (j := 1) rfl rfl (by omega) hL dW_law_375 dW_law_376 dW_law_378 rfl dW_law_379 dW_law_380 ?_
  refine w_arg hx hb hXs hbl hbA hW.2.2.2.2 hl (k0 := 0) (k4 := 1) (j := 2) rfl rfl (by omega) hL dW_law_381 dW_law_382 dW_law_384 rfl dW_law_385 dW_law_386 ?_
  refine lv_i2l hx hb dW_law_387 rfl ?_
  refine lv_bipush (v := 32) hx hb dW_law_388 (by decide) ?_
  refine lv_lshl hx hb dW_law_390 rfl ?_
  refine w_arg hx hb hXs hbl hbA hW.2.2.2.2 hl (k0 := 0) (k4 := 1) (j := 3) rfl rfl (by omega) hL dW_law_391 dW_law_392 dW_law_394 rfl dW_law_395 dW_law_396 ?_
  refine lv_i2l hx hb dW_law_397 rfl ?_
  refine lv_ldc2 (v := 4294967295) hx hb hown (hts _ uw_598) dW_law_398 ?_
  refine lv_land hx hb dW_law_401 ?_
  refine lv_lor hx hb dW_law_402 ?_
  refine lv_topl (fun v_402 ev_402 => ?_)
  refine s_calli hW (s_runV (n := 2) (As := [.int (xs (1 + 4 * t + 1)), .long v_402]) (rest := []) hC (c_R_set l G S H.size x (xs (1 + 4 * t + 1)) (v_402) hWT hX) uc_R_set uw_264 uw_265 uw_266 uw_1 rfl rfl (by decide +kernel) ⟨by decide, by decide⟩ (g_preV hW gc_R hX [.int (xs (1 + 4 * t + 1)), .long v_402]) rfl hl.1 rfl (Nat.le_of_ble_eq_true rfl) dW_law_403 ⟨by show 31 + 5 * t + 0 ≤ 601024; omega, by show 75426 + 273 * t + 0 ≤ 7293000; omega⟩) (fun r1 S1 H locs hp hW => ?_)
  obtain ⟨er1, hs⟩ := hp
  have hk : k_X S S1 := by rw [hs]; exact k_FX hM (k_set S x (xs (1 + 4 * t + 1)) (v_402))
  have hM1 := hk.1
  have hY1 := hk.2.1 y _ hY
  have hO1 := hk.2.1 o _ hO
  refine s_aload_n (x := some y) hx hb dW_law_406 rfl (lv_at hl 3 rfl) ?_
  refine w_arg hx hb hXs hbl hbA hW.2.2.2.2 hl (k0 := 0) (k4 := 1) (j := 1) rfl rfl (by omega) hL dW_law_407 dW_law_408 dW_law_410 rfl dW_law_411 dW_law_412 ?_
  refine w_arg hx hb hXs hbl hbA hW.2.2.2.2 hl (k0 := 0) (k4 := 1) (j := 2) rfl rfl (by omega) hL dW_law_413 dW_law_414 dW_law_416 rfl dW_law_417 dW_law_418 ?_
  refine lv_i2l hx hb dW_law_419 rfl ?_
  refine lv_bipush (v := 32) hx hb dW_law_420 (by decide) ?_
  refine lv_lshl hx hb dW_law_422 rfl ?_
  refine w_arg hx hb hXs hbl hbA hW.2.2.2.2 hl (k0 := 0) (k4 := 1) (j := 3) rfl rfl (by omega) hL dW_law_423 dW_law_424 dW_law_426 rfl dW_law_427 dW_law_428 ?_
  refine lv_i2l hx hb dW_law_429 rfl ?_
  refine lv_ldc2 (v := 4294967295) hx hb hown (hts _ uw_598) dW_law_430 ?_
  refine lv_land hx hb dW_law_433 ?_
  refine lv_lor hx hb dW_law_434 ?_
  refine lv_topl (fun v_434 ev_434 => ?_)
  have hvv : v_434 = v_402 := ev_434.trans ev_402.symm
  rw [hvv]
  refine s_calli hW (s_runV (n := 2) (As := [.int (xs (1 + 4 * t + 1)), .long v_402]) (rest := [.int r1]) hC (c_M_set l G S1 H.size y (xs (1 + 4 * t + 1)) (v_402) hM1 hY1) uc_M_set uw_510 uw_511 uw_512 uw_4 rfl rfl (by decide +kernel) ⟨by decide, by decide⟩ (g_preV hW gc_M hY1 [.int (xs (1 + 4 * t + 1)), .long v_402]) rfl hl.1 rfl (Nat.le_of_ble_eq_true rfl) dW_law_435 ⟨by show 31 + 5 * t + 0 + 0 ≤ 601024; omega, by show 75426 + 273 * t + 0 + 0 ≤ 7293000; omega⟩) (fun r2 S2 H locs hp hW => ?_)
  obtain ⟨er2, hs2⟩ := hp
  have hz := z_set h (xs (1 + 4 * t + 1)) (v_402)
  rw [← hs] at hz
  have heq : r1 = r2 := by rw [er1, er2]; exact hz.1
  have hr : r_X S2 x y (t + 1) := by rw [hs2]; exact ⟨P, L0, D, N, hz.2⟩
  have ho2 : g_sh S2 o = some (.inr (2, 1)) := by rw [hs2]; exact (h_se (m_0 S1 y) y _ _ o).trans hO1
  refine lv_icmp_eq (tgt := 681) hx hb dW_law_438 (by decide) (fun _ => ?_) (fun z => absurd heq z)
  refine W.widen (k := 31 + 5 * (t + 1)) (n := 75426 + 273 * (t + 1)) (by omega) (by omega) ?_
  exact kk _ _ _ _ ⟨hW, hr, ho2⟩ hl
set_option maxHeartbeats 4000000 in
set_option maxRecDepth 100000 in
theorem lw_7 {p : Program} {e : Env} {s : State} {m : MethodId} {below : List Frame} {meth : Method} {c : Code} {l : Launch} {b L : Nat} {xs : Nat → Int32} {H : Heap} {locs : List Loc} {Q : State → Prop} {ls : Array Slot} {G : gs_G} {S : gs_S} {x y o t : Nat} (hC : CallFix p m c code 8 s #[Value.ref b] gU "CallRowsLaw") (hXs : va_X b L xs s s.heap) (hbl : b < s.heap.size) (hL : L ≤ 2049) (ht : 1 + 4 * t + 4 ≤ L) (hl : lv_has ls 8 [(0, .ref b), (4, .int (nI (1 + 4 * t))), (1, va_rf (some x)), (2, va_rf (some y)), (3, va_rf (some o))]) (hI : lw_I s G S H locs x y o t)
    (kk : ∀ (S' : gs_S) (H' : Heap) (locs' : List Loc) (ls' : Array Slot), lw_I s G S' H' locs' x y o (t + 1) → lv_has ls' 8 [(0, .ref b), (4, .int (nI (1 + 4 * t))), (1, va_rf (some x)), (2, va_rf (some y)), (3, va_rf (some o))] → W p l e room_1 s m #[Value.ref b] below meth c H' locs' (31 + 5 * (t + 1)) (75426 + 273 * (t + 1)) Q (F0 m 681 ls' [])) : W p l e room_1 s m #[Value.ref b] below meth c H locs (31 + 5 * t) (75426 + 273 * t) Q (F0 m 443 ls []) := by
  obtain ⟨hW, ⟨P, L0, D, N, h⟩, hO⟩ := hI
  have ht5 : t < 512 := by omega
  have hbA : ¬ (fun q => s.heap.size ≤ q) b := fun z => absurd hbl (Nat.not_lt.mpr z)
  obtain ⟨hx, hb, hml, hown, hts⟩ := id hC
  obtain ⟨hWT, hM, hX, hY⟩ := h.1
  refine s_aload_n (x := some x) hx hb dW_law_443 rfl (lv_at hl 2 rfl) ?_
  refine w_arg hx hb hXs hbl hbA hW.2.2.2.2 hl (k0 := 0) (k4 := 1) (j := 1) rfl rfl (by omega) hL dW_law_444 dW_law_445 dW_law_447 rfl dW_law_448 dW_law_449 ?_
  refine lv_i2l hx hb dW_law_450 rfl ?_
  refine lv_bipush (v := 32) hx hb dW_law_451 (by decide) ?_
  refine lv_lshl hx hb dW_law_453 rfl ?_
  refine w_arg hx hb hXs hbl hbA hW.2.2.2.2 hl (k0 := 0) (k4 := 1) (j := 2) rfl rfl (by omega) hL dW_law_454 dW_law_455 dW_law_457 rfl dW_law_458 dW_law_459 ?_
  refine lv_i2l hx hb dW_law_460 rfl ?_
  refine lv_ldc2 (v := 4294967295) hx hb hown (hts _ uw_598) dW_law_461 ?_
  refine lv_land hx hb dW_law_464 ?_
  refine lv_lor hx hb dW_law_465 ?_
  refine lv_topl (fun v_465 ev_465 => ?_)
  refine s_calli hW (s_runV (n := 1) (As := [.long v_465]) (rest := []) hC (c_R_leave l G S H.size x (v_465) hWT hX) uc_R_leave uw_273 uw_274 uw_275 uw_1 rfl rfl (by decide +kernel) ⟨by decide, by decide⟩ (g_preV hW gc_R hX [.long v_465]) rfl hl.1 rfl (Nat.le_of_ble_eq_true rfl) dW_law_466 ⟨by show 31 + 5 * t + 0 ≤ 601024; omega, by show 75426 + 273 * t + 0 ≤ 7293000; omega⟩) (fun r1 S1 H locs hp hW => ?_)
  obtain ⟨er1, hs⟩ := hp
  have hk : k_X S S1 := by rw [hs]; exact k_FX hM (k_leave S x (v_465))
  have hM1 := hk.1
  have hY1 := hk.2.1 y _ hY
  have hO1 := hk.2.1 o _ hO
  refine s_aload_n (x := some y) hx hb dW_law_469 rfl (lv_at hl 3 rfl) ?_
  refine w_arg hx hb hXs hbl hbA hW.2.2.2.2 hl (k0 := 0) (k4 := 1) (j := 1) rfl rfl (by omega) hL dW_law_470 dW_law_471 dW_law_473 rfl dW_law_474 dW_law_475 ?_
  refine lv_i2l hx hb dW_law_476 rfl ?_
  refine lv_bipush (v := 32) hx hb dW_law_477 (by decide) ?_
  refine lv_lshl hx hb dW_law_479 rfl ?_
  refine w_arg hx hb hXs hbl hbA hW.2.2.2.2 hl (k0 := 0) (k4 := 1) (j := 2) rfl rfl (by omega) hL dW_law_480 dW_law_481 dW_law_483 rfl dW_law_484 dW_law_485 ?_
  refine lv_i2l hx hb dW_law_486 rfl ?_
  refine lv_ldc2 (v := 4294967295) hx hb hown (hts _ uw_598) dW_law_487 ?_
  refine lv_land hx hb dW_law_490 ?_
  refine lv_lor hx hb dW_law_491 ?_
  refine lv_topl (fun v_491 ev_491 => ?_)
  have hvv : v_491 = v_465 := ev_491.trans ev_465.symm
  rw [hvv]
  refine s_calli hW (s_runV (n := 1) (As := [.long v_465]) (rest := [.int r1]) hC (c_M_leave l G S1 H.size y (v_465) hM1 hY1) uc_M_leave uw_578 uw_579 uw_580 uw_4 rfl rfl (by decide +kernel) ⟨by decide, by decide⟩ (g_preV hW gc_M hY1 [.long v_465]) rfl hl.1 rfl (Nat.le_of_ble_eq_true rfl) dW_law_492 ⟨by show 31 + 5 * t + 0 + 0 ≤ 601024; omega, by show 75426 + 273 * t + 0 + 0 ≤ 7293000; omega⟩) (fun r2 S2 H locs hp hW => ?_)
  obtain ⟨er2, hs2⟩ := hp
  have hz := z_leave h (v_465)
  rw [← hs] at hz
  have heq : r1 = r2 := by rw [er1, er2]; exact hz.1
  have hr : r_X S2 x y (t + 1) := by rw [hs2]; exact hz.2
  have ho2 : g_sh S2 o = some (.inr (2, 1)) := by rw [hs2]; exact (h_le (m_0 S1 y) y _ o).trans hO1
  refine lv_icmp_eq (tgt := 681) hx hb dW_law_495 (by decide) (fun _ => ?_) (fun z => absurd heq z)
  refine W.widen (k := 31 + 5 * (t + 1)) (n := 75426 + 273 * (t + 1)) (by omega) (by omega) ?_
  exact kk _ _ _ _ ⟨hW, hr, ho2⟩ hl
set_option maxHeartbeats 4000000 in
set_option maxRecDepth 100000 in
theorem lw_9 {p : Program} {e : Env} {s : State} {m : MethodId} {below : List Frame} {meth : Method} {c : Code} {l : Launch} {b L : Nat} {xs : Nat → Int32} {H : Heap} {locs : List Loc} {Q : State → Prop} {ls : Array Slot} {G : gs_G} {S : gs_S} {x y o t : Nat} (hC : CallFix p m c code 8 s #[Value.ref b] gU "CallRowsLaw") (hXs : va_X b L xs s s.heap) (hbl : b < s.heap.size) (hL : L ≤ 2049) (ht : 1 + 4 * t + 4 ≤ L) (hl : lv_has ls 8 [(0, .ref b), (4, .int (nI (1 + 4 * t))), (1, va_rf (some x)), (2, va_rf (some y)), (3, va_rf (some o))]) (hI : lw_I s G S H locs x y o t)
    (kk : ∀ (S' : gs_S) (H' : Heap) (locs' : List Loc) (ls' : Array Slot), lw_I s G S' H' locs' x y o (t + 1) → lv_has ls' 8 [(0, .ref b), (4, .int (nI (1 + 4 * t))), (1, va_rf (some x)), (2, va_rf (some y)), (3, va_rf (some o))] → W p l e room_1 s m #[Value.ref b] below meth c H' locs' (31 + 5 * (t + 1)) (75426 + 273 * (t + 1)) Q (F0 m 681 ls' [])) : W p l e room_1 s m #[Value.ref b] below meth c H locs (31 + 5 * t) (75426 + 273 * t) Q (F0 m 555 ls []) := by
  obtain ⟨hW, ⟨P, L0, D, N, h⟩, hO⟩ := hI
  have ht5 : t < 512 := by omega
  have hbA : ¬ (fun q => s.heap.size ≤ q) b := fun z => absurd hbl (Nat.not_lt.mpr z)
  obtain ⟨hx, hb, hml, hown, hts⟩ := id hC
  obtain ⟨hWT, hM, hX, hY⟩ := h.1
  refine s_aload_n (x := some x) hx hb dW_law_555 rfl (lv_at hl 2 rfl) ?_
  refine w_arg hx hb hXs hbl hbA hW.2.2.2.2 hl (k0 := 0) (k4 := 1) (j := 1) rfl rfl (by omega) hL dW_law_556 dW_law_557 dW_law_559 rfl dW_law_560 dW_law_561 ?_
  refine w_arg hx hb hXs hbl hbA hW.2.2.2.2 hl (k0 := 0) (k4 := 1) (j := 2) rfl rfl (by omega) hL dW_law_562 dW_law_563 dW_law_565 rfl dW_law_566 dW_law_567 ?_
  refine s_calli hW (s_runV (n := 2) (As := [.int (xs (1 + 4 * t + 1)), .int (xs (1 + 4 * t + 2))]) (rest := []) hC (c_R_cancel l G S H.size x (xs (1 + 4 * t + 1)) (xs (1 + 4 * t + 2)) hWT hX) uc_R_cancel uw_277 uw_278 uw_279 uw_1 rfl rfl (by decide +kernel) ⟨by decide, by decide⟩ (g_preV hW gc_R hX [.int (xs (1 + 4 * t + 1)), .int (xs (1 + 4 * t + 2))]) rfl hl.1 rfl (Nat.le_of_ble_eq_true rfl) dW_law_568 ⟨by show 31 + 5 * t + 0 ≤ 601024; omega, by show 75426 + 273 * t + 0 ≤ 7293000; omega⟩) (fun r1 S1 H locs hp hW => ?_)
  obtain ⟨er1, hs⟩ := hp
  have hk : k_X S S1 := by rw [hs]; exact k_FX hM (k_cancel S x (xs (1 + 4 * t + 1)) (xs (1 + 4 * t + 2)))
  have hM1 := hk.1
  have hY1 := hk.2.1 y _ hY
  have hO1 := hk.2.1 o _ hO
  refine s_aload_n (x := some y) hx hb dW_law_571 rfl (lv_at hl 3 rfl) ?_
  refine w_arg hx hb hXs hbl hbA hW.2.2.2.2 hl (k0 := 0) (k4 := 1) (j := 1) rfl rfl (by omega) hL dW_law_572 dW_law_573 dW_law_575 rfl dW_law_576 dW_law_577 ?_
  refine w_arg hx hb hXs hbl hbA hW.2.2.2.2 hl (k0 := 0) (k4 := 1) (j := 2) rfl rfl (by omega) hL dW_law_578 dW_law_579 dW_law_581 rfl dW_law_582 dW_law_583 ?_
  refine s_calli hW (s_runV (n := 2) (As := [.int (xs (1 + 4 * t + 1)), .int (xs (1 + 4 * t + 2))]) (rest := [.int r1]) hC (c_M_cancel l G S1 H.size y (xs (1 + 4 * t + 1)) (xs (1 + 4 * t + 2)) hM1 hY1) uc_M_cancel uw_582 uw_583 uw_584 uw_4 rfl rfl (by decide +kernel) ⟨by decide, by decide⟩ (g_preV hW gc_M hY1 [.int (xs (1 + 4 * t + 1)), .int (xs (1 + 4 * t + 2))]) rfl hl.1 rfl (Nat.le_of_ble_eq_true rfl) dW_law_584 ⟨by show 31 + 5 * t + 0 + 0 ≤ 601024; omega, by show 75426 + 273 * t + 0 + 0 ≤ 7293000; omega⟩) (fun r2 S2 H locs hp hW => ?_)
  obtain ⟨er2, hs2⟩ := hp
  have hz := z_cancel h (xs (1 + 4 * t + 1)) (xs (1 + 4 * t + 2))
  rw [← hs] at hz
  have heq : r1 = r2 := by rw [er1, er2]; exact hz.1
  have hr : r_X S2 x y (t + 1) := by rw [hs2]; exact hz.2
  have ho2 : g_sh S2 o = some (.inr (2, 1)) := by rw [hs2]; exact (h_cn (m_0 S1 y) y _ _ o).trans hO1
  refine lv_icmp_eq (tgt := 681) hx hb dW_law_587 (by decide) (fun _ => ?_) (fun z => absurd heq z)
  refine W.widen (k := 31 + 5 * (t + 1)) (n := 75426 + 273 * (t + 1)) (by omega) (by omega) ?_
  exact kk _ _ _ _ ⟨hW, hr, ho2⟩ hl
set_option maxHeartbeats 4000000 in
set_option maxRecDepth 100000 in
theorem lw_10 {p : Program} {e : Env} {s : State} {m : MethodId} {below : List Frame} {meth : Method} {c : Code} {l : Launch} {b L : Nat} {xs : Nat → Int32} {H : Heap} {locs : List Loc} {Q : State → Prop} {ls : Array Slot} {G : gs_G} {S : gs_S} {x y o t : Nat} (hC : CallFix p m c code 8 s #[Value.ref b] gU "CallRowsLaw") (hXs : va_X b L xs s s.heap) (hbl : b < s.heap.size) (hL : L ≤ 2049) (ht : 1 + 4 * t + 4 ≤ L) (hl : lv_has ls 8 [(0, .ref b), (4, .int (nI (1 + 4 * t))), (1, va_rf (some x)), (2, va_rf (some y)), (3, va_rf (some o))]) (hI : lw_I s G S H locs x y o t)
    (kk : ∀ (S' : gs_S) (H' : Heap) (locs' : List Loc) (ls' : Array Slot), lw_I s G S' H' locs' x y o (t + 1) → lv_has ls' 8 [(0, .ref b), (4, .int (nI (1 + 4 * t))), (1, va_rf (some x)), (2, va_rf (some y)), (3, va_rf (some o))] → W p l e room_1 s m #[Value.ref b] below meth c H' locs' (31 + 5 * (t + 1)) (75426 + 273 * (t + 1)) Q (F0 m 681 ls' [])) : W p l e room_1 s m #[Value.ref b] below meth c H locs (31 + 5 * t) (75426 + 273 * t) Q (F0 m 592 ls []) := by
  obtain ⟨hW, ⟨P, L0, D, N, h⟩, hO⟩ := hI
  have ht5 : t < 512 := by omega
  have hbA : ¬ (fun q => s.heap.size ≤ q) b := fun z => absurd hbl (Nat.not_lt.mpr z)
  obtain ⟨hx, hb, hml, hown, hts⟩ := id hC
  obtain ⟨hWT, hM, hX, hY⟩ := h.1
  refine s_aload_n (x := some x) hx hb dW_law_592 rfl (lv_at hl 2 rfl) ?_
  refine w_arg hx hb hXs hbl hbA hW.2.2.2.2 hl (k0 := 0) (k4 := 1) (j := 1) rfl rfl (by omega) hL dW_law_593 dW_law_594 dW_law_596 rfl dW_law_597 dW_law_598 ?_
  refine s_calli hW (s_runV (n := 1) (As := [.int (xs (1 + 4 * t + 1))]) (rest := []) hC (c_R_shared l G S H.size x (xs (1 + 4 * t + 1)) hWT hX) uc_R_shared uw_289 uw_290 uw_291 uw_1 rfl rfl (by decide +kernel) ⟨by decide, by decide⟩ (g_preV hW gc_R hX [.int (xs (1 + 4 * t + 1))]) rfl hl.1 rfl (Nat.le_of_ble_eq_true rfl) dW_law_599 ⟨by show 31 + 5 * t + 0 ≤ 601024; omega, by show 75426 + 273 * t + 0 ≤ 7293000; omega⟩) (fun r1 S1 H locs hp hW => ?_)
  obtain ⟨er1, hs⟩ := hp
  have hk : k_X S S1 := by rw [hs]; exact k_FX hM (k_shared S x (xs (1 + 4 * t + 1)))
  have hM1 := hk.1
  have hY1 := hk.2.1 y _ hY
  have hO1 := hk.2.1 o _ hO
  refine s_aload_n (x := some y) hx hb dW_law_602 rfl (lv_at hl 3 rfl) ?_
  refine w_arg hx hb hXs hbl hbA hW.2.2.2.2 hl (k0 := 0) (k4 := 1) (j := 1) rfl rfl (by omega) hL dW_law_603 dW_law_604 dW_law_606 rfl dW_law_607 dW_law_608 ?_
  refine s_calli hW (s_runV (n := 1) (As := [.int (xs (1 + 4 * t + 1))]) (rest := [.int r1]) hC (c_M_shared l G S1 H.size y (xs (1 + 4 * t + 1)) hM1 hY1) uc_M_shared uw_506 uw_507 uw_508 uw_4 rfl rfl (by decide +kernel) ⟨by decide, by decide⟩ (g_preV hW gc_M hY1 [.int (xs (1 + 4 * t + 1))]) rfl hl.1 rfl (Nat.le_of_ble_eq_true rfl) dW_law_609 ⟨by show 31 + 5 * t + 0 + 0 ≤ 601024; omega, by show 75426 + 273 * t + 0 + 0 ≤ 7293000; omega⟩) (fun r2 S2 H locs hp hW => ?_)
  obtain ⟨er2, hs2⟩ := hp
  have hz := z_shared h (xs (1 + 4 * t + 1))
  rw [← hs] at hz
  have heq : r1 = r2 := by rw [er1, er2]; exact hz.1
  have hr : r_X S2 x y (t + 1) := by rw [hs2]; exact hz.2
  have ho2 : g_sh S2 o = some (.inr (2, 1)) := by rw [hs2]; exact (h_sh (m_0 S1 y) y _ o).trans hO1
  refine lv_icmp_eq (tgt := 681) hx hb dW_law_612 (by decide) (fun _ => ?_) (fun z => absurd heq z)
  refine W.widen (k := 31 + 5 * (t + 1)) (n := 75426 + 273 * (t + 1)) (by omega) (by omega) ?_
  exact kk _ _ _ _ ⟨hW, hr, ho2⟩ hl
set_option maxHeartbeats 4000000 in
set_option maxRecDepth 100000 in
theorem lw_11 {p : Program} {e : Env} {s : State} {m : MethodId} {below : List Frame} {meth : Method} {c : Code} {l : Launch} {b L : Nat} {xs : Nat → Int32} {H : Heap} {locs : List Loc} {Q : State → Prop} {ls : Array Slot} {G : gs_G} {S : gs_S} {x y o t : Nat} (hC : CallFix p m c code 8 s #[Value.ref b] gU "CallRowsLaw") (hXs : va_X b L xs s s.heap) (hbl : b < s.heap.size) (hL : L ≤ 2049) (ht : 1 + 4 * t + 4 ≤ L) (hl : lv_has ls 8 [(0, .ref b), (4, .int (nI (1 + 4 * t))), (1, va_rf (some x)), (2, va_rf (some y)), (3, va_rf (some o))]) (hI : lw_I s G S H locs x y o t)
    (kk : ∀ (S' : gs_S) (H' : Heap) (locs' : List Loc) (ls' : Array Slot), lw_I s G S' H' locs' x y o (t + 1) → lv_has ls' 8 [(0, .ref b), (4, .int (nI (1 + 4 * t))), (1, va_rf (some x)), (2, va_rf (some y)), (3, va_rf (some o))] → W p l e room_1 s m #[Value.ref b] below meth c H' locs' (31 + 5 * (t + 1)) (75426 + 273 * (t + 1)) Q (F0 m 681 ls' [])) : W p l e room_1 s m #[Value.ref b] below meth c H locs (31 + 5 * t) (75426 + 273 * t) Q (F0 m 617 ls []) := by
  obtain ⟨hW, ⟨P, L0, D, N, h⟩, hO⟩ := hI
  have ht5 : t < 512 := by omega
  have hbA : ¬ (fun q => s.heap.size ≤ q) b := fun z => absurd hbl (Nat.not_lt.mpr z)
  obtain ⟨hx, hb, hml, hown, hts⟩ := id hC
  obtain ⟨hWT, hM, hX, hY⟩ := h.1
  refine s_aload_n (x := some x) hx hb dW_law_617 rfl (lv_at hl 2 rfl) ?_
  refine w_arg hx hb hXs hbl hbA hW.2.2.2.2 hl (k0 := 0) (k4 := 1) (j := 1) rfl rfl (by omega) hL dW_law_618 dW_law_619 dW_law_621 rfl dW_law_622 dW_law_623 ?_
  refine s_calli hW (s_runV (n := 1) (As := [.int (xs (1 + 4 * t + 1))]) (rest := []) hC (c_R_state l G S H.size x (xs (1 + 4 * t + 1)) hWT hX) uc_R_state uw_293 uw_294 uw_295 uw_1 rfl rfl (by decide +kernel) ⟨by decide, by decide⟩ (g_preV hW gc_R hX [.int (xs (1 + 4 * t + 1))]) rfl hl.1 rfl (Nat.le_of_ble_eq_true rfl) dW_law_624 ⟨by show 31 + 5 * t + 0 ≤ 601024; omega, by show 75426 + 273 * t + 0 ≤ 7293000; omega⟩) (fun r1 S1 H locs hp hW => ?_)
  obtain ⟨hs, er1⟩ := hp
  have hk : k_X S S1 := by rw [hs]; exact k_FX hM (k_r S)
  have hM1 := hk.1
  have hY1 := hk.2.1 y _ hY
  have hO1 := hk.2.1 o _ hO
  refine s_aload_n (x := some y) hx hb dW_law_627 rfl (lv_at hl 3 rfl) ?_
  refine w_arg hx hb hXs hbl hbA hW.2.2.2.2 hl (k0 := 0) (k4 := 1) (j := 1) rfl rfl (by omega) hL dW_law_628 dW_law_629 dW_law_631 rfl dW_law_632 dW_law_633 ?_
  refine s_calli hW (s_runV (n := 1) (As := [.int (xs (1 + 4 * t + 1))]) (rest := [.int r1]) hC (c_M_state l G S1 H.size y (xs (1 + 4 * t + 1)) hM1 hY1) uc_M_state uw_586 uw_587 uw_588 uw_4 rfl rfl (by decide +kernel) ⟨by decide, by decide⟩ (g_preV hW gc_M hY1 [.int (xs (1 + 4 * t + 1))]) rfl hl.1 rfl (Nat.le_of_ble_eq_true rfl) dW_law_634 ⟨by show 31 + 5 * t + 0 + 0 ≤ 601024; omega, by show 75426 + 273 * t + 0 + 0 ≤ 7293000; omega⟩) (fun r2 S2 H locs hp hW => ?_)
  obtain ⟨hs2, er2⟩ := hp
  have heq : r1 = r2 := by rw [er1, er2, hs]; exact z_state h (xs (1 + 4 * t + 1))
  have hr : r_X S2 x y (t + 1) := by rw [hs2, hs]; exact ⟨P, L0, D, N, z_0 h 0 (by omega)⟩
  have ho2 : g_sh S2 o = some (.inr (2, 1)) := by rw [hs2]; exact hO1
  refine lv_icmp_eq (tgt := 681) hx hb dW_law_637 (by decide) (fun _ => ?_) (fun z => absurd heq z)
  refine W.widen (k := 31 + 5 * (t + 1)) (n := 75426 + 273 * (t + 1)) (by omega) (by omega) ?_
  exact kk _ _ _ _ ⟨hW, hr, ho2⟩ hl
set_option maxHeartbeats 4000000 in
set_option maxRecDepth 100000 in
theorem lw_12 {p : Program} {e : Env} {s : State} {m : MethodId} {below : List Frame} {meth : Method} {c : Code} {l : Launch} {b L : Nat} {xs : Nat → Int32} {H : Heap} {locs : List Loc} {Q : State → Prop} {ls : Array Slot} {G : gs_G} {S : gs_S} {x y o t : Nat} (hC : CallFix p m c code 8 s #[Value.ref b] gU "CallRowsLaw") (hXs : va_X b L xs s s.heap) (hbl : b < s.heap.size) (hL : L ≤ 2049) (ht : 1 + 4 * t + 4 ≤ L) (hl : lv_has ls 8 [(0, .ref b), (4, .int (nI (1 + 4 * t))), (1, va_rf (some x)), (2, va_rf (some y)), (3, va_rf (some o))]) (hI : lw_I s G S H locs x y o t)
    (kk : ∀ (S' : gs_S) (H' : Heap) (locs' : List Loc) (ls' : Array Slot), lw_I s G S' H' locs' x y o (t + 1) → lv_has ls' 8 [(0, .ref b), (4, .int (nI (1 + 4 * t))), (1, va_rf (some x)), (2, va_rf (some y)), (3, va_rf (some o))] → W p l e room_1 s m #[Value.ref b] below meth c H' locs' (31 + 5 * (t + 1)) (75426 + 273 * (t + 1)) Q (F0 m 681 ls' [])) : W p l e room_1 s m #[Value.ref b] below meth c H locs (31 + 5 * t) (75426 + 273 * t) Q (F0 m 642 ls []) := by
  obtain ⟨hW, ⟨P, L0, D, N, h⟩, hO⟩ := hI
  have ht5 : t < 512 := by omega
  have hbA : ¬ (fun q => s.heap.size ≤ q) b := fun z => absurd hbl (Nat.not_lt.mpr z)
  obtain ⟨hx, hb, hml, hown, hts⟩ := id hC
  obtain ⟨hWT, hM, hX, hY⟩ := h.1
  refine s_aload_n (x := some x) hx hb dW_law_642 rfl (lv_at hl 2 rfl) ?_
  refine s_calll hW (s_runV (n := 0) (As := []) (rest := []) hC (c_R_returned l G S H.size x  hWT hX) uc_R_returned uw_297 uw_298 uw_299 uw_1 rfl rfl (by decide +kernel) ⟨by decide, by decide⟩ (g_preV hW gc_R hX []) rfl hl.1 rfl (Nat.le_of_ble_eq_true rfl) dW_law_643 ⟨by show 31 + 5 * t + 0 ≤ 601024; omega, by show 75426 + 273 * t + 0 ≤ 7293000; omega⟩) (fun r1 S1 H locs hp hW => ?_)
  obtain ⟨hs, er1⟩ := hp
  have hk : k_X S S1 := by rw [hs]; exact k_FX hM (k_r S)
  have hM1 := hk.1
  have hY1 := hk.2.1 y _ hY
  have hO1 := hk.2.1 o _ hO
  refine s_aload_n (x := some y) hx hb dW_law_646 rfl (lv_at hl 3 rfl) ?_
  refine s_calll hW (s_runV (n := 0) (As := []) (rest := [.long r1]) hC (c_M_returned l G S1 H.size y  hM1 hY1) uc_M_returned uw_590 uw_591 uw_592 uw_4 rfl rfl (by decide +kernel) ⟨by decide, by decide⟩ (g_preV hW gc_M hY1 []) rfl hl.1 rfl (Nat.le_of_ble_eq_true rfl) dW_law_647 ⟨by show 31 + 5 * t + 0 + 0 ≤ 601024; omega, by show 75426 + 273 * t + 0 + 0 ≤ 7293000; omega⟩) (fun r2 S2 H locs hp hW => ?_)
  refine W.lcmp hx hb dW_law_650 ?_
  obtain ⟨hs2, er2⟩ := hp
  have heq : r1 = r2 := by rw [er1, er2, hs]; exact h.2.2.2.2.1.2.2.2.2.2.1
  have hr : r_X S2 x y (t + 1) := by rw [hs2, hs]; exact ⟨P, L0, D, N, z_0 h 0 (by omega)⟩
  have ho2 : g_sh S2 o = some (.inr (2, 1)) := by rw [hs2]; exact hO1
  refine lv_if_eq (tgt := 681) hx hb dW_law_651 (by decide) (fun _ => ?_) (fun z => absurd (by rw [heq]; unfold lg_cmp; rw [if_neg (Int64.lt_irrefl), if_pos rfl]) z)
  refine W.widen (k := 31 + 5 * (t + 1)) (n := 75426 + 273 * (t + 1)) (by omega) (by omega) ?_
  exact kk _ _ _ _ ⟨hW, hr, ho2⟩ hl
set_option maxHeartbeats 4000000 in
set_option maxRecDepth 100000 in
theorem lw_13 {p : Program} {e : Env} {s : State} {m : MethodId} {below : List Frame} {meth : Method} {c : Code} {l : Launch} {b L : Nat} {xs : Nat → Int32} {H : Heap} {locs : List Loc} {Q : State → Prop} {ls : Array Slot} {G : gs_G} {S : gs_S} {x y o t : Nat} (hC : CallFix p m c code 8 s #[Value.ref b] gU "CallRowsLaw") (hXs : va_X b L xs s s.heap) (hbl : b < s.heap.size) (hL : L ≤ 2049) (ht : 1 + 4 * t + 4 ≤ L) (hl : lv_has ls 8 [(0, .ref b), (4, .int (nI (1 + 4 * t))), (1, va_rf (some x)), (2, va_rf (some y)), (3, va_rf (some o))]) (hI : lw_I s G S H locs x y o t)
    (kk : ∀ (S' : gs_S) (H' : Heap) (locs' : List Loc) (ls' : Array Slot), lw_I s G S' H' locs' x y o (t + 1) → lv_has ls' 8 [(0, .ref b), (4, .int (nI (1 + 4 * t))), (1, va_rf (some x)), (2, va_rf (some y)), (3, va_rf (some o))] → W p l e room_1 s m #[Value.ref b] below meth c H' locs' (31 + 5 * (t + 1)) (75426 + 273 * (t + 1)) Q (F0 m 681 ls' [])) : W p l e room_1 s m #[Value.ref b] below meth c H locs (31 + 5 * t) (75426 + 273 * t) Q (F0 m 656 ls []) := by
  obtain ⟨hW, ⟨P, L0, D, N, h⟩, hO⟩ := hI
  have ht5 : t < 512 := by omega
  have hbA : ¬ (fun q => s.heap.size ≤ q) b := fun z => absurd hbl (Nat.not_lt.mpr z)
  obtain ⟨hx, hb, hml, hown, hts⟩ := id hC
  obtain ⟨hWT, hM, hX, hY⟩ := h.1
  refine s_aload_n (x := some x) hx hb dW_law_656 rfl (lv_at hl 2 rfl) ?_
  refine w_arg hx hb hXs hbl hbA hW.2.2.2.2 hl (k0 := 0) (k4 := 1) (j := 1) rfl rfl (by omega) hL dW_law_657 dW_law_658 dW_law_660 rfl dW_law_661 dW_law_662 ?_
  refine s_calli hW (s_runV (n := 1) (As := [.int (xs (1 + 4 * t + 1))]) (rest := []) hC (c_R_count l G S H.size x (xs (1 + 4 * t + 1)) hWT hX) uc_R_count uw_301 uw_302 uw_303 uw_1 rfl rfl (by decide +kernel) ⟨by decide, by decide⟩ (g_preV hW gc_R hX [.int (xs (1 + 4 * t + 1))]) rfl hl.1 rfl (Nat.le_of_ble_eq_true rfl) dW_law_663 ⟨by show 31 + 5 * t + 0 ≤ 601024; omega, by show 75426 + 273 * t + 0 ≤ 7293000; omega⟩) (fun r1 S1 H locs hp hW => ?_)
  obtain ⟨hs, er1⟩ := hp
  have hk : k_X S S1 := by rw [hs]; exact k_FX hM (k_r S)
  have hM1 := hk.1
  have hY1 := hk.2.1 y _ hY
  have hO1 := hk.2.1 o _ hO
  refine s_aload_n (x := some y) hx hb dW_law_666 rfl (lv_at hl 3 rfl) ?_
  refine w_arg hx hb hXs hbl hbA hW.2.2.2.2 hl (k0 := 0) (k4 := 1) (j := 1) rfl rfl (by omega) hL dW_law_667 dW_law_668 dW_law_670 rfl dW_law_671 dW_law_672 ?_
  refine s_calli hW (s_runV (n := 1) (As := [.int (xs (1 + 4 * t + 1))]) (rest := [.int r1]) hC (c_M_count l G S1 H.size y (xs (1 + 4 * t + 1)) hM1 hY1) uc_M_count uw_594 uw_595 uw_596 uw_4 rfl rfl (by decide +kernel) ⟨by decide, by decide⟩ (g_preV hW gc_M hY1 [.int (xs (1 + 4 * t + 1))]) rfl hl.1 rfl (Nat.le_of_ble_eq_true rfl) dW_law_673 ⟨by show 31 + 5 * t + 0 + 0 ≤ 601024; omega, by show 75426 + 273 * t + 0 + 0 ≤ 7293000; omega⟩) (fun r2 S2 H locs hp hW => ?_)
  obtain ⟨hs2, er2⟩ := hp
  have heq : r1 = r2 := by rw [er1, er2, hs]; exact z_count h (xs (1 + 4 * t + 1))
  have hr : r_X S2 x y (t + 1) := by rw [hs2, hs]; exact ⟨P, L0, D, N, z_0 h 0 (by omega)⟩
  have ho2 : g_sh S2 o = some (.inr (2, 1)) := by rw [hs2]; exact hO1
  refine lv_icmp_eq (tgt := 681) hx hb dW_law_676 (by decide) (fun _ => ?_) (fun z => absurd heq z)
  refine W.widen (k := 31 + 5 * (t + 1)) (n := 75426 + 273 * (t + 1)) (by omega) (by omega) ?_
  exact kk _ _ _ _ ⟨hW, hr, ho2⟩ hl
