/-! THE LAW'S OWN METHODS -/
abbrev kW_get : Cond := .codeWith yW_get cW_get 4 (some .int) [(0, 8, 11, 13)]
theorem uc_W_get : kW_get ∈ gU := by decide +kernel
theorem x_cl13 : Cond.classLink "CallRowsLaw" 13 "java/lang/IllegalArgumentException" ∈ gU := by decide +kernel
set_option maxHeartbeats 4000000 in
set_option maxRecDepth 100000 in
theorem c_W_cell (l : Launch) (G : gs_G) (S : gs_S) (sz b L : Nat) (xs : Nat → Int32) (hL : L ≤ 2049) (hbS : g_sh S b = none) : Met l yW_cell (kW_cell :: gU) { frames := 0, cells := 0, slots := 0, locals := 0 } (fun a U => g_Pc G S sz [.ref b, .int 0] a U ∧ va_X b L xs U U.heap ∧ b < U.heap.size) (g_Qi G S sz (fun r S' => S' = S ∧ r = if 0 < L then xs 0 else 0)) 0 0 (g_A S sz) := by
  refine Met.ofW (cc := cW_cell) (maxL := 2) (ret := some .int) (by decide) rfl ?_
  intro p e s m args below meth c s₁ B hml hv
  obtain ⟨⟨rfl, hsz, hP, hK⟩, hX, hbl⟩ := hv
  have hl := lv_entry [Value.ref b, Value.int 0] (n := 2) (Nat.le_of_ble_eq_true rfl)
  rw [lg_entry_eq]
  generalize (lg_sl [Value.ref b, Value.int 0] ++ List.replicate (2 - (lg_sl [Value.ref b, Value.int 0]).length) Slot.unset).toArray = ls at hl ⊢
  subst hsz
  have hC : CallFix p m c cW_cell 2 s [Value.ref b, Value.int 0].toArray gU "CallRowsLaw" := ⟨B.exec, B.bytes, hml, findClass_of_methodNamed B.named, fun w h => atoms_spec (ws := kW_cell :: gU) B.pre w (List.mem_cons_of_mem _ h)⟩
  have hW : g_W G (g_A S s.heap.size) s S s.heap [] := ⟨hK, hP, fun a h => Or.inl h, fun q h => Or.inr h, va_S.rf⟩
  obtain ⟨hx, hb, -, hown, hts⟩ := id hC
  have hr := B.returns
  have hlocks := B.notSynchronized
  have hbA : ¬ g_A S s.heap.size b := fun z => by
    rcases z with z | z
    · exact z hbS
    · exact absurd hbl (Nat.not_lt.mpr z)
  have hl : lv_has ls 2 [(0, va_rf (some b)), (1, .int 0)] := hl
  refine lv_iload_n hx hb dW_cell_0 rfl (lv_at hl 1 rfl) ?_
  refine s_aload_n (x := some b) hx hb dW_cell_1 rfl (lv_at hl 0 rfl) ?_
  refine va_slen hx hb hX hbl hbA hW.2.2.2.2 dW_cell_2 ?_
  refine lv_icmp_ge (tgt := 12) hx hb dW_cell_3 (by decide) (fun c_3 => ?_) (fun c_3 => ?_)
  · have h0 : ¬ 0 < L := fun z => by
      have := (nI_leI (a := L) (b := 0) (by omega) (by decide)).mp c_3
      omega
    refine lv_iconst (v := 0) hx hb dW_cell_12 (by decide) ?_
    exact s_iret hC hr hlocks rfl hW dW_cell_13 ⟨rfl, by rw [if_neg h0]⟩
  · have h0 : 0 < L := by
      rcases Nat.eq_zero_or_pos L with z | z
      · subst z; exact absurd (by decide) c_3
      · exact z
    refine s_aload_n (x := some b) hx hb dW_cell_6 rfl (lv_at hl 0 rfl) ?_
    refine lv_iload_n hx hb dW_cell_7 rfl (lv_at hl 1 rfl) ?_
    refine va_sld hx hb hX hbl hbA hW.2.2.2.2 (i := 0) (by
      intro z
      rcases z with z | z
      · exact absurd z (by decide)
      · have : (0 : Int32).toNatClampNeg = 0 := rfl
        omega) dW_cell_8 ?_
    refine lv_goto (tgt := 13) hx hb dW_cell_9 (by decide) ?_
    exact s_iret hC hr hlocks rfl hW dW_cell_13 ⟨rfl, by rw [if_pos h0]; rfl⟩
set_option maxHeartbeats 4000000 in
/-- the class's get throws, and the law's own get catches -/
theorem s_caught {p : Program} {l : Launch} {e : Env} {R : Room} {s : State} {m : MethodId} {args : Array Value} {below : List Frame} {meth : Method} {c : Code} {H : Heap} {locs : List Loc} {cells slots : Nat} {Q : State → Prop} {ls : Array Slot} {G : gs_G} {A : Nat → Prop} {S : gs_S} {x : Nat} {n : Int32} {rest : List Value} {pc : Nat} (hfl : l.flags = pinnedFlags ++ [noTraceFlag]) (hC : CallFix p m c cW_get 4 s args gU "CallRowsLaw") (hhd : c.exceptionTable.toList.map (fun h => (h.startPc, h.endPc, h.handlerPc, h.catchType)) = [(0, 8, 11, 13)]) (hl : ls.size = 4) (hW : g_W G A s S H locs) (hxT : x_T s) (hxH : x_H s.heap H) (hWT : w_t S) (hX : g_sh S x = some (.inl 2)) (hv : f_get S x n = none) (hpc : pc < 8) (hdg : decode cW_get pc = .ok (.invokevirtual 7, 3)) (hrest : (rest.map fun v => v.category).sum ≤ 8) (hR : 7 ≤ R.frames ∧ 123 ≤ R.locals ∧ cells + 1 ≤ R.cells ∧ slots + 6 ≤ R.slots)
    (kk : ∀ (a : Nat) (H1 : Heap) (locs1 : List Loc), g_W G A s S H1 locs1 → W p l e R s m args below meth c H1 locs1 (cells + 1) (slots + 6) Q (F0 m 11 ls [.ref a])) : W p l e R s m args below meth c H locs cells slots Q (F0 m pc ls (.int n :: .ref x :: rest)) := by
  intro T hT X
  obtain ⟨hexec, hb, hml, hown, hts⟩ := hC
  have hgood : ∀ w ∈ gU, ∀ (a' : Array Value) (U : State), s.WarmedH U.vm → w.before a' U = true := fun w hw a' U hWm => word_at hWm (good_of_word (List.mem_filter.mp hw).2) (hts w hw)
  have hb7 := hts _ uw_312
  obtain ⟨cellB, hcB, hoB, hclB⟩ := va_recv hW.1.1 (g_one hW.2.1 (g_E_o hX)) gc_R.1 (q0 := 0) rfl
  obtain ⟨mk, methM, hnamed, hmethM, hstM, habM⟩ := Cond.instanceMethod_spec (hts _ uw_313)
  obtain ⟨methM', cM, hmethM', -, -, -, -, -, -, hsigM⟩ := Cond.code_spec hnamed (hts _ uc_R_get)
  cases hmethM.symm.trans hmethM'
  obtain ⟨c2, r2, m2, q1, q2, q3, q4, kP, hkP, hkPi⟩ := Cond.selects_spec (hts _ uw_314)
  cases hclB.symm.trans q1
  cases (State.methodFound?_of_named hnamed (by decide)).symm.trans q2
  cases hnamed.symm.trans q3
  have hselP : selectMethod e.platform s.vm cellB.cls mk = .method mk := by rw [Launch.admits_selectMethod X.admits]; exact q4
  have hpar : methM.sig.parameters.length = 1 := by
    have : parseMethodDescriptor yR_get.desc = some ⟨[.int], some .long⟩ := by decide +kernel
    have hsigM' : parseMethodDescriptor yR_get.desc = some methM.sig := hsigM
    rw [this] at hsigM'; rw [← Option.some.inj hsigM']; rfl
  obtain ⟨vm₁, X₁, hstep₁⟩ := X.invokevirtual hexec hown hb7 hnamed hmethM hstM hkP hkPi (by decide) (a := x) (cell := cellB) (by rw [hT]; exact hcB) (fun z h => by rw [h] at hoB; cases hoB) hselP hmethM habM hkP hkPi (g := F0 m pc ls (.int n :: .ref x :: rest)) rfl (argsL := [.int n]) (rest := rest) hpar.symm rfl (by rw [hb]; exact hdg)
  obtain ⟨v, t, U', L, hq, e1, e2, hLf, X', hsteps⟩ := x_thrown X₁ (c_R_getT l hfl G S H.size x n hWT hX hv) (g := F0 m pc ls rest) rfl (hl.trans hml.symm) (by rw [hb]; exact hdg) (mk := mk) (a := [va_rf (some x), .int n].toArray) (X₁.named hnamed) (bytes := cR_get) (maxL := 4) (ret := some .long) (fun w hw => by
      rcases List.mem_cons.mp hw with rfl | hw
      · exact hgood _ uc_R_get _ _ X₁.warmed
      · exact hgood _ hw _ _ X₁.warmed) (hgood _ uc_R_get _ _ X₁.warmed) (hgood _ uw_1 _ _ X₁.warmed) ⟨hR.1, by
      have h8 : 2 * (F0 m pc ls rest).monitorRoom + ((F0 m pc ls rest).stack.map fun v => v.category).sum ≤ 8 := by simpa [F0] using hrest
      show _ + (4 + 11) + 100 ≤ R.locals
      omega, hR.2.2.1, hR.2.2.2⟩ ⟨⟨rfl, by show T.heap.size = _; rw [hT], by show g_P G S T.heap; rw [hT]; exact hW.2.1, g_K.moved (U := (T.setVm vm₁).calling (F0 m pc ls rest) mk [va_rf (some x), .int n].toArray) X₁.warmed.alike hW.1⟩, x_T.moved (U := (T.setVm vm₁).calling (F0 m pc ls rest) mk [va_rf (some x), .int n].toArray) X₁.warmed (by show x_H s.heap T.heap; rw [hT]; exact hxH) hxT⟩ (k := 1) (n := 6) (free := g_A S H.size) (fun o t hq => hq.2)
  obtain ⟨a, cell, hoe, hcell, hcv, hcls, hgP, hgK, hgF⟩ := hq.1
  have hoe := Outcome.threw.inj hoe
  subst hoe
  -- the handler
  obtain ⟨ent, hent⟩ : ∃ ent, c.exceptionTable.toList = [ent] := by
    cases hx : c.exceptionTable.toList with
    | nil => rw [hx] at hhd; cases hhd
    | cons e0 r =>
      rw [hx] at hhd
      cases r with
      | nil => exact ⟨e0, rfl⟩
      | cons e1 r => simp at hhd
  rw [hent] at hhd
  simp only [List.map_cons, List.map_nil, List.cons.injEq, Prod.mk.injEq, and_true] at hhd
  obtain ⟨n1, n2, n3, n4⟩ := hhd
  have hcls' : s.vm.findClass "java/lang/IllegalArgumentException" = some cell.cls := by
    have h0 : (T.setVm vm₁).vm.findClass "java/lang/IllegalArgumentException" = some cell.cls := hcls
    rw [X₁.warmed.alike.findClass] at h0
    exact h0
  obtain ⟨k1, k2, f1, f2, hasg⟩ := Cond.castable_spec (hxT.2 (.castable "java/lang/IllegalArgumentException" "java/lang/IllegalArgumentException") (by simp [x_ws]))
  cases hcls'.symm.trans f1
  cases hcls'.symm.trans f2
  obtain ⟨vm', X2, st2⟩ := x_handler X' (v := v) (g := F0 m pc ls rest) rfl (own := "CallRowsLaw") (name := "java/lang/IllegalArgumentException") hown hent (by unfold covers; rw [n1, n2]; simp [F0, hpc]) (by rw [n4]; decide) (by rw [n4]; exact hts _ x_cl13) hcls' (by rw [e1]; exact hcell) hcv hasg
  have hf := g_fr hW
  have hW2 : g_W G A s S U'.heap (locs ++ L) := by
    have hF1 : H.size ≤ t.heap.size := by have := hgF.1; rw [show ((T.setVm vm₁).calling (F0 m pc ls rest) mk _).heap = T.heap from rfl, hT] at this; exact this
    refine ⟨hW.1, by rw [e1]; exact hgP, hW.2.2.1, hW.2.2.2.1, ?_, fun q h1 h2 => ?_, fun q hq => ?_⟩
    · rw [e1]; exact Nat.le_trans hW.2.2.2.2.1 hF1
    · have hlt : q < H.size := Nat.lt_of_lt_of_le h1 hW.2.2.2.2.1
      have h3 := hgF.2 q (by rw [show ((T.setVm vm₁).calling (F0 m pc ls rest) mk _).heap = T.heap from rfl, hT]; exact hlt) (fun z => h2 (hf q (by
        rw [show ((T.setVm vm₁).calling (F0 m pc ls rest) mk _).heap = T.heap from rfl, hT] at z
        exact z)))
      rw [e1, h3, show ((T.setVm vm₁).calling (F0 m pc ls rest) mk _).heap = T.heap from rfl, hT]
      exact hW.2.2.2.2.2.1 q h1 h2
    · rcases List.mem_append.mp hq with h | h
      · exact hW.2.2.2.2.2.2 q h
      · exact hf _ (hLf q h)
  obtain ⟨tt, a1, b1⟩ := kk v U'.heap (locs ++ L) hW2 (U'.setVm vm') rfl X2
  refine ⟨tt, hstep₁ _ (fun acts => ?_), b1⟩
  rw [doInvoke_state]
  refine hsteps.trans ?_
  refine st2 _ ?_
  rw [n3]
  exact a1
