/-! the law's own get, and a call of it -/
set_option maxHeartbeats 4000000 in
set_option maxRecDepth 100000 in
theorem c_W_get (l : Launch) (hfl : l.flags = pinnedFlags ++ [noTraceFlag]) (G : gs_G) (S : gs_S) (sz x o : Nat) (n : Int32) (hWT : w_t S) (hX : g_sh S x = some (.inl 2)) (hO : g_sh S o = some (.inr (2, 1))) : Met l yW_get (kW_get :: gU) { frames := 7, cells := 1, slots := 6, locals := 123 } (fun a U => g_Pc G S sz [va_rf (some x), .int n, va_rf (some o)] a U ∧ x_T U) (g_Qi G S sz (fun r S' => (f_get S x n = none ∧ r = 1 ∧ S' = S) ∨ ∃ v, f_get S x n = some v ∧ r = 0 ∧ S' = p_al S 2 o 0 v)) 1 6 (g_A S sz) := by
  refine va_MetW (cc := cW_get) (maxL := 4) (ret := some .int) (hh := [(0, 8, 11, 13)]) (by decide) rfl ?_
  intro p e s m args below meth c s₁ B hml hv
  obtain ⟨⟨rfl, hsz, hP, hK⟩, hxT⟩ := hv
  have hl := lv_entry [va_rf (some x), Value.int n, va_rf (some o)] (n := 4) (Nat.le_of_ble_eq_true rfl)
  rw [lg_entry_eq]
  generalize (lg_sl [va_rf (some x), Value.int n, va_rf (some o)] ++ List.replicate (4 - (lg_sl [va_rf (some x), Value.int n, va_rf (some o)]).length) Slot.unset).toArray = ls at hl ⊢
  subst hsz
  have hC : CallFix p m c cW_get 4 s [va_rf (some x), Value.int n, va_rf (some o)].toArray gU "CallRowsLaw" := ⟨B.exec, B.bytes, hml, findClass_of_methodNamed B.named, fun w h => atoms_spec (ws := kW_get :: gU) B.pre w (List.mem_cons_of_mem _ h)⟩
  have hW : g_W G (g_A S s.heap.size) s S s.heap [] := ⟨hK, hP, fun a h => Or.inl h, fun q h => Or.inr h, va_S.rf⟩
  have hhd : c.exceptionTable.toList.map (fun h => (h.startPc, h.endPc, h.handlerPc, h.catchType)) = [(0, 8, 11, 13)] := by
    obtain ⟨m9, meth9, c9, hn9, g1, g2, -, -, g5, -⟩ := Cond.codeWith_spec (atoms_spec (ws := kW_get :: gU) B.pre _ List.mem_cons_self)
    cases B.named.symm.trans hn9
    cases B.method.symm.trans g1
    cases (Stand.of_body B).code.symm.trans g2
    exact g5
  obtain ⟨hx, hb, -, hown, hts⟩ := id hC
  have hr := B.returns
  have hlocks := B.notSynchronized
  have hl : lv_has ls 4 [(0, va_rf (some x)), (1, .int n), (2, va_rf (some o))] := hl
  refine s_aload_n (x := some o) hx hb dW_get_0 rfl (lv_at hl 2 rfl) ?_
  refine lv_iconst (v := 0) hx hb dW_get_1 (by decide) ?_
  refine s_aload_n (x := some x) hx hb dW_get_2 rfl (lv_at hl 0 rfl) ?_
  refine lv_iload_n hx hb dW_get_3 rfl (lv_at hl 1 rfl) ?_
  cases hv : f_get S x n with
  | none =>
    refine s_caught hfl hC hhd hl.1 hW hxT (fun _ _ h _ => h) hWT hX hv (by decide) dW_get_4 (Nat.le_of_ble_eq_true rfl) ⟨by decide, by decide, by decide, by decide⟩ (fun a H1 locs1 hW => ?_)
    refine s_astore_n (x := some a) (lv' := [(3, va_rf (some a)), (0, va_rf (some x)), (1, .int n), (2, va_rf (some o))]) hx hb dW_get_11 rfl hl (by decide) rfl (fun ls hl => ?_)
    refine lv_iconst (v := 1) hx hb dW_get_12 (by decide) ?_
    exact s_iret hC hr hlocks rfl hW dW_get_13 (Or.inl ⟨rfl, rfl, rfl⟩)
  | some v =>
    refine s_calll hW (s_runV (n := 1) (As := [.int n]) (rest := [.int 0, va_rf (some o)]) hC (c_R_getR l G S s.heap.size x n hWT hX v hv) uc_R_get uw_312 uw_313 uw_314 uw_1 rfl rfl (by decide +kernel) ⟨by decide, by decide⟩ (g_preV hW gc_R hX [.int n]) rfl hl.1 rfl (Nat.le_of_ble_eq_true rfl) dW_get_4 ⟨Nat.le_of_ble_eq_true rfl, Nat.le_of_ble_eq_true rfl⟩) (fun q4 S4 H locs hp4 hW => ?_)
    obtain ⟨rfl, hs4⟩ := hp4
    replace hs4 := hs4.symm
    subst hs4
    refine k_last hC hW hO rfl rfl (by decide) 0 rfl (by decide) dW_get_7 (fun H locs hW => ?_)
    refine lv_goto (tgt := 14) hx hb dW_get_8 (by decide) ?_
    refine lv_iconst (v := 0) hx hb dW_get_14 (by decide) ?_
    refine W.widen (k := 1) (n := 6) (by decide) (by decide) ?_
    exact s_iret hC hr hlocks rfl hW dW_get_15 (Or.inr ⟨_, rfl, rfl, rfl⟩)
/-- a call of a static method that has handlers -/
theorem s_runSW {p : Program} {l : Launch} {e : Env} {R : Room} {s : State} {m : MethodId} {args : Array Value} {below : List Frame} {meth : Method} {c : Code} {H : Heap} {locs : List Loc} {cells slots : Nat} {cc : ByteArray} {pc nL mc ms : Nat} {ls : Array Slot} {rest st0 : List Value} {own : String} {y : MethodName} {bytes : ByteArray} {maxL n index : Nat} {ret : Option FieldType} {hh : List (Nat × Nat × Nat × Nat)} {rm : Room} {Pc : Array Value → State → Prop} {Qc : Array Value → State → Outcome → State → Prop} {free : Addr → Prop} {As : List Value} (hC : CallFix p m c cc nL s args gU own) (hM : Met l y (Cond.codeWith y bytes maxL ret hh :: gU) rm Pc Qc mc ms free) (hk : Cond.codeWith y bytes maxL ret hh ∈ gU) (h1 : Cond.methodLink own index y ∈ gU) (h2 : Cond.static y ∈ gU) (h4 : Cond.initialized y.cls ∈ gU) (hrc : rm.cells = mc) (hrs : rm.slots = ms)
    (hd : y.cls ≠ "java/lang/invoke/MethodHandle" ∧ y.cls ≠ "java/lang/invoke/VarHandle") (hpn : (parseMethodDescriptor y.desc).map (fun d => d.parameters.length) = some n) (hR : rm.frames + 1 ≤ R.frames ∧ 8 + (maxL + 11) + rm.locals ≤ R.locals) (hp : PreS s H Pc As) (hn : As.length = n) (hsize : ls.size = nL) (hstack : st0 = As.reverse ++ rest) (hW : (rest.map fun v => v.category).sum ≤ 8) (hdg : decode cc pc = .ok (.invokestatic index, 3)) (hf : cells + mc ≤ R.cells ∧ slots + ms ≤ R.slots) :
    va_Run p l e R s m args below meth c H locs cells slots mc ms (F0 m pc ls st0) rest (Qc As.toArray) free := by
  obtain ⟨hx, hb, hml, hown, hts⟩ := hC
  have hgood : ∀ w ∈ gU, ∀ (a' : Array Value) (U : State), s.WarmedH U.vm → w.before a' U = true := fun w hw a' U hWm => word_at hWm (good_of_word (List.mem_filter.mp hw).2) (hts w hw)
  have hK : Back l R p e below s args y 3 8 (PreOf R mc ms Pc) (PostOf Qc mc ms free) := va_backW (hh := hh) (bytes := bytes) (maxL := maxL) (ret := ret) hM hp.1 hrc hrs hR.1 hR.2 (fun w hw a' U hWm => by
    rcases List.mem_cons.mp hw with rfl | hw
    · exact hgood _ hk _ _ hWm
    · exact hgood _ hw _ _ hWm) List.mem_cons_self (fun a' U hWm => hgood _ h4 _ _ hWm)
  intro T hT X
  obtain ⟨mk, methM, cM, hnamed, hmethM, -, -, -, -, -, -, hsigM⟩ := Cond.codeWith_spec (hts _ hk)
  have hstatic : methM.isStatic = true := Cond.static_spec hnamed hmethM (hts _ h2)
  obtain ⟨kP, hkP, -⟩ := className_of_methodNamed hnamed
  have hinitP : kP.init = .initialized := Cond.initialized_spec (findClass_of_methodNamed hnamed) hkP (hts _ h4)
  have hpar : As.length = methM.sig.parameters.length := by
    rw [hsigM] at hpn
    rw [hn]
    exact (Option.some.inj hpn).symm
  obtain ⟨vm₁, X₁, hstep₁⟩ := X.invokestatic hx hown (hts _ h1) hnamed hmethM hstatic hkP hinitP hd (g := F0 m pc ls st0) rfl (argsL := As) (rest := rest) hpar hstack (by rw [hb]; exact hdg)
  obtain ⟨v, ⟨U', l2, c2, s2⟩, X', ⟨g', mk', t, L, e1, e2, hq, h1', hL, h2', h3'⟩, hsteps⟩ := hK m meth c ⟨T.setVm vm₁, locs, cells, slots⟩ (F0 m pc ls rest) (.invokestatic index) mk As.toArray X₁ rfl (hsize.trans hml.symm) (by rw [hb]; exact hdg) (by simpa [F0] using hW) (X₁.named hnamed) ⟨hf.1, hf.2, hp.2 (T.setVm vm₁) hT X₁.warmed⟩
  dsimp only [Pt.U, Pt.locs, Pt.cells, Pt.slots] at X' e1 e2 h1' h2' h3' hsteps
  subst h1'; subst h2'; subst h3'
  exact ⟨v, (T.setVm vm₁).calling g' mk' As.toArray, t, U', L, hT, X', hL, e1, e2, hq, fun target h => hstep₁ _ fun acts => by rw [doInvoke_state]; exact hsteps.trans h⟩
