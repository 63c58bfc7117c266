/-! R.get: its end, by an answer or by a throw -/
set_option maxRecDepth 100000 in
theorem x_own : ∀ w ∈ Bundle.ownAtoms "CallRows" 183 "java/lang/IllegalArgumentException" ["java/lang/RuntimeException", "java/lang/Exception"], w ∈ gU ∨ w ∈ x_ws := by decide +kernel
theorem x_cl179 : Cond.classLink "CallRows" 179 "java/lang/IllegalArgumentException" ∈ gU := by decide +kernel
theorem x_ini : Cond.initialized "java/lang/IllegalArgumentException" ∈ gU := by decide +kernel
theorem x_inst : Cond.instantiable "java/lang/IllegalArgumentException" 6 ∈ gU := by decide +kernel
/-- the same walk, seen from where it stands -/
theorem st_re {p : Program} {l : Launch} {e : Env} {R : Room} {s : State} {m : MethodId} {args : Array Value} {below : List Frame} {meth : Method} {c : Code} {T : State} {locs : List Loc} {cells slots : Nat} (X : Stand p l e R s m args below meth c T locs cells slots) (hRc : cells ≤ R.cells) (hRs : slots ≤ R.slots) : Stand p l e { R with cells := R.cells - cells, slots := R.slots - slots } { s with heap := T.heap, slotsUsed := T.slotsUsed, vm := T.vm } m args below meth c T [] 0 0 := by
  have hm' : T.vm.method? m = some meth := X.method'
  have hal := X.warmed.alike
  refine ⟨X.admits, X.cas, X.clock, X.frames, ?_, ?_, hm', X.code, X.here, X.tail, State.WarmedH.refl { s with heap := T.heap, slotsUsed := T.slotsUsed, vm := T.vm }, X.limits, X.bytes, ?_⟩
  · have h := X.room
    have hb := X.book
    have h1 := X.heapSize
    have h2 := X.used
    have hli : ({ s with heap := T.heap, slotsUsed := T.slotsUsed, vm := T.vm } : State).localsInUse = s.localsInUse := by
      unfold State.localsInUse
      have e1 : ({ s with heap := T.heap, slotsUsed := T.slotsUsed, vm := T.vm } : State).frames = s.frames := rfl
      rw [e1, X.frames]
      simp only []
      rw [hm', X.method]
    have hsl : ({ s with heap := T.heap, slotsUsed := T.slotsUsed, vm := T.vm } : State).slotsTrue = true := hb
    have e1 : ({ s with heap := T.heap, slotsUsed := T.slotsUsed, vm := T.vm } : State).frames = s.frames := rfl
    have e2 : ({ s with heap := T.heap, slotsUsed := T.slotsUsed, vm := T.vm } : State).me = s.me := rfl
    unfold State.hasRoom at h ⊢
    rw [hli, hsl, e1, e2]
    simp only [Bool.and_eq_true, decide_eq_true_eq] at h ⊢
    obtain ⟨⟨⟨⟨q1, q2⟩, q3⟩, q4⟩, q5⟩ := h
    refine ⟨⟨⟨⟨q1, q2⟩, ?_⟩, ?_⟩, trivial⟩
    · show T.heap.size + (R.cells - cells) ≤ _
      omega
    · show T.slotsUsed + (R.slots - slots) ≤ _
      omega
  · have h := X.hears
    unfold State.hears at h ⊢
    cases below with
    | nil =>
      simp only [] at h ⊢
      rw [X.method] at h
      rw [hm']; exact h
    | cons f r =>
      cases f with
      | java g =>
        simp only [] at h ⊢
        rw [State.code?_eq] at h ⊢
        rw [show ({ s with heap := T.heap, slotsUsed := T.slotsUsed, vm := T.vm } : State).vm = T.vm from rfl, hal.method?]
        exact h
      | native _ => rfl
      | proc _ => rfl
      | _ =>
        simp only [] at h ⊢
        rw [X.method] at h
        rw [hm']; exact h
  · have h1 := X.same.1
    have e3 : T = ({ s with heap := T.heap, slotsUsed := T.slotsUsed, vm := T.vm } : State).setFrames T.frames := by
      have e0 : T = (T.setVm s.vm).setVm T.vm := rfl
      rw [h1] at e0
      exact e0
    refine ⟨e3, Nat.le_refl _, Nat.le_refl _, ?_, ?_, fun a cell hc => ⟨cell, hc, rfl, rfl, fun _ _ => rfl⟩⟩
    · show T.slotsUsed = T.slotsUsed + ((T.heap.toList.drop T.heap.size).map _).sum
      rw [List.drop_eq_nil_of_le (by simp)]; rfl
    · show ((T.heap.toList.drop T.heap.size).map _).sum ≤ 0
      rw [List.drop_eq_nil_of_le (by simp)]; exact Nat.le_refl _

def MQT (below : List Frame) (Qc : Array Value → State → Outcome → State → Prop) (a : Array Value) (s : State) (mc ms : Nat) (free : Addr → Prop) : State → Prop := fun t => ∃ o, t.status = .running ∧ Ended t below o ∧ Qc a s o t ∧ ∃ L, x_FE s o t L mc ms ∧ ∀ q ∈ L, free q.base
/-- thrown: an IllegalArgumentException of its own; what was there stands as it stood -/
def g_QT (G : gs_G) (S : gs_S) : Array Value → State → Outcome → State → Prop := fun _ s o t => ∃ (a : Nat) (cell : Cell), o = .threw a ∧ t.heap[a]? = some cell ∧ cell.vm = .none ∧ s.vm.findClass "java/lang/IllegalArgumentException" = some cell.cls ∧ g_P G S t.heap ∧ g_K G t ∧ va_F (g_A S s.heap.size) s t
set_option maxHeartbeats 4000000 in
theorem s_throw {p : Program} {l : Launch} {e : Env} {R : Room} {s : State} {m : MethodId} {args : Array Value} {below : List Frame} {meth : Method} {c : Code} {H : Heap} {locs : List Loc} {ls : Array Slot} {G : gs_G} {S : gs_S} (htr : e.platform.stackTraces = false) (hC : CallFix p m c cR_get 4 s args gU "CallRows") (hex : c.exceptionTable.isEmpty = true) (hlocks : meth.locks = false) (hl : ls.size = 4) (hP0 : g_P G S s.heap) (hW : g_W G (g_A S s.heap.size) s S H locs) (hx : x_T s) (hR : 5 < R.frames ∧ 90 ≤ R.locals ∧ 1 ≤ R.cells ∧ 6 ≤ R.slots) : W p l e R s m args below meth c H locs 0 0 (MQT below (g_QT G S) args s 1 6 (g_A S s.heap.size)) (F0 m 10 ls []) := by
  intro T hT X
  obtain ⟨hexec, hb, hml, hown, hts⟩ := hC
  have hH := x_HW hP0 hW
  have Y := st_re X (Nat.zero_le _) (Nat.zero_le _)
  have hxs : x_T { s with heap := T.heap, slotsUsed := T.slotsUsed, vm := T.vm } := hx.moved (U := { s with heap := T.heap, slotsUsed := T.slotsUsed, vm := T.vm }) X.warmed (by show x_H s.heap T.heap; rw [hT]; exact hH)
  have htS : ∀ w ∈ gU, ∀ A : Array Value, w.before A { s with heap := T.heap, slotsUsed := T.slotsUsed, vm := T.vm } = true := fun w hw A => word_at (U := { s with heap := T.heap, slotsUsed := T.slotsUsed, vm := T.vm }) X.warmed (good_of_word (List.mem_filter.mp hw).2) (hts w hw)
  have hownS : ({ s with heap := T.heap, slotsUsed := T.slotsUsed, vm := T.vm } : State).vm.findClass "CallRows" = some m.cls := by
    show T.vm.findClass "CallRows" = _
    rw [X.warmed.alike.findClass]; exact hown
  obtain ⟨⟨sa, hconst, hev⟩, hxw⟩ := hxs
  have hat : ∀ a ∈ Bundle.ownAtoms "CallRows" 183 "java/lang/IllegalArgumentException" ["java/lang/RuntimeException", "java/lang/Exception"], a.before args { s with heap := T.heap, slotsUsed := T.slotsUsed, vm := T.vm } = true := fun a ha => by
    rcases x_own a ha with z | z
    · exact htS a z args
    · have := hxw a z
      simp only [x_ws, List.mem_cons, List.not_mem_nil, or_false] at z
      rcases z with rfl | rfl | rfl | rfl | rfl | rfl | rfl | rfl <;> exact this
  generalize hs' : ({ s with heap := T.heap, slotsUsed := T.slotsUsed, vm := T.vm } : State) = s' at *
  have hsh : s'.heap = T.heap := by rw [← hs']
  have hsv : s'.vm = T.vm := by rw [← hs']
  have hconst' : (Cond.stringRef "CallRows" 181 "the cell is not visible").before args s' = true := hconst
  have hev' : (Term.string "CallRows" 181).eval args s' none [] s' = some (.ref sa) := hev
  obtain ⟨vm₁, cX, kX, hfX, hkX, -, -, X₁, st1⟩ := Y.newCold hexec (own := "CallRows") (C := "java/lang/IllegalArgumentException") (index := 179) (n := 6) hownS (htS _ x_cl179 _) (htS _ x_inst _) (htS _ x_ini _) (g := F0 m 10 ls []) rfl (by rw [hb]; exact dR_get_10) (by simp only [Nat.sub_zero]; omega) (by simp only [Nat.sub_zero]; omega)
  generalize hT1 : (T.setVm vm₁).pushCell { cls := cX, slots := kX.instanceTypes.map defaultValue } = T1 at X₁ st1
  have hcellA : T1.heap[T.heap.size]? = some (freshCell cX kX) := by rw [← hT1]; exact State.heap_pushCell_size _ _
  obtain ⟨U, hsteps, hrun, hend, hWU, hsame, ce, hce, K⟩ := X₁.ctorThrowS hexec htr (own := "CallRows") (cls := "java/lang/IllegalArgumentException") (names := ["java/lang/RuntimeException", "java/lang/Exception"]) (ic := 183) hownS (by decide +kernel) (by decide +kernel) hat (fun y hy => by cases hy) hfX hkX hcellA (by rw [hsh]; exact Nat.le_refl _) (msg := .ref sa) rfl (g := { F0 m 16 ls [] with stack := [.ref sa, .ref T.heap.size, .ref T.heap.size] }) rfl (by rw [hml]; exact hl) rfl rfl (rest := []) rfl (by rw [hb]; exact dR_get_16) (by rw [hb]; exact dR_get_19) (covers_of_empty hex _) (by simp; omega) (by simp [Value.category, F0]; omega)
  have hkeep : ∀ q : Nat, q < T.heap.size → U.heap[q]? = T.heap[q]? := fun q hq => by
    obtain ⟨cell, hcell⟩ : ∃ cell, T.heap[q]? = some cell := ⟨_, Array.getElem?_eq_getElem hq⟩
    obtain ⟨c', h1, h2, h3, h4⟩ := hsame.2.2.2.2.2 q cell (by rw [hsh]; exact hcell)
    rw [hcell]
    have h1' : U.heap[q]? = some c' := h1
    rw [h1', h2]
    have : c'.slots = cell.slots := Array.ext_getElem? (fun i => h4 i (fun z => by cases z))
    rw [this]
  refine ⟨U, ?_, .threw T.heap.size, hrun, hend, ⟨T.heap.size, ce, rfl, hce, K.vm, ?_, ?_, ?_, ?_, ?_⟩, locs, ⟨⟨_, rfl⟩, ?_, ?_⟩, hW.2.2.2.2.2.2⟩
  · refine st1 _ ?_
    show Steps p.tables e below (T1.setTop { F0 m 13 ls [] with stack := [.ref T.heap.size] }) _
    jvm_step X₁.here [X₁.here.top, hexec, hb, dR_get_13, Value.category, F0]
    exact X₁.ldcString hexec (own := "CallRows") (text := "the cell is not visible") (index := 181) (a := sa) hownS hconst' hev' (g := { F0 m 14 ls [] with stack := [.ref T.heap.size, .ref T.heap.size] }) rfl (by rw [hb]; exact dR_get_14) _ hsteps
  · have := K.cls
    rw [hsv, X.warmed.alike.findClass] at this
    exact this
  · intro a e1 he
    have h1 := hW.2.1 a e1 he
    exact h1.kept (by
      have := h1.lt
      rw [← hT] at this ⊢
      exact hkeep a this)
  · have hal : s.vm.Alike U.vm := X.warmed.alike.trans (by have := hWU.alike; rw [hsv] at this; exact this)
    exact g_K.moved hal hW.1
  · exact Nat.le_trans hW.2.2.2.2.1 (by rw [← hT]; have := hsame.2.1; rw [hsh] at this; exact this)
  · intro q h1 h2
    have hlt : q < T.heap.size := by rw [hT]; exact Nat.lt_of_lt_of_le h1 hW.2.2.2.2.1
    rw [hkeep q hlt, hT]
    exact hW.2.2.2.2.2.1 q h1 h2
  · exact State.WarmedH.trans (t := s') (by rw [hsv]; exact X.warmed) hWU
  · have h2 : s.sameButNew (T.setVm s.vm) locs 0 0 := X.same
    subst hs'
    have a2 := congrArg (fun z : State => z.setVm s.vm) hsame.1
    have a3 : (T.setVm s.vm).setFrames U.frames = { s.setFrames U.frames with heap := T.heap, slotsUsed := T.slotsUsed } := by
      have := congrArg (fun z : State => z.setFrames U.frames) X.same.1
      refine this.trans ?_
      show ({ (s.setFrames (T.setVm s.vm).frames).setFrames U.frames with heap := T.heap, slotsUsed := T.slotsUsed } : State) = _
      rw [State.setFrames_setFrames]
    have h5 : (T.setVm s.vm).sameButNew ({ U with vm := s.vm } : State) [] 1 6 := by
      refine ⟨?_, hsame.2⟩
      show _ = ({ (T.setVm s.vm).setFrames U.frames with heap := U.heap, slotsUsed := U.slotsUsed } : State)
      rw [a3]
      exact a2
    have h6 := h2.trans h5
    rw [List.append_nil] at h6
    exact h6
