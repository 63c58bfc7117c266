/-! WHAT IS THROWN -/
/-- the words of a throw that do not ride with the tables alone -/
def x_ws : List Cond := [.declares (Bundle.initS "java/lang/RuntimeException"), .declares (Bundle.initS "java/lang/Exception"), .declares (Bundle.initS Bundle.tN), .castable "java/lang/IllegalArgumentException" "java/lang/IllegalArgumentException", .laysStatic Bundle.tN "UNASSIGNED_STACK" Bundle.steD, .laysStatic Bundle.tN "SUPPRESSED_SENTINEL" Bundle.listD, .isRef (.static Bundle.tN "UNASSIGNED_STACK" Bundle.steD), .isRef (.static Bundle.tN "SUPPRESSED_SENTINEL" Bundle.listD)]
def x_T (U : State) : Prop := (∃ a : Nat, vk_R "CallRows" 181 "the cell is not visible" a U) ∧ ∀ w ∈ x_ws, w.before #[] U = true
/-- the cells of static fields are as they were -/
def x_H (H H' : Heap) : Prop := ∀ (a : Nat) (cell : Cell), H[a]? = some cell → cell.vm.isStatics = true → H'[a]? = some cell
theorem x_tab {s U : State} (hW : s.WarmedH U.vm) {w : Cond} {A A' : Array Value} (h1 : w.keepsFace = true) (h2 : w.onTables = true) (h : w.before A s = true) : w.before A' U = true := by
  have := Cond.before_shiftedFace (State.Shifted.of_warmed hW) w h1 h
  rw [Cond.onTables_vm (A' := A') (U' := U) U.vm w h2] at this
  rw [State.setVm_self] at this
  exact this
theorem x_lay {s U : State} (hW : s.WarmedH U.vm) (hH : x_H s.heap U.heap) {O n d : String} (h : (Cond.laysStatic O n d).before #[] s = true) : (Cond.laysStatic O n d).before #[] U = true := by
  have h := Cond.before_shiftedFace (State.Shifted.of_warmed hW) (.laysStatic O n d) rfl h
  simp only [Cond.before, Cond.holds, Cond.value] at h ⊢
  have e1 : (s.setVm U.vm).vm.findClass O = U.vm.findClass O := rfl
  have e2 : (s.setVm U.vm).fieldFound? O n d = U.fieldFound? O n d := rfl
  have e3 : (s.setVm U.vm).heap = s.heap := rfl
  rw [e1, e2, e3] at h
  cases hc : U.vm.findClass O with
  | none => simp [hc] at h
  | some c =>
    cases hf : U.fieldFound? O n d with
    | none => simp [hc, hf] at h
    | some q =>
      obtain ⟨c', k, i, f⟩ := q
      simp only [hc, hf] at h ⊢
      cases hs : k.statics with
      | none => simp [hs] at h
      | some a =>
        cases hcell : s.heap[a]? with
        | none => simp [hs, hcell] at h
        | some cell =>
          by_cases hst : cell.vm.isStatics = true
          · simp only [hs, Option.bind_some, hcell, hH a cell hcell hst] at h ⊢
            exact h
          · simp [hs, hcell, hst] at h
theorem x_ref {s U : State} (hW : s.WarmedH U.vm) (hH : x_H s.heap U.heap) {O n d : String} (h : (Cond.isRef (.static O n d)).before #[] s = true) : (Cond.isRef (.static O n d)).before #[] U = true := by
  have h := Cond.before_shiftedFace (State.Shifted.of_warmed hW) (.isRef (.static O n d)) rfl h
  have e2 : (s.setVm U.vm).fieldFound? O n d = U.fieldFound? O n d := rfl
  have e3 : (s.setVm U.vm).heap = s.heap := rfl
  simp only [Cond.before, Cond.holds, Cond.value, Term.eval, State.fieldNamed?, e2, e3] at h ⊢
  cases hf : U.fieldFound? O n d with
  | none => simp [hf] at h
  | some q =>
    obtain ⟨c', k, i, f⟩ := q
    by_cases hfs : f.isStatic = true
    · cases hs : k.statics with
      | none => simp [hf, hfs, hs] at h
      | some a =>
        cases hcell : s.heap[a]? with
        | none => simp [hf, hfs, hs, hcell] at h
        | some cell =>
          by_cases hst : cell.vm.isStatics = true
          · have hc' := hH a cell hcell hst
            simp [hf, hfs, hs, hcell, hc', hst] at h ⊢
            exact h
          · simp [hf, hfs, hs, hcell, hst] at h
    · simp [hf, hfs] at h
theorem x_T.moved {s U : State} (hW : s.WarmedH U.vm) (hH : x_H s.heap U.heap) (h : x_T s) : x_T U := by
  obtain ⟨⟨a, h1⟩, h2⟩ := h
  refine ⟨⟨a, vk_R.warm hW h1⟩, ?_⟩
  have h2 := fun w hw => h2 w hw
  simp only [x_ws, List.forall_mem_cons] at h2 ⊢
  obtain ⟨q1, q2, q3, q4, q5, q6, q7, q8, -⟩ := h2
  exact ⟨x_tab hW rfl rfl q1, x_tab hW rfl rfl q2, x_tab hW rfl rfl q3, x_tab hW rfl rfl q4, x_lay hW hH q5, x_lay hW hH q6, x_ref hW hH q7, x_ref hW hH q8, fun _ h => absurd h List.not_mem_nil⟩
/-- no cell of ours holds static fields -/
theorem x_no {G : gs_G} {S : gs_S} {H : Heap} (hP : g_P G S H) {a : Nat} (h : g_sh S a ≠ none) {cell : Cell} (hc : H[a]? = some cell) : cell.vm.isStatics = false := by
  have hx : ∃ e1, g_E G.2 S a = some e1 := by
    unfold g_E
    cases hs : g_sh S a with
    | none => exact absurd hs h
    | some x => cases x with
      | inl c => exact ⟨_, rfl⟩
      | inr q => exact ⟨_, rfl⟩
  obtain ⟨e1, h1⟩ := hx
  have h2 := hP a e1 h1
  unfold va_at at h2
  cases e1 with
  | inl q =>
    simp only [] at h2
    rw [hc] at h2
    have h2 := Option.some.inj h2
    rw [h2]
    unfold vp_cell
    repeat' split
    all_goals rfl
  | inr q =>
    simp only [] at h2
    obtain ⟨r, -, cell', h3, -, h4, -⟩ := h2
    rw [hc] at h3
    cases Option.some.inj h3
    rw [h4]
    rfl
theorem x_HW {G : gs_G} {S S0 : gs_S} {s : State} {H : Heap} {locs : List Loc} (hP0 : g_P G S0 s.heap) (hW : g_W G (g_A S0 s.heap.size) s S H locs) : x_H s.heap H := by
  intro a cell hc hst
  have hlt := (Array.getElem?_eq_some_iff.mp hc).1
  rw [hW.2.2.2.2.2.1 a hlt (fun z => by
    rcases z with z | z
    · rw [x_no hP0 z hc] at hst; cases hst
    · exact absurd hlt (Nat.not_lt.mpr z))]
  exact hc
