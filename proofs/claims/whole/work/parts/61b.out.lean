/-! OUT OF A METHOD BY A THROW, AND INTO A HANDLER -/
/-- it threw; nothing moved but L, and k cells of n slots came -/
def x_FE (first : State) (o : Outcome) (t : State) (L : List Loc) (k n : Nat) : Prop := (∃ a : Nat, o = .threw a) ∧ first.WarmedH t.vm ∧ first.sameButNew ({ t with vm := first.vm } : State) L k n
/-- a call that throws, from the caller's side -/
theorem x_thrown {p : Program} {l : Launch} {e : Env} {R : Room} {s : State} {m : MethodId} {args : Array Value} {below : List Frame} {meth : Method} {c : Code} {U : State} {locs : List Loc} {cells slots : Nat} (X : Stand p l e R s m args below meth c U locs cells slots) {y : MethodName} {ws : List Cond} {rm : Room} {Pc : Array Value → State → Prop} {Q : Array Value → State → Outcome → State → Prop} (hM : MetFree l y (headSpec ws rm) Pc (fun _ _ _ _ _ => True) Q) {g : JFrame} (hg : g.method = m) (hsize : g.locals.size = c.maxLocals) {ig : Instr} {len : Nat} (hdg : decode c.code g.pc = .ok (ig, len)) {mk : MethodId} {a : Array Value} (hn : U.methodNamed? y = some mk) {bytes : ByteArray} {maxL : Nat} {ret : Option FieldType} (hws : ∀ w ∈ ws, w.before a U = true) (hcode : (Cond.code y bytes maxL ret).before a U = true) (hini : (Cond.initialized y.cls).before a U = true) (hroom : rm.frames + 1 ≤ R.frames ∧ 2 * g.monitorRoom + (g.stack.map fun v => v.category).sum + (maxL + 11) + rm.locals ≤ R.locals ∧ cells + rm.cells ≤ R.cells ∧ slots + rm.slots ≤ R.slots) (hP : Pc a (U.calling g mk a)) {k n : Nat} {free : Nat → Prop} (hQ : ∀ (o : Outcome) (t : State), Q a (U.calling g mk a) o t → ∃ L : List Loc, x_FE (U.calling g mk a) o t L k n ∧ ∀ q ∈ L, free q.base) :
    ∃ (v : Nat) (t U' : State) (L : List Loc), Q a (U.calling g mk a) (.threw v) t ∧ U'.heap = t.heap ∧ U'.vm = t.vm ∧ (∀ q ∈ L, free q.base) ∧ Stand p l e R s m args below meth c U' (locs ++ L) (cells + k) (slots + n) ∧ Steps p.tables e below (doInvoke e (U.setTop g) [] mk a).1 ((U'.setTop g).pushFrame (.throwing v)) := by
  subst hg
  obtain ⟨methY, cY, hmY, hcY, -, hlY, -⟩ := Cond.code_spec hn hcode
  obtain ⟨kY, hkY, -⟩ := className_of_methodNamed hn
  have hAt := X.here
  have happ : (headSpec ws rm).appliesLoose y e.platform (U.calling g mk a) = true := Spec.appliesLoose_calling (g := g) hAt hdg hn hkY (Cond.initialized_spec (findClass_of_methodNamed hn) hkY hini) (X.room_calling (g := g) (R' := rm) hsize hmY hcY hroom.1 (by rw [hlY]; exact hroom.2.1) hroom.2.2.1 hroom.2.2.2) (atoms_intro hws)
  obtain ⟨mid, hmid⟩ := hAt.above
  have htop := State.frames_setTop' g hAt.top
  obtain ⟨o, t, hsteps, -, hend, hq⟩ := Steps.callFree hM p X.admits X.cas X.clock (acts := []) (show (U.setTop g).frames = (.java g :: mid) ++ below by rw [htop, hmid]; rfl) happ hP trivial
  rw [htop] at hend
  obtain ⟨L, hfe, hL⟩ := hQ o t hq
  obtain ⟨⟨v, rfl⟩, hWt, hst, hre⟩ := hfe
  have hft : t.frames = .throwing v :: .java g :: U.frames.tail := hend
  obtain ⟨g₀, hg0⟩ := Option.isSome_iff_exists.mp hAt.top
  obtain ⟨r, hr⟩ := State.topJava?_eq_some.mp hg0
  have hWU : U.WarmedH t.vm := hWt
  have hsame : U.sameButNew ({ U with heap := t.heap, slotsUsed := t.slotsUsed } : State) L k n := by
    obtain ⟨th, hth, -⟩ := State.frames_cons hr
    refine ⟨?_, hre⟩
    show ({ U with heap := t.heap, slotsUsed := t.slotsUsed } : State) = { U.setFrames U.frames with heap := t.heap, slotsUsed := t.slotsUsed }
    rw [State.setFrames_self hth]
  have heq : ((({ U with heap := t.heap, slotsUsed := t.slotsUsed } : State).setVm t.vm).setTop g).pushFrame (.throwing v) = t := by
    have hr' : (({ U with heap := t.heap, slotsUsed := t.slotsUsed } : State).setVm t.vm).frames = .java g₀ :: r := hr
    have h0 : t = ({ (U.calling g mk a).setFrames t.frames with heap := t.heap, slotsUsed := t.slotsUsed } : State).setVm t.vm := (show t = ({ t with vm := (U.calling g mk a).vm } : State).setVm t.vm from rfl).trans (congrArg (fun z : State => z.setVm t.vm) hst)
    refine Eq.trans ?_ h0.symm
    rw [hft, State.calling_eq hAt.top, State.setFrames_setFrames, State.pushFrame, State.frames_setTop _ hr', State.setTop_of_frames _ hr', State.setFrames_setFrames, hr]
    rfl
  refine ⟨v, t, ({ U with heap := t.heap, slotsUsed := t.slotsUsed } : State).setVm t.vm, L, hq, rfl, rfl, hL, ⟨X.admits, X.cas, X.clock, X.frames, X.room, X.hears, X.method, X.code, (X.here.setHeapUsed t.heap t.slotsUsed).setVm hWU.alike, X.tail, State.WarmedH.trans X.warmed hWU, X.limits, X.bytes, X.same.trans (hsame.setVm s.vm)⟩, ?_⟩
  rw [heq]
  exact hsteps
theorem x_go {e : Env} {st : State} {f : JFrame} {v : Nat} {ent : ExceptionTableEntry} {cT : ClassId} {cell : Cell} {Q : Handler → Pre} {E : CtlPost} {d : Bool} {acts : List Action} (hcov : covers ent f.pc = true) (h0 : ent.catchType ≠ 0) (hl : st.vm.ClassLinks e.platform f.method.cls ent.catchType cT) (hcell : st.heap[v]? = some cell) (hobj : cell.vm = .none) (hk : ∃ k, st.vm.classes[cell.cls]? = some k) (hkT : ∃ k, st.vm.classes[cT]? = some k) (hfit : st.vm.assignable cell.cls cT = true) : wp (findHandler.go f v [ent]) Q E e d acts st ↔ Q (.found ent.handlerPc) d acts (st.setVm (st.vm.noted f.method.cls ent.catchType (.cls cT))) := by
  obtain ⟨k1, hk1⟩ := hk
  obtain ⟨k2, hk2⟩ := hkT
  obtain ⟨ga, gt⟩ := (resolveClass_links e.toSetting hl).op (op := VmOp.resolveClass f.method.cls ent.catchType) rfl
  have hn : st.vm.Alike (st.vm.noted f.method.cls ent.catchType (.cls cT)) := (Vm.Alike.refl st.vm).noted _ _ _
  obtain ⟨k1', hk1', -⟩ := hn.2.2 _ _ hk1
  obtain ⟨k2', hk2', -⟩ := hn.2.2 _ _ hk2
  have hf2 : (st.vm.noted f.method.cls ent.catchType (.cls cT)).assignable cell.cls cT = true := by rw [hn.assignable]; exact hfit
  have hcv := hcov
  simp only [covers] at hcv
  simp [findHandler.go, hcv, h0, ga, gt, hcell, hobj, hk1', hk2', hf2, VmOp.dirties, VmOp.acts]
/-- the one handler catches: its class may be linked by that very look -/
theorem x_handler {p : Program} {l : Launch} {e : Env} {R : Room} {s : State} {m : MethodId} {args : Array Value} {below : List Frame} {meth : Method} {c : Code} {U : State} {locs : List Loc} {cells slots : Nat} (X : Stand p l e R s m args below meth c U locs cells slots) {v : Nat} {g : JFrame} (hg : g.method = m) {own name : String} (hown : s.vm.findClass own = some m.cls) {ent : ExceptionTableEntry} (hent : c.exceptionTable.toList = [ent]) (hcov : covers ent g.pc = true) (h0 : ent.catchType ≠ 0) (hlink : (Cond.classLink own ent.catchType name).before args s = true) {cT : ClassId} {cell : Cell} (hcT : s.vm.findClass name = some cT) (hcell : U.heap[v]? = some cell) (hobj : cell.vm = .none) (hfit : s.vm.assignable cell.cls cT = true) :
    ∃ vm', Stand p l e R s m args below meth c (U.setVm vm') locs cells slots ∧ ∀ target, Steps p.tables e below ((U.setVm vm').setTop { g with pc := ent.handlerPc, stack := [.ref v] }) target → Steps p.tables e below ((U.setTop g).pushFrame (.throwing v)) target := by
  subst hg
  have hpl : e.platform.magicAccessors = ({} : Platform).magicAccessors := by rw [X.admits.platform]
  obtain ⟨cT', hcT', hcl⟩ := Cond.classLink_spec hown hlink e.platform hpl
  cases hcT.symm.trans hcT'
  obtain ⟨dk, _, _, kT, hdk, _, _, _, _, hkT, _, hopen⟩ := hcl.here
  have hal := X.warmed.alike
  have hclU := X.warmed.classLinks hcl
  have hfitU : U.vm.assignable cell.cls cT = true := by rw [hal.assignable]; exact hfit
  obtain ⟨kT', hkT', -⟩ := hal.2.2 _ _ hkT
  refine ⟨U.vm.noted g.method.cls ent.catchType (.cls cT), X.noted (X.warmed.noted hdk hopen (State.rightAt_cls hcl)), fun target hrest => ?_⟩
  have hkk : ∀ (Q : Handler → Pre) (E : CtlPost) (d : Bool) (acts : List Action), wp (findHandler g v) Q E e d acts ((U.setTop g).pushFrame (.throwing v)) ↔ Q (.found ent.handlerPc) d acts (((U.setTop g).pushFrame (.throwing v)).setVm (U.vm.noted g.method.cls ent.catchType (.cls cT))) := by
    intro Q E d acts
    rw [W.findHandler_eq (s := (U.setTop g).pushFrame (.throwing v)) (meth := meth) (code := c) (show U.vm.method? g.method = some meth from X.method') X.code, hent]
    exact x_go (st := (U.setTop g).pushFrame (.throwing v)) hcov h0 hclU hcell hobj (Vm.classAt_of_assignable hfitU ⟨kT', hkT'⟩) ⟨kT', hkT'⟩ hfitU
  have hAt := X.here
  obtain ⟨hgo, hwi⟩ := hAt.throwing v
  refine Steps.head hgo hwi ?_
  rw [stepThread_throwing (frames_entered hAt.top _)]
  have hstep : (stepThrowing e ((U.setTop g).pushFrame (.throwing v)) v (.java g :: U.frames.tail)).Is ((((U.setTop g).pushFrame (.throwing v)).setVm (U.vm.noted g.method.cls ent.catchType (.cls cT))).setFrames (.java { g with pc := ent.handlerPc, stack := [.ref v] } :: U.frames.tail)) [] := by
    simp only [stepThrowing, searchFrame, vmDo]
    generalize hres : Sem.go _ e false [] _ = res
    obtain ⟨as, rfl, has⟩ := Sem.eq_ok_of hres (a := Handler.found ent.handlerPc) (s' := ((U.setTop g).pushFrame (.throwing v)).setVm (U.vm.noted g.method.cls ent.catchType (.cls cT))) (acts' := []) (by simp [hkk])
    exact ⟨rfl, has⟩
  rw [hstep.1]
  obtain ⟨g₀, hg0⟩ := Option.isSome_iff_exists.mp hAt.top
  obtain ⟨r, hr⟩ := State.topJava?_eq_some.mp hg0
  have hr' : (U.setVm (U.vm.noted g.method.cls ent.catchType (.cls cT))).frames = .java g₀ :: r := hr
  rw [State.setTop_of_frames _ hr'] at hrest
  have he : ((((U.setTop g).pushFrame (.throwing v)).setVm (U.vm.noted g.method.cls ent.catchType (.cls cT))).setFrames (.java { g with pc := ent.handlerPc, stack := [.ref v] } :: U.frames.tail)) = (U.setVm (U.vm.noted g.method.cls ent.catchType (.cls cT))).setFrames (.java { g with pc := ent.handlerPc, stack := [.ref v] } :: r) := by
    rw [State.pushFrame, State.setTop_of_frames _ hr, State.setFrames_setFrames, State.setFrames_setVm, State.setFrames_setFrames, hr]
    rfl
  rw [he]
  exact hrest
