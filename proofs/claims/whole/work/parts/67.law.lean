/-! THE LAW: rows of its walk -/
theorem k_start {args : Array Value} {s : State} (hts : ∀ w ∈ lw_tbl, w.before args s = true) : ∃ G : gs_G, g_K G s := by
  have hg : ∀ w ∈ gU, w.before args s = true := fun w hw => hts w (List.mem_filter.mp hw).1
  obtain ⟨cL, iL, kL⟩ := u_known (N := 9) hg iw_L (hg _ uw_21)
  obtain ⟨cP, iP, kP⟩ := u_known (N := 9) hg iw_P (hg _ uw_124)
  obtain ⟨cR, iR, kR⟩ := u_known (N := 12) hg iw_R (hg _ uw_11)
  obtain ⟨cM, iM, kM⟩ := u_known (N := 29) hg iw_M (hg _ uw_383)
  have prim : ∀ ty : FieldType, (Cond.arrayClass ty).before args s = true → (∀ C : String, ty ≠ .object C) → ∃ cA : ClassId, ArrOfT s cA ty ∧ va_RA s cA ty := fun ty h hn => by
    obtain ⟨cA, k, comp, h1, h2, h3⟩ := Cond.arrayClass_spec h
    refine ⟨cA, fun n z => ⟨fun k => by simp [arrV], k, h2, comp, h3⟩, ?_⟩
    unfold va_RA
    split
    · rename_i C; exact absurd rfl (hn C)
    · exact h1
  have obj : ∀ C : String, (Cond.arrayOver (.object C)).before args s = true → ∃ cA : ClassId, ArrOfT s cA (.object C) ∧ va_RA s cA (.object C) := fun C h => by
    obtain ⟨comp, cA, k, h1, -, h2, h3, h4⟩ := Cond.arrayOver_spec h
    exact ⟨cA, fun n z => ⟨fun k => by simp [arrV], k, h2, comp, h3⟩, k, comp, h2, h3, h1, h4⟩
  have wP : (Cond.arrayOver (.object "CallRows$Program")).before args s = true := hts _ (by decide +kernel)
  have wL : (Cond.arrayOver (.object "CallRows$Level")).before args s = true := hts _ (by decide +kernel)
  obtain ⟨t0, t0a, t0b⟩ := prim .int (hg _ uw_64) (fun C => by simp)
  obtain ⟨t1, t1a, t1b⟩ := prim .long (hg _ uw_63) (fun C => by simp)
  obtain ⟨t2, t2a, t2b⟩ := prim .boolean (hg _ uw_478) (fun C => by simp)
  obtain ⟨t3, t3a, t3b⟩ := obj _ wP
  obtain ⟨t4, t4a, t4b⟩ := obj _ wL
  refine ⟨((fun k => [cL, cP, cR, cM].getD k 0, fun k => [iL, iP, iR, iM].getD k (fun _ => 0)), fun k => [t0, t1, t2, t3, t4].getD k 0), ⟨fun k q hq => ?_, fun k q hq => ?_⟩, va_AO.of wP, va_AO.of wL⟩
  · match k, hq with
    | 0, hq => cases hq; exact kL
    | 1, hq => cases hq; exact kP
    | 2, hq => cases hq; exact kR
    | 3, hq => cases hq; exact kM
    | k + 4, hq => simp at hq
  · match k, hq with
    | 0, hq => cases hq; exact ⟨t0a, t0b⟩
    | 1, hq => cases hq; exact ⟨t1a, t1b⟩
    | 2, hq => cases hq; exact ⟨t2a, t2b⟩
    | 3, hq => cases hq; exact ⟨t3a, t3b⟩
    | 4, hq => cases hq; exact ⟨t4a, t4b⟩
    | k + 5, hq => simp at hq
/-- script[i + j] -/
theorem w_arg {p : Program} {l : Launch} {e : Env} {R : Room} {s : State} {m : MethodId} {args : Array Value} {below : List Frame} {meth : Method} {c : Code} {H : Heap} {locs : List Loc} {cells slots : Nat} {Q : State → Prop} {ls : Array Slot} {rest : List Value} {A : Nat → Prop} {b L : Nat} {xs : Nat → Int32} {i j pc : Nat} (hx : p.tables.exec = Jvm.exec) (hb : c.code = code) (hX : va_X b L xs s s.heap) (hbl : b < s.heap.size) (hbA : ¬ A b) (hS : va_S A s.heap H locs) {lv : List (Nat × Value)} (hl : lv_has ls 8 lv) {k0 k4 : Nat} (h0 : lv[k0]? = some (0, .ref b)) (h4 : lv[k4]? = some (4, .int (nI i))) (hij : i + j < L) (hL : L ≤ 2049) {ji : Int} (d0 : decode code pc = .ok (.aload_n 0, 1)) (d1 : decode code (pc + 1) = .ok (.iload 4, 2)) (d3 : decode code (pc + 3) = .ok (.iconst ji, 1)) (hji : Int32.ofInt ji = nI j) (d4 : decode code (pc + 4) = .ok (.iadd, 1)) (d5 : decode code (pc + 5) = .ok (.iaload, 1))
    (kk : W p l e R s m args below meth c H locs cells slots Q (F0 m (pc + 6) ls (.int (xs (i + j)) :: rest))) : W p l e R s m args below meth c H locs cells slots Q (F0 m pc ls rest) := by
  refine s_aload_n (x := some b) hx hb d0 rfl (lv_at hl k0 h0) ?_
  refine lv_iload hx hb d1 (lv_at hl k4 h4) ?_
  refine lv_iconst (v := nI j) hx hb d3 hji ?_
  refine lv_iadd hx hb d4 ?_
  rw [nI_add]
  have hc : (nI (i + j)).toNatClampNeg = i + j := nI_clamp (by omega)
  refine va_sld hx hb hX hbl hbA hS (i := nI (i + j)) (by
    intro z
    rcases z with z | z
    · exact absurd z (nI_pos (by omega))
    · rw [hc] at z; omega) d5 ?_
  rw [hc]
  exact kk
theorem w_and (v : Int32) : ∃ k : Nat, k < 16 ∧ v &&& 15 = nI k := by
  refine ⟨(v &&& 15).toBitVec.toNat, ?_, ?_⟩
  · have : (v &&& 15).toBitVec = v.toBitVec &&& 15#32 := rfl
    rw [this, BitVec.toNat_and]
    exact Nat.lt_of_le_of_lt Nat.and_le_right (by decide)
  · apply Int32.toBitVec_inj.mp
    show (v &&& 15).toBitVec = BitVec.ofNat 32 _
    simp
/-- the law's state between two calls -/
def lw_I (s : State) (G : gs_G) (S : gs_S) (H : Heap) (locs : List Loc) (x y o t : Nat) : Prop := g_W G (fun q => s.heap.size ≤ q) s S H locs ∧ r_X S x y t ∧ g_sh S o = some (.inr (2, 1))
