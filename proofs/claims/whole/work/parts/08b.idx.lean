/-! array rows by the number behind the index -/
section GK
variable {p : Program} {l : Launch} {e : Env} {R : Room} {s : State} {m : MethodId} {args : Array Value} {below : List Frame} {meth : Method} {c : Code} {H : Heap} {locs : List Loc} {cells slots : Nat} {Q : State → Prop}
variable {cc : ByteArray} {pc nL : Nat} {ls : Array Slot} {rest : List Value} {G : gs_G} {A : Nat → Prop} {S : gs_S} {Ts : List Cond} {own : String} {a : Nat}
theorem k_iald (hC : CallFix p m c cc nL s args Ts own) (hW : g_W G A s S H locs) {r n : Nat} (hsh : g_sh S a = some (.inr (r, n))) (hrep : gk_rep r = 0) (ht : (gk_tys G.2)[gk_role r]? = some (G.2 (gk_role r), .int)) (hn : n < 2 ^ 31) {i : Int32} (j : Nat) (hj : i = nI j) (hjn : j < n) {v : Int32} (hv : g_ai S r a j = v) (hdg : decode cc pc = .ok (.iaload, 1))
    (kk : W p l e R s m args below meth c H locs cells slots Q (F0 m (pc + 1) ls (.int v :: rest))) : W p l e R s m args below meth c H locs cells slots Q (F0 m pc ls (.int i :: .ref a :: rest)) := by
  subst hj
  exact s_iald hC hW hsh hrep ht (vp_in_nI hjn hn) (by rw [nI_clamp (Nat.lt_trans hjn hn)]; exact hv) hdg kk
theorem k_zald (hC : CallFix p m c cc nL s args Ts own) (hW : g_W G A s S H locs) {r n : Nat} (hsh : g_sh S a = some (.inr (r, n))) (hrep : gk_rep r = 0) (ht : (gk_tys G.2)[gk_role r]? = some (G.2 (gk_role r), .boolean)) (hn : n < 2 ^ 31) {i : Int32} (j : Nat) (hj : i = nI j) (hjn : j < n) {v : Int32} (hv : g_ai S r a j = v) (hdg : decode cc pc = .ok (.baload, 1))
    (kk : W p l e R s m args below meth c H locs cells slots Q (F0 m (pc + 1) ls (.int v :: rest))) : W p l e R s m args below meth c H locs cells slots Q (F0 m pc ls (.int i :: .ref a :: rest)) := by
  subst hj
  exact s_zald hC hW hsh hrep ht (vp_in_nI hjn hn) (by rw [nI_clamp (Nat.lt_trans hjn hn)]; exact hv) hdg kk
theorem k_lald (hC : CallFix p m c cc nL s args Ts own) (hW : g_W G A s S H locs) {r n : Nat} (hsh : g_sh S a = some (.inr (r, n))) (hrep : gk_rep r = 1) (ht : (gk_tys G.2)[gk_role r]? = some (G.2 (gk_role r), .long)) (hn : n < 2 ^ 31) {i : Int32} (j : Nat) (hj : i = nI j) (hjn : j < n) {v : Int64} (hv : g_al S r a j = v) (hdg : decode cc pc = .ok (.laload, 1))
    (kk : W p l e R s m args below meth c H locs cells slots Q (F0 m (pc + 1) ls (.long v :: rest))) : W p l e R s m args below meth c H locs cells slots Q (F0 m pc ls (.int i :: .ref a :: rest)) := by
  subst hj
  exact s_lald hC hW hsh hrep ht (vp_in_nI hjn hn) (by rw [nI_clamp (Nat.lt_trans hjn hn)]; exact hv) hdg kk
theorem k_aald (hC : CallFix p m c cc nL s args Ts own) (hW : g_W G A s S H locs) {r n : Nat} (hsh : g_sh S a = some (.inr (r, n))) (hrep : gk_rep r = 2) {C : String} (ht : (gk_tys G.2)[gk_role r]? = some (G.2 (gk_role r), .object C)) (hn : n < 2 ^ 31) {i : Int32} (j : Nat) (hj : i = nI j) (hjn : j < n) {v : Option Nat} (hv : g_ar S r a j = v) (hdg : decode cc pc = .ok (.aaload, 1))
    (kk : W p l e R s m args below meth c H locs cells slots Q (F0 m (pc + 1) ls (va_rf v :: rest))) : W p l e R s m args below meth c H locs cells slots Q (F0 m pc ls (.int i :: .ref a :: rest)) := by
  subst hj
  exact s_aald hC hW hsh hrep ht (vp_in_nI hjn hn) (by rw [nI_clamp (Nat.lt_trans hjn hn)]; exact hv) hdg kk
theorem k_iast (hC : CallFix p m c cc nL s args Ts own) (hW : g_W G A s S H locs) {r n : Nat} (hsh : g_sh S a = some (.inr (r, n))) (hrep : gk_rep r = 0) (ht : (gk_tys G.2)[gk_role r]? = some (G.2 (gk_role r), .int)) (hn : n < 2 ^ 31) {i : Int32} {x : Int32} (j : Nat) (hj : i = nI j) (hjn : j < n) (hdg : decode cc pc = .ok (.iastore, 1))
    (kk : ∀ (H1 : Heap) (locs1 : List Loc), g_W G A s (p_ai S r a j x) H1 locs1 → W p l e R s m args below meth c H1 locs1 cells slots Q (F0 m (pc + 1) ls rest)) : W p l e R s m args below meth c H locs cells slots Q (F0 m pc ls (.int x :: .int i :: .ref a :: rest)) := by
  subst hj
  refine s_iast hC hW hsh hrep ht (vp_in_nI hjn hn) hdg (fun H1 locs1 hW1 => kk H1 locs1 ?_)
  rw [nI_clamp (Nat.lt_trans hjn hn)] at hW1
  exact hW1
theorem k_zast (hC : CallFix p m c cc nL s args Ts own) (hW : g_W G A s S H locs) {r n : Nat} (hsh : g_sh S a = some (.inr (r, n))) (hrep : gk_rep r = 0) (ht : (gk_tys G.2)[gk_role r]? = some (G.2 (gk_role r), .boolean)) (hn : n < 2 ^ 31) {i : Int32} {x : Int32} (j : Nat) (hj : i = nI j) (hjn : j < n) (hdg : decode cc pc = .ok (.bastore, 1))
    (kk : ∀ (H1 : Heap) (locs1 : List Loc), g_W G A s (p_ai S r a j (vp_nar .boolean x)) H1 locs1 → W p l e R s m args below meth c H1 locs1 cells slots Q (F0 m (pc + 1) ls rest)) : W p l e R s m args below meth c H locs cells slots Q (F0 m pc ls (.int x :: .int i :: .ref a :: rest)) := by
  subst hj
  refine s_zast hC hW hsh hrep ht (vp_in_nI hjn hn) hdg (fun H1 locs1 hW1 => kk H1 locs1 ?_)
  rw [nI_clamp (Nat.lt_trans hjn hn)] at hW1
  exact hW1
theorem k_last (hC : CallFix p m c cc nL s args Ts own) (hW : g_W G A s S H locs) {r n : Nat} (hsh : g_sh S a = some (.inr (r, n))) (hrep : gk_rep r = 1) (ht : (gk_tys G.2)[gk_role r]? = some (G.2 (gk_role r), .long)) (hn : n < 2 ^ 31) {i : Int32} {x : Int64} (j : Nat) (hj : i = nI j) (hjn : j < n) (hdg : decode cc pc = .ok (.lastore, 1))
    (kk : ∀ (H1 : Heap) (locs1 : List Loc), g_W G A s (p_al S r a j x) H1 locs1 → W p l e R s m args below meth c H1 locs1 cells slots Q (F0 m (pc + 1) ls rest)) : W p l e R s m args below meth c H locs cells slots Q (F0 m pc ls (.long x :: .int i :: .ref a :: rest)) := by
  subst hj
  refine s_last hC hW hsh hrep ht (vp_in_nI hjn hn) hdg (fun H1 locs1 hW1 => kk H1 locs1 ?_)
  rw [nI_clamp (Nat.lt_trans hjn hn)] at hW1
  exact hW1
theorem k_aast (hC : CallFix p m c cc nL s args Ts own) (hW : g_W G A s S H locs) {C : String} {T : u_T} {N : Nat} {ty0 : Nat → FieldType} {ci : Nat} (hc : g_C ci C T N ty0) {r n : Nat} (hsh : g_sh S a = some (.inr (r, n))) (hrep : gk_rep r = 2) (ht : (gk_tys G.2)[gk_role r]? = some (G.2 (gk_role r), .object C)) (hn : n < 2 ^ 31) {i : Int32} {x : Option Nat} (hxo : ∀ b : Nat, x = some b → g_sh S b = some (.inl ci)) (j : Nat) (hj : i = nI j) (hjn : j < n) (hdg : decode cc pc = .ok (.aastore, 1))
    (kk : ∀ (H1 : Heap) (locs1 : List Loc), g_W G A s (p_ar S r a j x) H1 locs1 → W p l e R s m args below meth c H1 locs1 cells slots Q (F0 m (pc + 1) ls rest)) : W p l e R s m args below meth c H locs cells slots Q (F0 m pc ls (va_rf x :: .int i :: .ref a :: rest)) := by
  subst hj
  refine s_aast hC hW hc hsh hrep ht hxo (vp_in_nI hjn hn) hdg (fun H1 locs1 hW1 => kk H1 locs1 ?_)
  rw [nI_clamp (Nat.lt_trans hjn hn)] at hW1
  exact hW1
end GK
