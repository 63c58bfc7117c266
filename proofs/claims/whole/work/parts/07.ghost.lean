/-! GHOST STATE: what the walked heap holds, by total maps: the shape of an address; fields by (class, place, address); arrays by (role, address, index). A write moves one map at one key. -/
abbrev gs_S : Type := (Nat → Option (Nat ⊕ (Nat × Nat))) × (Nat → Nat → Nat → Int32) × (Nat → Nat → Nat → Int64) × (Nat → Nat → Nat → Option Nat) × (Nat → Nat → Nat → Int32) × (Nat → Nat → Nat → Int64) × (Nat → Nat → Nat → Option Nat)
def g_sh (S : gs_S) (a : Nat) : Option (Nat ⊕ (Nat × Nat)) := S.1 a
def g_i (S : gs_S) (c k a : Nat) : Int32 := S.2.1 c k a
def g_l (S : gs_S) (c k a : Nat) : Int64 := S.2.2.1 c k a
def g_r (S : gs_S) (c k a : Nat) : Option Nat := S.2.2.2.1 c k a
def g_ai (S : gs_S) (r a j : Nat) : Int32 := S.2.2.2.2.1 r a j
def g_al (S : gs_S) (r a j : Nat) : Int64 := S.2.2.2.2.2.1 r a j
def g_ar (S : gs_S) (r a j : Nat) : Option Nat := S.2.2.2.2.2.2 r a j
def u_3 {α : Type} (f : Nat → Nat → Nat → α) (c k a : Nat) (v : α) : Nat → Nat → Nat → α := fun c' k' a' => if c' = c ∧ k' = k ∧ a' = a then v else f c' k' a'
def p_sh (S : gs_S) (a : Nat) (x : Nat ⊕ (Nat × Nat)) : gs_S := (fun b => if b = a then some x else S.1 b, S.2)
def p_i (S : gs_S) (c k a : Nat) (v : Int32) : gs_S := (S.1, u_3 S.2.1 c k a v, S.2.2)
def p_l (S : gs_S) (c k a : Nat) (v : Int64) : gs_S := (S.1, S.2.1, u_3 S.2.2.1 c k a v, S.2.2.2)
def p_r (S : gs_S) (c k a : Nat) (v : Option Nat) : gs_S := (S.1, S.2.1, S.2.2.1, u_3 S.2.2.2.1 c k a v, S.2.2.2.2)
def p_ai (S : gs_S) (r a j : Nat) (v : Int32) : gs_S := (S.1, S.2.1, S.2.2.1, S.2.2.2.1, u_3 S.2.2.2.2.1 r a j v, S.2.2.2.2.2)
def p_al (S : gs_S) (r a j : Nat) (v : Int64) : gs_S := (S.1, S.2.1, S.2.2.1, S.2.2.2.1, S.2.2.2.2.1, u_3 S.2.2.2.2.2.1 r a j v, S.2.2.2.2.2.2)
def p_ar (S : gs_S) (r a j : Nat) (v : Option Nat) : gs_S := (S.1, S.2.1, S.2.2.1, S.2.2.2.1, S.2.2.2.2.1, S.2.2.2.2.2.1, u_3 S.2.2.2.2.2.2 r a j v)
def g_val (S : gs_S) (c a k kd : Nat) : Value := match kd with
  | 0 => .int (g_i S c k a)
  | 1 => .long (g_l S c k a)
  | _ => va_rf (g_r S c k a)
def g_fs (S : gs_S) (c a : Nat) : List Value := (gk_kinds.getD c []).mapIdx (fun k kd => g_val S c a k kd)
def g_arr (S : gs_S) (r a n : Nat) : vp_A := (n, match gk_rep r with
  | 0 => .inl (g_ai S r a)
  | 1 => .inr (.inl (g_al S r a))
  | _ => .inr (.inr (.inr (.inr (g_ar S r a)))))
def g_E (T : Nat → ClassId) (S : gs_S) (a : Nat) : Option va_E := match g_sh S a with
  | none => none
  | some (.inl c) => some (.inr (c, g_fs S c a))
  | some (.inr q) => some (.inl (T (gk_role q.1), g_arr S q.1 a q.2))
abbrev gs_G : Type := va_G × (Nat → ClassId)
def g_P (G : gs_G) (S : gs_S) (H : Heap) : Prop := ∀ (a : Nat) (e : va_E), g_E G.2 S a = some e → va_at G.1 gk_cl (a, e) H
/-- what the tables say: classes, array classes -/
def g_K (G : gs_G) (U : State) : Prop := va_K G.1 gk_cl (gk_tys G.2) U ∧ va_AO "CallRows$Program" U ∧ va_AO "CallRows$Level" U
theorem g_K.moved {G : gs_G} {u U : State} (hvm : u.vm.Alike U.vm) (h : g_K G u) : g_K G U := ⟨va_K.moved hvm h.1, va_AO.moved hvm h.2.1, va_AO.moved hvm h.2.2⟩
/-- the world of a walk that began at s: what may be written is A -/
def g_W (G : gs_G) (A : Nat → Prop) (s : State) (S : gs_S) (H : Heap) (locs : List Loc) : Prop := g_K G s ∧ g_P G S H ∧ (∀ a : Nat, g_sh S a ≠ none → A a) ∧ (∀ q : Nat, s.heap.size ≤ q → A q) ∧ va_S A s.heap H locs
def g_Ls (G : gs_G) (S : gs_S) (n : Nat) : va_W := (List.range n).filterMap (fun a => (g_E G.2 S a).map (fun e => (a, e)))
theorem g_E_sh {T : Nat → ClassId} {S : gs_S} {a : Nat} {e : va_E} (h : g_E T S a = some e) : g_sh S a ≠ none := by
  intro q
  unfold g_E at h
  rw [q] at h
  cases h
theorem g_Ls_mem {G : gs_G} {S : gs_S} {n a : Nat} {e : va_E} : (a, e) ∈ g_Ls G S n ↔ a < n ∧ g_E G.2 S a = some e := by
  unfold g_Ls
  rw [List.mem_filterMap]
  constructor
  · rintro ⟨b, hb, h⟩
    obtain ⟨x, hx, hq⟩ := Option.map_eq_some_iff.mp h
    cases hq
    exact ⟨List.mem_range.mp hb, hx⟩
  · rintro ⟨h1, h2⟩
    exact ⟨a, List.mem_range.mpr h1, by rw [h2]; rfl⟩
theorem g_Ls_lt (G : gs_G) (S : gs_S) (n : Nat) : List.Pairwise (fun p q : Nat × va_E => p.1 < q.1) (g_Ls G S n) := by
  unfold g_Ls
  rw [List.pairwise_filterMap]
  refine List.pairwise_lt_range.imp ?_
  intro a b hab x hx y hy
  obtain ⟨e, -, rfl⟩ := Option.map_eq_some_iff.mp hx
  obtain ⟨e', -, rfl⟩ := Option.map_eq_some_iff.mp hy
  exact hab
theorem g_Ls_inj {G : gs_G} {S : gs_S} {n i j : Nat} {p q : Nat × va_E} (hi : (g_Ls G S n)[i]? = some p) (hj : (g_Ls G S n)[j]? = some q) (h : p.1 = q.1) : i = j := by
  obtain ⟨hi1, hi2⟩ := List.getElem?_eq_some_iff.mp hi
  obtain ⟨hj1, hj2⟩ := List.getElem?_eq_some_iff.mp hj
  have hp := List.pairwise_iff_getElem.mp (g_Ls_lt G S n)
  rcases Nat.lt_trichotomy i j with c | c | c
  · have := hp i j hi1 hj1 c
    rw [hi2, hj2] at this
    omega
  · exact c
  · have := hp j i hj1 hi1 c
    rw [hi2, hj2] at this
    omega
theorem g_Ls_P {G : gs_G} {S : gs_S} {H : Heap} (h : g_P G S H) (n : Nat) : va_P G.1 gk_cl (g_Ls G S n) H := by
  intro k q hk
  obtain ⟨a, e⟩ := q
  exact h a e (g_Ls_mem.mp (List.mem_of_getElem? hk)).2
theorem g_Ls_D {G : gs_G} {S : gs_S} {A : Nat → Prop} (h : ∀ a : Nat, g_sh S a ≠ none → A a) (n : Nat) : va_D A (g_Ls G S n) := by
  refine ⟨fun i j p q hi hj e => g_Ls_inj hi hj e, fun k q hk => ?_⟩
  obtain ⟨a, e⟩ := q
  exact h a (g_E_sh (g_Ls_mem.mp (List.mem_of_getElem? hk)).2)
theorem g_lt {G : gs_G} {S : gs_S} {H : Heap} (h : g_P G S H) {a : Nat} {e : va_E} (he : g_E G.2 S a = some e) : a < H.size := (h a e he).lt
theorem g_at {G : gs_G} {S : gs_S} {H : Heap} (h : g_P G S H) {a : Nat} {e : va_E} (he : g_E G.2 S a = some e) : ∃ k : Nat, (g_Ls G S H.size)[k]? = some (a, e) := List.getElem?_of_mem (g_Ls_mem.mpr ⟨g_lt h he, he⟩)
theorem g_one {G : gs_G} {S : gs_S} {H : Heap} (h : g_P G S H) {a : Nat} {e : va_E} (he : g_E G.2 S a = some e) : va_P G.1 gk_cl [(a, e)] H := by
  intro k q hk
  cases k with
  | zero => cases hk; exact h a e he
  | succ k => simp at hk
/-- one cell has changed -/
theorem g_set {G : gs_G} {S S' : gs_S} {H H1 : Heap} {a k : Nat} {e0 e : va_E} (hP : g_P G S H) (hk : (g_Ls G S H.size)[k]? = some (a, e0)) (ho : ∀ b : Nat, b ≠ a → g_E G.2 S' b = g_E G.2 S b) (he : g_E G.2 S' a = some e) (h : va_P G.1 gk_cl ((g_Ls G S H.size).set k (a, e)) H1) : g_P G S' H1 := by
  have hl := (List.getElem?_eq_some_iff.mp hk).1
  intro b x hx
  by_cases hb : b = a
  · subst hb
    cases he.symm.trans hx
    exact h k _ (List.getElem?_set_self hl)
  · rw [ho b hb] at hx
    obtain ⟨j, hj⟩ := g_at hP hx
    refine h j _ ?_
    rw [List.getElem?_set_ne (fun q => hb ?_)]
    · exact hj
    · subst q
      cases hk.symm.trans hj
      rfl
/-- one cell has come -/
theorem g_new {G : gs_G} {S S' : gs_S} {H H1 : Heap} {a : Nat} {e : va_E} (hP : g_P G S H) (ho : ∀ b : Nat, b ≠ a → g_E G.2 S' b = g_E G.2 S b) (he : g_E G.2 S' a = some e) (h : va_P G.1 gk_cl (g_Ls G S H.size ++ [(a, e)]) H1) : g_P G S' H1 := by
  intro b x hx
  by_cases hb : b = a
  · subst hb
    cases he.symm.trans hx
    refine h (g_Ls G S H.size).length _ ?_
    rw [List.getElem?_append_right (Nat.le_refl _), Nat.sub_self]
    rfl
  · rw [ho b hb] at hx
    obtain ⟨j, hj⟩ := g_at hP hx
    refine h j _ ?_
    rw [List.getElem?_append_left (List.getElem?_eq_some_iff.mp hj).1]
    exact hj
theorem g_fresh {G : gs_G} {S : gs_S} {H : Heap} {A : Nat → Prop} {a : Nat} {e : va_E} (hP : g_P G S H) (h : va_D A (g_Ls G S H.size ++ [(a, e)])) : g_sh S a = none := by
  cases hs : g_sh S a with
  | none => rfl
  | some x =>
    have hx : ∃ e1, g_E G.2 S a = some e1 := by
      unfold g_E
      rw [hs]
      cases x with
      | inl c => exact ⟨_, rfl⟩
      | inr q => exact ⟨_, rfl⟩
    obtain ⟨e1, h1⟩ := hx
    obtain ⟨j, hj⟩ := g_at hP h1
    have hjl := (List.getElem?_eq_some_iff.mp hj).1
    have e2 : (g_Ls G S H.size ++ [(a, e)])[(g_Ls G S H.size).length]? = some (a, e) := by
      rw [List.getElem?_append_right (Nat.le_refl _), Nat.sub_self]
      rfl
    have e3 : (g_Ls G S H.size ++ [(a, e)])[j]? = some (a, e1) := by
      rw [List.getElem?_append_left hjl]
      exact hj
    have := h.1 _ _ _ _ e2 e3 rfl
    omega
theorem g_E_o {T : Nat → ClassId} {S : gs_S} {a c : Nat} (h : g_sh S a = some (.inl c)) : g_E T S a = some (.inr (c, g_fs S c a)) := by
  unfold g_E
  rw [h]
theorem g_E_a {T : Nat → ClassId} {S : gs_S} {a r n : Nat} (h : g_sh S a = some (.inr (r, n))) : g_E T S a = some (.inl (T (gk_role r), g_arr S r a n)) := by
  unfold g_E
  rw [h]
theorem g_fs_at {S : gs_S} {c a k kd : Nat} (h : (gk_kinds.getD c [])[k]? = some kd) : (g_fs S c a)[k]? = some (g_val S c a k kd) := by
  unfold g_fs
  rw [List.getElem?_mapIdx, h]
  rfl
theorem g_fs_len (S : gs_S) (c a : Nat) : (g_fs S c a).length = (gk_kinds.getD c []).length := by
  unfold g_fs
  rw [List.length_mapIdx]
theorem g_fs_set {S S' : gs_S} {c a k kd : Nat} {v : Value} (hkd : (gk_kinds.getD c [])[k]? = some kd) (hv : g_val S' c a k kd = v) (ho : ∀ j d : Nat, j ≠ k → g_val S' c a j d = g_val S c a j d) : g_fs S' c a = (g_fs S c a).set k v := by
  have hl : k < (g_fs S c a).length := by rw [g_fs_len]; exact (List.getElem?_eq_some_iff.mp hkd).1
  refine List.ext_getElem? fun j => ?_
  by_cases hj : j = k
  · subst hj
    rw [List.getElem?_set_self hl, g_fs_at hkd, hv]
  · rw [List.getElem?_set_ne (Ne.symm hj)]
    unfold g_fs
    rw [List.getElem?_mapIdx, List.getElem?_mapIdx]
    cases (gk_kinds.getD c [])[j]? with
    | none => rfl
    | some d => exact congrArg some (ho j d hj)
theorem u_3_s {α : Type} {f : Nat → Nat → Nat → α} {c k a : Nat} {v : α} : u_3 f c k a v c k a = v := by simp [u_3]
theorem u_3_a {α : Type} {f : Nat → Nat → Nat → α} {c k a c' k' a' : Nat} {v : α} (h : a' ≠ a) : u_3 f c k a v c' k' a' = f c' k' a' := by simp [u_3, h]
theorem u_3_k {α : Type} {f : Nat → Nat → Nat → α} {c k a c' k' a' : Nat} {v : α} (h : k' ≠ k) : u_3 f c k a v c' k' a' = f c' k' a' := by simp [u_3, h]
theorem u_3_c {α : Type} {f : Nat → Nat → Nat → α} {c k a c' k' a' : Nat} {v : α} (h : c' ≠ c) : u_3 f c k a v c' k' a' = f c' k' a' := by simp [u_3, h]
/-- two ghost states whose cell at b is the same -/
theorem g_E_same {T : Nat → ClassId} {S S' : gs_S} {b : Nat} (h0 : g_sh S' b = g_sh S b) (h1 : ∀ c k d : Nat, g_val S' c b k d = g_val S c b k d) (h2 : ∀ r n : Nat, g_arr S' r b n = g_arr S r b n) : g_E T S' b = g_E T S b := by
  unfold g_E
  rw [h0]
  cases g_sh S b with
  | none => rfl
  | some x =>
    cases x with
    | inl c => simp [g_fs, h1]
    | inr q => simp [h2]
theorem g_E_pi {T : Nat → ClassId} {S : gs_S} {c k a b : Nat} {v : Int32} (h : b ≠ a) : g_E T (p_i S c k a v) b = g_E T S b := by
  refine g_E_same rfl (fun c' k' d => ?_) (fun r n => rfl)
  match d with
  | 0 => exact congrArg Value.int (u_3_a h)
  | 1 => rfl
  | n + 2 => rfl
theorem g_E_pl {T : Nat → ClassId} {S : gs_S} {c k a b : Nat} {v : Int64} (h : b ≠ a) : g_E T (p_l S c k a v) b = g_E T S b := by
  refine g_E_same rfl (fun c' k' d => ?_) (fun r n => rfl)
  match d with
  | 0 => rfl
  | 1 => exact congrArg Value.long (u_3_a h)
  | n + 2 => rfl
theorem g_E_pr {T : Nat → ClassId} {S : gs_S} {c k a b : Nat} {v : Option Nat} (h : b ≠ a) : g_E T (p_r S c k a v) b = g_E T S b := by
  refine g_E_same rfl (fun c' k' d => ?_) (fun r n => rfl)
  match d with
  | 0 => rfl
  | 1 => rfl
  | n + 2 => exact congrArg va_rf (u_3_a h)
theorem g_E_pai {T : Nat → ClassId} {S : gs_S} {r a j b : Nat} {v : Int32} (h : b ≠ a) : g_E T (p_ai S r a j v) b = g_E T S b := by
  refine g_E_same rfl (fun c' k' d => rfl) (fun r' n => ?_)
  have h1 : g_ai (p_ai S r a j v) r' b = g_ai S r' b := funext fun j' => u_3_k h
  have h2 : g_al (p_ai S r a j v) r' b = g_al S r' b := rfl
  have h3 : g_ar (p_ai S r a j v) r' b = g_ar S r' b := rfl
  simp only [g_arr, h1, h2, h3]
theorem g_E_pal {T : Nat → ClassId} {S : gs_S} {r a j b : Nat} {v : Int64} (h : b ≠ a) : g_E T (p_al S r a j v) b = g_E T S b := by
  refine g_E_same rfl (fun c' k' d => rfl) (fun r' n => ?_)
  have h1 : g_ai (p_al S r a j v) r' b = g_ai S r' b := rfl
  have h2 : g_al (p_al S r a j v) r' b = g_al S r' b := funext fun j' => u_3_k h
  have h3 : g_ar (p_al S r a j v) r' b = g_ar S r' b := rfl
  simp only [g_arr, h1, h2, h3]
theorem g_E_par {T : Nat → ClassId} {S : gs_S} {r a j b : Nat} {v : Option Nat} (h : b ≠ a) : g_E T (p_ar S r a j v) b = g_E T S b := by
  refine g_E_same rfl (fun c' k' d => rfl) (fun r' n => ?_)
  have h1 : g_ai (p_ar S r a j v) r' b = g_ai S r' b := rfl
  have h2 : g_al (p_ar S r a j v) r' b = g_al S r' b := rfl
  have h3 : g_ar (p_ar S r a j v) r' b = g_ar S r' b := funext fun j' => u_3_k h
  simp only [g_arr, h1, h2, h3]
theorem g_fs_pi {S : gs_S} {c k a : Nat} {v : Int32} (hkd : (gk_kinds.getD c [])[k]? = some 0) : g_fs (p_i S c k a v) c a = (g_fs S c a).set k (.int v) := by
  refine g_fs_set hkd (congrArg Value.int u_3_s) (fun j d hj => ?_)
  match d with
  | 0 => exact congrArg Value.int (u_3_k hj)
  | 1 => rfl
  | n + 2 => rfl
theorem g_fs_pl {S : gs_S} {c k a : Nat} {v : Int64} (hkd : (gk_kinds.getD c [])[k]? = some 1) : g_fs (p_l S c k a v) c a = (g_fs S c a).set k (.long v) := by
  refine g_fs_set hkd (congrArg Value.long u_3_s) (fun j d hj => ?_)
  match d with
  | 0 => rfl
  | 1 => exact congrArg Value.long (u_3_k hj)
  | n + 2 => rfl
theorem g_fs_pr {S : gs_S} {c k a : Nat} {v : Option Nat} (hkd : (gk_kinds.getD c [])[k]? = some 2) : g_fs (p_r S c k a v) c a = (g_fs S c a).set k (va_rf v) := by
  refine g_fs_set hkd (congrArg va_rf u_3_s) (fun j d hj => ?_)
  match d with
  | 0 => rfl
  | 1 => rfl
  | n + 2 => exact congrArg va_rf (u_3_k hj)
theorem g_arr_i {S : gs_S} {r a n : Nat} (h : gk_rep r = 0) : g_arr S r a n = (n, .inl (g_ai S r a)) := by simp only [g_arr, h]
theorem g_arr_l {S : gs_S} {r a n : Nat} (h : gk_rep r = 1) : g_arr S r a n = (n, .inr (.inl (g_al S r a))) := by simp only [g_arr, h]
theorem g_arr_r {S : gs_S} {r a n : Nat} (h : gk_rep r = 2) : g_arr S r a n = (n, .inr (.inr (.inr (.inr (g_ar S r a))))) := by simp only [g_arr, h]
theorem g_ai_p {S : gs_S} {r a j : Nat} {v : Int32} : g_ai (p_ai S r a j v) r a = upd (g_ai S r a) j v := by
  funext q
  by_cases h : q = j
  · subst h; simp [g_ai, p_ai, u_3, upd]
  · simp [g_ai, p_ai, u_3, upd, h]
theorem g_al_p {S : gs_S} {r a j : Nat} {v : Int64} : g_al (p_al S r a j v) r a = vp_updL (g_al S r a) j v := by
  funext q
  by_cases h : q = j
  · subst h; simp [g_al, p_al, u_3, vp_updL]
  · simp [g_al, p_al, u_3, vp_updL, h]
theorem g_ar_p {S : gs_S} {r a j : Nat} {v : Option Nat} : g_ar (p_ar S r a j v) r a = va_up (g_ar S r a) j v := by
  funext q
  by_cases h : q = j
  · subst h; simp [g_ar, p_ar, u_3, va_up]
  · simp [g_ar, p_ar, u_3, va_up, h]
/-- a new object: all its fields at their defaults -/
def p_new (S : gs_S) (c a : Nat) : gs_S := (fun b => if b = a then some (.inl c) else S.1 b, fun c' k b => if b = a then 0 else S.2.1 c' k b, fun c' k b => if b = a then 0 else S.2.2.1 c' k b, fun c' k b => if b = a then none else S.2.2.2.1 c' k b, S.2.2.2.2)
/-- a new array of role r, n places -/
def p_newA (S : gs_S) (r n a : Nat) : gs_S := (fun b => if b = a then some (.inr (r, n)) else S.1 b, S.2.1, S.2.2.1, S.2.2.2.1, fun r' b j => if b = a then 0 else S.2.2.2.2.1 r' b j, fun r' b j => if b = a then 0 else S.2.2.2.2.2.1 r' b j, fun r' b j => if b = a then none else S.2.2.2.2.2.2 r' b j)
theorem g_E_new {T : Nat → ClassId} {S : gs_S} {c a b : Nat} (h : b ≠ a) : g_E T (p_new S c a) b = g_E T S b := by
  refine g_E_same (by simp [g_sh, p_new, h]) (fun c' k' d => ?_) (fun r n => rfl)
  match d with
  | 0 => simp [g_val, g_i, p_new, h]
  | 1 => simp [g_val, g_l, p_new, h]
  | n + 2 => simp [g_val, g_r, p_new, h]
theorem g_E_newA {T : Nat → ClassId} {S : gs_S} {r n a b : Nat} (h : b ≠ a) : g_E T (p_newA S r n a) b = g_E T S b := by
  refine g_E_same (by simp [g_sh, p_newA, h]) (fun c' k' d => rfl) (fun r' n' => ?_)
  have h1 : g_ai (p_newA S r n a) r' b = g_ai S r' b := funext fun j => by simp [g_ai, p_newA, h]
  have h2 : g_al (p_newA S r n a) r' b = g_al S r' b := funext fun j => by simp [g_al, p_newA, h]
  have h3 : g_ar (p_newA S r n a) r' b = g_ar S r' b := funext fun j => by simp [g_ar, p_newA, h]
  simp only [g_arr, h1, h2, h3]
theorem g_sh_new {S : gs_S} {c a : Nat} : g_sh (p_new S c a) a = some (.inl c) := by simp [g_sh, p_new]
theorem g_sh_newA {S : gs_S} {r n a : Nat} : g_sh (p_newA S r n a) a = some (.inr (r, n)) := by simp [g_sh, p_newA]
theorem g_sh_newN {S : gs_S} {c a b : Nat} (h : b ≠ a) : g_sh (p_new S c a) b = g_sh S b := by simp [g_sh, p_new, h]
theorem g_sh_newAN {S : gs_S} {r n a b : Nat} (h : b ≠ a) : g_sh (p_newA S r n a) b = g_sh S b := by simp [g_sh, p_newA, h]
def g_dflt (kd : Nat) : Value := match kd with
  | 0 => .int 0
  | 1 => .long 0
  | _ => .null
theorem g_fs_new {S : gs_S} {c a : Nat} : g_fs (p_new S c a) c a = (gk_kinds.getD c []).map g_dflt := by
  refine List.ext_getElem? fun j => ?_
  unfold g_fs
  rw [List.getElem?_mapIdx, List.getElem?_map]
  cases (gk_kinds.getD c [])[j]? with
  | none => rfl
  | some d =>
    match d with
    | 0 => simp [g_val, g_dflt, g_i, p_new]
    | 1 => simp [g_val, g_dflt, g_l, p_new]
    | n + 2 => simp [g_val, g_dflt, g_r, p_new, va_rf]
theorem g_RA {U : State} {a b : ClassId} {ty : FieldType} (h1 : va_RA U a ty) (h2 : va_RA U b ty) : a = b := by
  cases ty with
  | object C =>
    obtain ⟨_, _, -, -, -, f1⟩ := h1
    obtain ⟨_, _, -, -, -, f2⟩ := h2
    exact Option.some.inj (f1.symm.trans f2)
  | _ => exact Option.some.inj (h1.symm.trans h2)
/-- a class as the rows need it: its place in gk_cl, its fields' types, their names apart -/
def g_C (ci : Nat) (C : String) (T : u_T) (N : Nat) (ty : Nat → FieldType) : Prop := gk_cl[ci]? = some (C, T, N) ∧ (∀ k, k < N → parseFieldDescriptor (T k).2.2.1 = some (ty k)) ∧ ∀ a, a < N → ∀ b, b < N → a ≠ b → (T a).2.1 ≠ (T b).2.1
theorem g_nr {n : String} (r : Option Nat) : narrow (.object n) (va_rf r) = va_rf r := by cases r <;> rfl
theorem g_nra {t : FieldType} (r : Option Nat) : narrow (.array t) (va_rf r) = va_rf r := by cases r <;> rfl
section GS
variable {p : Program} {l : Launch} {e : Env} {R : Room} {s : State} {m : MethodId} {args : Array Value} {below : List Frame} {meth : Method} {c : Code} {H : Heap} {locs : List Loc} {cells slots : Nat} {Q : State → Prop}
variable {cc : ByteArray} {pc nL : Nat} {ls : Array Slot} {rest : List Value} {G : gs_G} {A : Nat → Prop} {S : gs_S} {Ts : List Cond} {own : String} {a : Nat}
theorem s_geti (hC : CallFix p m c cc nL s args Ts own) (hW : g_W G A s S H locs) {C : String} {T : u_T} {N : Nat} {ty0 : Nat → FieldType} {ci : Nat} (hc : g_C ci C T N ty0) (hin : ∀ w ∈ u_ws C T N, w ∈ Ts) (k : Nat) (hk : k < N) {index : Nat} (hlink : Cond.fieldLink own index (T k).1 (T k).2.1 (T k).2.2.1 ∈ Ts) (hkd : (gk_kinds.getD ci [])[k]? = some 0) (hsh : g_sh S a = some (.inl ci)) {v : Int32} (hv : g_i S ci k a = v) (hdg : decode cc pc = .ok (.getfield index, 3))
    (kk : W p l e R s m args below meth c H locs cells slots Q (F0 m (pc + 3) ls (.int v :: rest))) : W p l e R s m args below meth c H locs cells slots Q (F0 m pc ls (.ref a :: rest)) := by
  obtain ⟨hx, hb, hml, hown, hts⟩ := hC
  subst hv
  exact va_get hx hb hts hin hown hW.1.1 (g_one hW.2.1 (g_E_o hsh)) 0 rfl hc.1 k hk (hts _ hlink) (fun _ h => h) (g_fs_at hkd) hdg kk
theorem s_getl (hC : CallFix p m c cc nL s args Ts own) (hW : g_W G A s S H locs) {C : String} {T : u_T} {N : Nat} {ty0 : Nat → FieldType} {ci : Nat} (hc : g_C ci C T N ty0) (hin : ∀ w ∈ u_ws C T N, w ∈ Ts) (k : Nat) (hk : k < N) {index : Nat} (hlink : Cond.fieldLink own index (T k).1 (T k).2.1 (T k).2.2.1 ∈ Ts) (hkd : (gk_kinds.getD ci [])[k]? = some 1) (hsh : g_sh S a = some (.inl ci)) {v : Int64} (hv : g_l S ci k a = v) (hdg : decode cc pc = .ok (.getfield index, 3))
    (kk : W p l e R s m args below meth c H locs cells slots Q (F0 m (pc + 3) ls (.long v :: rest))) : W p l e R s m args below meth c H locs cells slots Q (F0 m pc ls (.ref a :: rest)) := by
  obtain ⟨hx, hb, hml, hown, hts⟩ := hC
  subst hv
  exact va_get hx hb hts hin hown hW.1.1 (g_one hW.2.1 (g_E_o hsh)) 0 rfl hc.1 k hk (hts _ hlink) (fun _ h => h) (g_fs_at hkd) hdg kk
theorem s_getr (hC : CallFix p m c cc nL s args Ts own) (hW : g_W G A s S H locs) {C : String} {T : u_T} {N : Nat} {ty0 : Nat → FieldType} {ci : Nat} (hc : g_C ci C T N ty0) (hin : ∀ w ∈ u_ws C T N, w ∈ Ts) (k : Nat) (hk : k < N) {index : Nat} (hlink : Cond.fieldLink own index (T k).1 (T k).2.1 (T k).2.2.1 ∈ Ts) (hkd : (gk_kinds.getD ci [])[k]? = some 2) (hsh : g_sh S a = some (.inl ci)) {v : Option Nat} (hv : g_r S ci k a = v) (hdg : decode cc pc = .ok (.getfield index, 3))
    (kk : W p l e R s m args below meth c H locs cells slots Q (F0 m (pc + 3) ls (va_rf v :: rest))) : W p l e R s m args below meth c H locs cells slots Q (F0 m pc ls (.ref a :: rest)) := by
  obtain ⟨hx, hb, hml, hown, hts⟩ := hC
  subst hv
  exact va_get hx hb hts hin hown hW.1.1 (g_one hW.2.1 (g_E_o hsh)) 0 rfl hc.1 k hk (hts _ hlink) (fun _ h => h) (g_fs_at hkd) hdg kk
/-- a field gets a value: any kind -/
theorem s_put0 (hC : CallFix p m c cc nL s args Ts own) (hW : g_W G A s S H locs) {C : String} {T : u_T} {N : Nat} {ty0 : Nat → FieldType} {ci : Nat} (hc : g_C ci C T N ty0) (hin : ∀ w ∈ u_ws C T N, w ∈ Ts) (k : Nat) (hk : k < N) {index : Nat} (hlink : Cond.fieldLink own index (T k).1 (T k).2.1 (T k).2.2.1 ∈ Ts) (hfin : (T k).2.2.2 = false ∨ ((T k).2.2.2 = true ∧ meth.name = "<init>" ∧ (T k).1 = own)) {v : Value} (hn : narrow (ty0 k) v = v) (hfit : fits (ty0 k) v = true) {kd : Nat} (hkd : (gk_kinds.getD ci [])[k]? = some kd) (hsh : g_sh S a = some (.inl ci)) {S' : gs_S} (ho : ∀ b : Nat, b ≠ a → g_E G.2 S' b = g_E G.2 S b) (hs : ∀ b : Nat, g_sh S' b = g_sh S b) (hf : g_fs S' ci a = (g_fs S ci a).set k v) (hdg : decode cc pc = .ok (.putfield index, 3))
    (kk : ∀ (H1 : Heap) (locs1 : List Loc), g_W G A s S' H1 locs1 → W p l e R s m args below meth c H1 locs1 cells slots Q (F0 m (pc + 3) ls rest)) : W p l e R s m args below meth c H locs cells slots Q (F0 m pc ls (v :: .ref a :: rest)) := by
  obtain ⟨hx, hb, hml, hown, hts⟩ := hC
  obtain ⟨⟨hK, hO⟩, hP, hdom, hA, hS⟩ := hW
  obtain ⟨q, hq⟩ := g_at hP (g_E_o hsh)
  have hlen : k < (g_fs S ci a).length := by rw [g_fs_len]; exact (List.getElem?_eq_some_iff.mp hkd).1
  have he : g_E G.2 S' a = some (.inr (ci, (g_fs S ci a).set k v)) := by rw [g_E_o ((hs a).trans hsh), hf]
  have hgo : ∀ (H1 : Heap) (locs1 : List Loc), va_P G.1 gk_cl ((g_Ls G S H.size).set q (a, .inr (ci, (g_fs S ci a).set k v))) H1 → va_D A ((g_Ls G S H.size).set q (a, .inr (ci, (g_fs S ci a).set k v))) → va_S A s.heap H1 locs1 → W p l e R s m args below meth c H1 locs1 cells slots Q (F0 m (pc + 3) ls rest) := fun H1 locs1 hP1 _ hS1 => kk H1 locs1 ⟨⟨hK, hO⟩, g_set hP hq ho he hP1, fun b h => hdom b (by rw [hs b] at h; exact h), hA, hS1⟩
  rcases hfin with h1 | ⟨h1, h2, h3⟩
  · exact va_put hx hb hts hin ty0 hc.2.1 hc.2.2 hown hK (g_Ls_P hP H.size) (g_Ls_D hdom H.size) hS q hq hc.1 k hk (hts _ hlink) (fun _ h => h) h1 (hc.2.1 k hk) hn hfit hlen hdg hgo
  · exact va_putF hx hb hts hin ty0 hc.2.1 hc.2.2 hown hK (g_Ls_P hP H.size) (g_Ls_D hdom H.size) hS q hq hc.1 k hk (hts _ hlink) (fun _ h => h) h1 h2 h3 (hc.2.1 k hk) hn hfit hlen hdg hgo
theorem s_puti (hC : CallFix p m c cc nL s args Ts own) (hW : g_W G A s S H locs) {C : String} {T : u_T} {N : Nat} {ty0 : Nat → FieldType} {ci : Nat} (hc : g_C ci C T N ty0) (hin : ∀ w ∈ u_ws C T N, w ∈ Ts) (k : Nat) (hk : k < N) {index : Nat} (hlink : Cond.fieldLink own index (T k).1 (T k).2.1 (T k).2.2.1 ∈ Ts) (hfin : (T k).2.2.2 = false ∨ ((T k).2.2.2 = true ∧ meth.name = "<init>" ∧ (T k).1 = own)) {v : Int32} (hn : narrow (ty0 k) (.int v) = .int v) (hfit : fits (ty0 k) (.int v) = true) (hkd : (gk_kinds.getD ci [])[k]? = some 0) (hsh : g_sh S a = some (.inl ci)) (hdg : decode cc pc = .ok (.putfield index, 3))
    (kk : ∀ (H1 : Heap) (locs1 : List Loc), g_W G A s (p_i S ci k a v) H1 locs1 → W p l e R s m args below meth c H1 locs1 cells slots Q (F0 m (pc + 3) ls rest)) : W p l e R s m args below meth c H locs cells slots Q (F0 m pc ls (.int v :: .ref a :: rest)) :=
  s_put0 hC hW hc hin k hk hlink hfin hn hfit hkd hsh (S' := p_i S ci k a v) (fun b hb => g_E_pi hb) (fun b => rfl) (g_fs_pi hkd) hdg kk
theorem s_putl (hC : CallFix p m c cc nL s args Ts own) (hW : g_W G A s S H locs) {C : String} {T : u_T} {N : Nat} {ty0 : Nat → FieldType} {ci : Nat} (hc : g_C ci C T N ty0) (hin : ∀ w ∈ u_ws C T N, w ∈ Ts) (k : Nat) (hk : k < N) {index : Nat} (hlink : Cond.fieldLink own index (T k).1 (T k).2.1 (T k).2.2.1 ∈ Ts) (hfin : (T k).2.2.2 = false ∨ ((T k).2.2.2 = true ∧ meth.name = "<init>" ∧ (T k).1 = own)) {v : Int64} (hn : narrow (ty0 k) (.long v) = .long v) (hfit : fits (ty0 k) (.long v) = true) (hkd : (gk_kinds.getD ci [])[k]? = some 1) (hsh : g_sh S a = some (.inl ci)) (hdg : decode cc pc = .ok (.putfield index, 3))
    (kk : ∀ (H1 : Heap) (locs1 : List Loc), g_W G A s (p_l S ci k a v) H1 locs1 → W p l e R s m args below meth c H1 locs1 cells slots Q (F0 m (pc + 3) ls rest)) : W p l e R s m args below meth c H locs cells slots Q (F0 m pc ls (.long v :: .ref a :: rest)) :=
  s_put0 hC hW hc hin k hk hlink hfin hn hfit hkd hsh (S' := p_l S ci k a v) (fun b hb => g_E_pl hb) (fun b => rfl) (g_fs_pl hkd) hdg kk
theorem s_putr (hC : CallFix p m c cc nL s args Ts own) (hW : g_W G A s S H locs) {C : String} {T : u_T} {N : Nat} {ty0 : Nat → FieldType} {ci : Nat} (hc : g_C ci C T N ty0) (hin : ∀ w ∈ u_ws C T N, w ∈ Ts) (k : Nat) (hk : k < N) {index : Nat} (hlink : Cond.fieldLink own index (T k).1 (T k).2.1 (T k).2.2.1 ∈ Ts) (hfin : (T k).2.2.2 = false ∨ ((T k).2.2.2 = true ∧ meth.name = "<init>" ∧ (T k).1 = own)) {v : Option Nat} (hn : narrow (ty0 k) (va_rf v) = va_rf v) (hfit : fits (ty0 k) (va_rf v) = true) (hkd : (gk_kinds.getD ci [])[k]? = some 2) (hsh : g_sh S a = some (.inl ci)) (hdg : decode cc pc = .ok (.putfield index, 3))
    (kk : ∀ (H1 : Heap) (locs1 : List Loc), g_W G A s (p_r S ci k a v) H1 locs1 → W p l e R s m args below meth c H1 locs1 cells slots Q (F0 m (pc + 3) ls rest)) : W p l e R s m args below meth c H locs cells slots Q (F0 m pc ls (va_rf v :: .ref a :: rest)) :=
  s_put0 hC hW hc hin k hk hlink hfin hn hfit hkd hsh (S' := p_r S ci k a v) (fun b hb => g_E_pr hb) (fun b => rfl) (g_fs_pr hkd) hdg kk
theorem s_iald (hC : CallFix p m c cc nL s args Ts own) (hW : g_W G A s S H locs) {r n : Nat} (hsh : g_sh S a = some (.inr (r, n))) (hrep : gk_rep r = 0) (ht : (gk_tys G.2)[gk_role r]? = some (G.2 (gk_role r), .int)) {i : Int32} (hin : vp_in i n) {v : Int32} (hv : g_ai S r a i.toNatClampNeg = v) (hdg : decode cc pc = .ok (.iaload, 1))
    (kk : W p l e R s m args below meth c H locs cells slots Q (F0 m (pc + 1) ls (.int v :: rest))) : W p l e R s m args below meth c H locs cells slots Q (F0 m pc ls (.int i :: .ref a :: rest)) := by
  obtain ⟨hx, hb, hml, hown, hts⟩ := hC
  subst hv
  have he := g_E_a (T := G.2) hsh
  rw [g_arr_i hrep] at he
  exact va_iald hx hb hW.1.1 (g_one hW.2.1 he) 0 (gk_role r) rfl ht hin hdg kk
theorem s_zald (hC : CallFix p m c cc nL s args Ts own) (hW : g_W G A s S H locs) {r n : Nat} (hsh : g_sh S a = some (.inr (r, n))) (hrep : gk_rep r = 0) (ht : (gk_tys G.2)[gk_role r]? = some (G.2 (gk_role r), .boolean)) {i : Int32} (hin : vp_in i n) {v : Int32} (hv : g_ai S r a i.toNatClampNeg = v) (hdg : decode cc pc = .ok (.baload, 1))
    (kk : W p l e R s m args below meth c H locs cells slots Q (F0 m (pc + 1) ls (.int v :: rest))) : W p l e R s m args below meth c H locs cells slots Q (F0 m pc ls (.int i :: .ref a :: rest)) := by
  obtain ⟨hx, hb, hml, hown, hts⟩ := hC
  subst hv
  have he := g_E_a (T := G.2) hsh
  rw [g_arr_i hrep] at he
  exact va_zald hx hb hW.1.1 (g_one hW.2.1 he) 0 (gk_role r) rfl ht hin hdg kk
theorem s_lald (hC : CallFix p m c cc nL s args Ts own) (hW : g_W G A s S H locs) {r n : Nat} (hsh : g_sh S a = some (.inr (r, n))) (hrep : gk_rep r = 1) (ht : (gk_tys G.2)[gk_role r]? = some (G.2 (gk_role r), .long)) {i : Int32} (hin : vp_in i n) {v : Int64} (hv : g_al S r a i.toNatClampNeg = v) (hdg : decode cc pc = .ok (.laload, 1))
    (kk : W p l e R s m args below meth c H locs cells slots Q (F0 m (pc + 1) ls (.long v :: rest))) : W p l e R s m args below meth c H locs cells slots Q (F0 m pc ls (.int i :: .ref a :: rest)) := by
  obtain ⟨hx, hb, hml, hown, hts⟩ := hC
  subst hv
  have he := g_E_a (T := G.2) hsh
  rw [g_arr_l hrep] at he
  exact va_lald hx hb hW.1.1 (g_one hW.2.1 he) 0 (gk_role r) rfl ht hin hdg kk
theorem s_aald (hC : CallFix p m c cc nL s args Ts own) (hW : g_W G A s S H locs) {r n : Nat} (hsh : g_sh S a = some (.inr (r, n))) (hrep : gk_rep r = 2) {C : String} (ht : (gk_tys G.2)[gk_role r]? = some (G.2 (gk_role r), .object C)) {i : Int32} (hin : vp_in i n) {v : Option Nat} (hv : g_ar S r a i.toNatClampNeg = v) (hdg : decode cc pc = .ok (.aaload, 1))
    (kk : W p l e R s m args below meth c H locs cells slots Q (F0 m (pc + 1) ls (va_rf v :: rest))) : W p l e R s m args below meth c H locs cells slots Q (F0 m pc ls (.int i :: .ref a :: rest)) := by
  obtain ⟨hx, hb, hml, hown, hts⟩ := hC
  subst hv
  have he := g_E_a (T := G.2) hsh
  rw [g_arr_r hrep] at he
  exact va_aldq hx hb hW.1.1 (g_one hW.2.1 he) 0 (gk_role r) rfl ht hin hdg kk
theorem s_iast (hC : CallFix p m c cc nL s args Ts own) (hW : g_W G A s S H locs) {r n : Nat} (hsh : g_sh S a = some (.inr (r, n))) (hrep : gk_rep r = 0) (ht : (gk_tys G.2)[gk_role r]? = some (G.2 (gk_role r), .int)) {i x : Int32} (hin : vp_in i n) (hdg : decode cc pc = .ok (.iastore, 1))
    (kk : ∀ (H1 : Heap) (locs1 : List Loc), g_W G A s (p_ai S r a i.toNatClampNeg x) H1 locs1 → W p l e R s m args below meth c H1 locs1 cells slots Q (F0 m (pc + 1) ls rest)) : W p l e R s m args below meth c H locs cells slots Q (F0 m pc ls (.int x :: .int i :: .ref a :: rest)) := by
  obtain ⟨hx, hb, hml, hown, hts⟩ := hC
  obtain ⟨⟨hK, hO⟩, hP, hdom, hA, hS⟩ := hW
  have he := g_E_a (T := G.2) hsh
  rw [g_arr_i hrep] at he
  obtain ⟨q, hq⟩ := g_at hP he
  refine va_iast hx hb hK (g_Ls_P hP H.size) (g_Ls_D hdom H.size) hS q (gk_role r) hq ht hin hdg (fun H1 locs1 hP1 _ hS1 => kk H1 locs1 ⟨⟨hK, hO⟩, g_set hP hq (fun b hb => g_E_pai hb) ?_ hP1, hdom, hA, hS1⟩)
  rw [g_E_a (show g_sh (p_ai S r a i.toNatClampNeg x) a = some (.inr (r, n)) from hsh), g_arr_i hrep, g_ai_p]
theorem s_zast (hC : CallFix p m c cc nL s args Ts own) (hW : g_W G A s S H locs) {r n : Nat} (hsh : g_sh S a = some (.inr (r, n))) (hrep : gk_rep r = 0) (ht : (gk_tys G.2)[gk_role r]? = some (G.2 (gk_role r), .boolean)) {i x : Int32} (hin : vp_in i n) (hdg : decode cc pc = .ok (.bastore, 1))
    (kk : ∀ (H1 : Heap) (locs1 : List Loc), g_W G A s (p_ai S r a i.toNatClampNeg (vp_nar .boolean x)) H1 locs1 → W p l e R s m args below meth c H1 locs1 cells slots Q (F0 m (pc + 1) ls rest)) : W p l e R s m args below meth c H locs cells slots Q (F0 m pc ls (.int x :: .int i :: .ref a :: rest)) := by
  obtain ⟨hx, hb, hml, hown, hts⟩ := hC
  obtain ⟨⟨hK, hO⟩, hP, hdom, hA, hS⟩ := hW
  have he := g_E_a (T := G.2) hsh
  rw [g_arr_i hrep] at he
  obtain ⟨q, hq⟩ := g_at hP he
  refine va_zast hx hb hK (g_Ls_P hP H.size) (g_Ls_D hdom H.size) hS q (gk_role r) hq ht hin hdg (fun H1 locs1 hP1 _ hS1 => kk H1 locs1 ⟨⟨hK, hO⟩, g_set hP hq (fun b hb => g_E_pai hb) ?_ hP1, hdom, hA, hS1⟩)
  rw [g_E_a (show g_sh (p_ai S r a i.toNatClampNeg (vp_nar .boolean x)) a = some (.inr (r, n)) from hsh), g_arr_i hrep, g_ai_p]
theorem s_last (hC : CallFix p m c cc nL s args Ts own) (hW : g_W G A s S H locs) {r n : Nat} (hsh : g_sh S a = some (.inr (r, n))) (hrep : gk_rep r = 1) (ht : (gk_tys G.2)[gk_role r]? = some (G.2 (gk_role r), .long)) {i : Int32} {x : Int64} (hin : vp_in i n) (hdg : decode cc pc = .ok (.lastore, 1))
    (kk : ∀ (H1 : Heap) (locs1 : List Loc), g_W G A s (p_al S r a i.toNatClampNeg x) H1 locs1 → W p l e R s m args below meth c H1 locs1 cells slots Q (F0 m (pc + 1) ls rest)) : W p l e R s m args below meth c H locs cells slots Q (F0 m pc ls (.long x :: .int i :: .ref a :: rest)) := by
  obtain ⟨hx, hb, hml, hown, hts⟩ := hC
  obtain ⟨⟨hK, hO⟩, hP, hdom, hA, hS⟩ := hW
  have he := g_E_a (T := G.2) hsh
  rw [g_arr_l hrep] at he
  obtain ⟨q, hq⟩ := g_at hP he
  refine va_last hx hb hK (g_Ls_P hP H.size) (g_Ls_D hdom H.size) hS q (gk_role r) hq ht hin hdg (fun H1 locs1 hP1 _ hS1 => kk H1 locs1 ⟨⟨hK, hO⟩, g_set hP hq (fun b hb => g_E_pal hb) ?_ hP1, hdom, hA, hS1⟩)
  rw [g_E_a (show g_sh (p_al S r a i.toNatClampNeg x) a = some (.inr (r, n)) from hsh), g_arr_l hrep, g_al_p]
theorem s_aast (hC : CallFix p m c cc nL s args Ts own) (hW : g_W G A s S H locs) {C : String} {T : u_T} {N : Nat} {ty0 : Nat → FieldType} {ci : Nat} (hc : g_C ci C T N ty0) {r n : Nat} (hsh : g_sh S a = some (.inr (r, n))) (hrep : gk_rep r = 2) (ht : (gk_tys G.2)[gk_role r]? = some (G.2 (gk_role r), .object C)) {i : Int32} {x : Option Nat} (hxo : ∀ b : Nat, x = some b → g_sh S b = some (.inl ci)) (hin : vp_in i n) (hdg : decode cc pc = .ok (.aastore, 1))
    (kk : ∀ (H1 : Heap) (locs1 : List Loc), g_W G A s (p_ar S r a i.toNatClampNeg x) H1 locs1 → W p l e R s m args below meth c H1 locs1 cells slots Q (F0 m (pc + 1) ls rest)) : W p l e R s m args below meth c H locs cells slots Q (F0 m pc ls (va_rf x :: .int i :: .ref a :: rest)) := by
  obtain ⟨hx, hb, hml, hown, hts⟩ := hC
  obtain ⟨⟨hK, hO⟩, hP, hdom, hA, hS⟩ := hW
  have he := g_E_a (T := G.2) hsh
  rw [g_arr_r hrep] at he
  obtain ⟨q, hq⟩ := g_at hP he
  have hfin : ∀ x : Option Nat, g_E G.2 (p_ar S r a i.toNatClampNeg x) a = some (.inl (G.2 (gk_role r), n, .inr (.inr (.inr (.inr (va_up (g_ar S r a) i.toNatClampNeg x)))))) := fun x => by
    rw [g_E_a (show g_sh (p_ar S r a i.toNatClampNeg x) a = some (.inr (r, n)) from hsh), g_arr_r hrep, g_ar_p]
  cases x with
  | none => exact va_astqN hx hb hK (g_Ls_P hP H.size) (g_Ls_D hdom H.size) hS q (gk_role r) hq ht hin hdg (fun H1 locs1 hP1 _ hS1 => kk H1 locs1 ⟨⟨hK, hO⟩, g_set hP hq (fun b hb => g_E_par hb) (hfin none) hP1, hdom, hA, hS1⟩)
  | some b =>
    obtain ⟨q2, hq2⟩ := g_at hP (g_E_o (hxo b rfl))
    exact va_astq hx hb hK (g_Ls_P hP H.size) (g_Ls_D hdom H.size) hS q (gk_role r) q2 ci hq ht hq2 hc.1 hin hdg (fun H1 locs1 hP1 _ hS1 => kk H1 locs1 ⟨⟨hK, hO⟩, g_set hP hq (fun b hb => g_E_par hb) (hfin (some b)) hP1, hdom, hA, hS1⟩)
theorem s_alen (hC : CallFix p m c cc nL s args Ts own) (hW : g_W G A s S H locs) {r n : Nat} (hsh : g_sh S a = some (.inr (r, n))) {ty : FieldType} (ht : (gk_tys G.2)[gk_role r]? = some (G.2 (gk_role r), ty)) {v : Int32} (hv : nI n = v) (hdg : decode cc pc = .ok (.arraylength, 1))
    (kk : W p l e R s m args below meth c H locs cells slots Q (F0 m (pc + 1) ls (.int v :: rest))) : W p l e R s m args below meth c H locs cells slots Q (F0 m pc ls (.ref a :: rest)) := by
  obtain ⟨hx, hb, hml, hown, hts⟩ := hC
  exact va_alen hx hb hW.1.1 (g_one hW.2.1 (g_E_a hsh)) 0 (gk_role r) rfl ht (show Int32.ofNat n = v from hv) hdg kk
theorem g_domN {S S' : gs_S} {A : Nat → Prop} {q : Nat} {e : va_E} {n : Nat} (hdom : ∀ a : Nat, g_sh S a ≠ none → A a) (hD : va_D A (g_Ls G S n ++ [(q, e)])) (h : ∀ b : Nat, b ≠ q → g_sh S' b = g_sh S b) : ∀ a : Nat, g_sh S' a ≠ none → A a := by
  intro b hb
  by_cases hq : b = q
  · subst hq
    refine hD.2 (g_Ls G S n).length (b, e) ?_
    rw [List.getElem?_append_right (Nat.le_refl _), Nat.sub_self]
    rfl
  · rw [h b hq] at hb
    exact hdom b hb
theorem s_new (hC : CallFix p m c cc nL s args Ts own) (hW : g_W G A s S H locs) {C : String} {T : u_T} {N : Nat} {ty0 : Nat → FieldType} {ci : Nat} (hc : g_C ci C T N ty0) (hin : ∀ w ∈ u_ws C T N, w ∈ Ts) {index : Nat} (hlink : Cond.classLink own index C ∈ Ts) (hinst : Cond.instantiable C N ∈ Ts) (hini : Cond.initialized C ∈ Ts) (hfs : ∀ j, j < N → defaultValue (ty0 j) = vp_V ((gk_kinds.getD ci []).map g_dflt) j) (hcells : cells + 1 ≤ R.cells) (hslots : slots + N ≤ R.slots) (hdg : decode cc pc = .ok (.new index, 3))
    (kk : ∀ (q : Nat) (H1 : Heap), g_sh S q = none → g_W G A s (p_new S ci q) H1 locs → W p l e R s m args below meth c H1 locs (cells + 1) (slots + N) Q (F0 m (pc + 3) ls (.ref q :: rest))) : W p l e R s m args below meth c H locs cells slots Q (F0 m pc ls rest) := by
  obtain ⟨hx, hb, hml, hown, hts⟩ := hC
  obtain ⟨⟨hK, hO⟩, hP, hdom, hA, hS⟩ := hW
  refine va_new hx hb hts hin ty0 hc.2.1 hown (hts _ hlink) (hts _ hinst) (hts _ hini) hK (g_Ls_P hP H.size) (g_Ls_D hdom H.size) hS hA hc.1 hfs hcells hslots hdg (fun q H1 hP1 hD1 hS1 => kk q H1 (g_fresh hP hD1) ⟨⟨hK, hO⟩, g_new hP (fun b hb => g_E_new hb) ?_ hP1, g_domN hdom hD1 (fun b hb => g_sh_newN hb), hA, hS1⟩)
  rw [g_E_o g_sh_new, g_fs_new]
theorem g_newTy {t0 : Nat} {ty : FieldType} {cA : ClassId} (hK : va_K G.1 gk_cl (gk_tys G.2) s) (ht : (gk_tys G.2)[t0]? = some (G.2 t0, ty)) (h : va_K G.1 gk_cl (gk_tys G.2 ++ [(cA, ty)]) s) : cA = G.2 t0 := by
  have h1 := (h.2 (gk_tys G.2).length (cA, ty) (by rw [List.getElem?_append_right (Nat.le_refl _), Nat.sub_self]; rfl)).2
  exact g_RA h1 (hK.2 t0 _ ht).2
theorem s_newI (hC : CallFix p m c cc nL s args Ts own) (hW : g_W G A s S H locs) (r : Nat) (hrep : gk_rep r = 0) (ht : (gk_tys G.2)[gk_role r]? = some (G.2 (gk_role r), .int)) (harr : Cond.arrayClass .int ∈ Ts) {i : Int32} {n : Nat} (hi : ¬ i < 0) (hn : i.toNatClampNeg = n) (hbytes : n * componentBytes .int ≤ 536870912) (hcells : cells + 1 ≤ R.cells) (hslots : slots + n ≤ R.slots) (hdg : decode cc pc = .ok (.newarray .int, 2))
    (kk : ∀ (q : Nat) (H1 : Heap), g_sh S q = none → g_W G A s (p_newA S r n q) H1 locs → W p l e R s m args below meth c H1 locs (cells + 1) (slots + n) Q (F0 m (pc + 2) ls (.ref q :: rest))) : W p l e R s m args below meth c H locs cells slots Q (F0 m pc ls (.int i :: rest)) := by
  obtain ⟨hx, hb, hml, hown, hts⟩ := hC
  obtain ⟨⟨hK, hO⟩, hP, hdom, hA, hS⟩ := hW
  refine va_newa (atype := .int) (ty := .int) (a0 := (n, .inl (fun _ => 0))) hx hb (hts _ harr) rfl hK (g_Ls_P hP H.size) (g_Ls_D hdom H.size) hS hA (fun cA => rfl) hi hn hbytes hcells hslots hdg (fun q cA H1 hK1 hP1 hD1 hS1 => ?_)
  have hcA := g_newTy hK ht hK1
  subst hcA
  refine kk q H1 (g_fresh hP hD1) ⟨⟨hK, hO⟩, g_new hP (fun b hb => g_E_newA hb) ?_ hP1, g_domN hdom hD1 (fun b hb => g_sh_newAN hb), hA, hS1⟩
  rw [g_E_a g_sh_newA, g_arr_i hrep]
  rw [show g_ai (p_newA S r n q) r q = fun _ => 0 from funext fun j => by simp [g_ai, p_newA]]
theorem s_newL (hC : CallFix p m c cc nL s args Ts own) (hW : g_W G A s S H locs) (r : Nat) (hrep : gk_rep r = 1) (ht : (gk_tys G.2)[gk_role r]? = some (G.2 (gk_role r), .long)) (harr : Cond.arrayClass .long ∈ Ts) {i : Int32} {n : Nat} (hi : ¬ i < 0) (hn : i.toNatClampNeg = n) (hbytes : n * componentBytes .long ≤ 536870912) (hcells : cells + 1 ≤ R.cells) (hslots : slots + n ≤ R.slots) (hdg : decode cc pc = .ok (.newarray .long, 2))
    (kk : ∀ (q : Nat) (H1 : Heap), g_sh S q = none → g_W G A s (p_newA S r n q) H1 locs → W p l e R s m args below meth c H1 locs (cells + 1) (slots + n) Q (F0 m (pc + 2) ls (.ref q :: rest))) : W p l e R s m args below meth c H locs cells slots Q (F0 m pc ls (.int i :: rest)) := by
  obtain ⟨hx, hb, hml, hown, hts⟩ := hC
  obtain ⟨⟨hK, hO⟩, hP, hdom, hA, hS⟩ := hW
  refine va_newa (atype := .long) (ty := .long) (a0 := (n, .inr (.inl (fun _ => 0)))) hx hb (hts _ harr) rfl hK (g_Ls_P hP H.size) (g_Ls_D hdom H.size) hS hA (fun cA => rfl) hi hn hbytes hcells hslots hdg (fun q cA H1 hK1 hP1 hD1 hS1 => ?_)
  have hcA := g_newTy hK ht hK1
  subst hcA
  refine kk q H1 (g_fresh hP hD1) ⟨⟨hK, hO⟩, g_new hP (fun b hb => g_E_newA hb) ?_ hP1, g_domN hdom hD1 (fun b hb => g_sh_newAN hb), hA, hS1⟩
  rw [g_E_a g_sh_newA, g_arr_l hrep]
  rw [show g_al (p_newA S r n q) r q = fun _ => 0 from funext fun j => by simp [g_al, p_newA]]
theorem s_newZ (hC : CallFix p m c cc nL s args Ts own) (hW : g_W G A s S H locs) (r : Nat) (hrep : gk_rep r = 0) (ht : (gk_tys G.2)[gk_role r]? = some (G.2 (gk_role r), .boolean)) (harr : Cond.arrayClass .boolean ∈ Ts) {i : Int32} {n : Nat} (hi : ¬ i < 0) (hn : i.toNatClampNeg = n) (hbytes : n * componentBytes .boolean ≤ 536870912) (hcells : cells + 1 ≤ R.cells) (hslots : slots + n ≤ R.slots) (hdg : decode cc pc = .ok (.newarray .boolean, 2))
    (kk : ∀ (q : Nat) (H1 : Heap), g_sh S q = none → g_W G A s (p_newA S r n q) H1 locs → W p l e R s m args below meth c H1 locs (cells + 1) (slots + n) Q (F0 m (pc + 2) ls (.ref q :: rest))) : W p l e R s m args below meth c H locs cells slots Q (F0 m pc ls (.int i :: rest)) := by
  obtain ⟨hx, hb, hml, hown, hts⟩ := hC
  obtain ⟨⟨hK, hO⟩, hP, hdom, hA, hS⟩ := hW
  refine va_newa (atype := .boolean) (ty := .boolean) (a0 := (n, .inl (fun _ => 0))) hx hb (hts _ harr) rfl hK (g_Ls_P hP H.size) (g_Ls_D hdom H.size) hS hA (fun cA => rfl) hi hn hbytes hcells hslots hdg (fun q cA H1 hK1 hP1 hD1 hS1 => ?_)
  have hcA := g_newTy hK ht hK1
  subst hcA
  refine kk q H1 (g_fresh hP hD1) ⟨⟨hK, hO⟩, g_new hP (fun b hb => g_E_newA hb) ?_ hP1, g_domN hdom hD1 (fun b hb => g_sh_newAN hb), hA, hS1⟩
  rw [g_E_a g_sh_newA, g_arr_i hrep]
  rw [show g_ai (p_newA S r n q) r q = fun _ => 0 from funext fun j => by simp [g_ai, p_newA]]
theorem s_newQ (hC : CallFix p m c cc nL s args Ts own) (hW : g_W G A s S H locs) (r : Nat) (hrep : gk_rep r = 2) {C : String} (ht : (gk_tys G.2)[gk_role r]? = some (G.2 (gk_role r), .object C)) {index : Nat} (hlink : Cond.classLink own index C ∈ Ts) (hover : va_AO C s) {i : Int32} {n : Nat} (hi : ¬ i < 0) (hn : i.toNatClampNeg = n) (hbytes : n * 4 ≤ 536870912) (hcells : cells + 1 ≤ R.cells) (hslots : slots + n ≤ R.slots) (hdg : decode cc pc = .ok (.anewarray index, 3))
    (kk : ∀ (q : Nat) (H1 : Heap), g_sh S q = none → g_W G A s (p_newA S r n q) H1 locs → W p l e R s m args below meth c H1 locs (cells + 1) (slots + n) Q (F0 m (pc + 3) ls (.ref q :: rest))) : W p l e R s m args below meth c H locs cells slots Q (F0 m pc ls (.int i :: rest)) := by
  obtain ⟨hx, hb, hml, hown, hts⟩ := hC
  obtain ⟨⟨hK, hO⟩, hP, hdom, hA, hS⟩ := hW
  refine va_newq hx hb hown (hts _ hlink) hover hK (g_Ls_P hP H.size) (g_Ls_D hdom H.size) hS hA hi hn hbytes hcells hslots hdg (fun q cA H1 hK1 hP1 hD1 hS1 => ?_)
  have hcA := g_newTy hK ht hK1
  subst hcA
  refine kk q H1 (g_fresh hP hD1) ⟨⟨hK, hO⟩, g_new hP (fun b hb => g_E_newA hb) ?_ hP1, g_domN hdom hD1 (fun b hb => g_sh_newAN hb), hA, hS1⟩
  rw [g_E_a g_sh_newA, g_arr_r hrep]
  rw [show g_ar (p_newA S r n q) r q = fun _ => none from funext fun j => by simp [g_ar, p_newA]]
end GS
/-! contracts over ghost states -/
def g_A (S : gs_S) (sz : Nat) : Nat → Prop := fun q => g_sh S q ≠ none ∨ sz ≤ q
def g_Pc (G : gs_G) (S : gs_S) (sz : Nat) (av : List Value) : Array Value → State → Prop := va_Pc av (fun U => U.heap.size = sz ∧ g_P G S U.heap ∧ g_K G U)
def g_B (G : gs_G) (S : gs_S) (sz : Nat) (S' : gs_S) (t : State) : Prop := g_P G S' t.heap ∧ g_K G t ∧ ∀ a : Nat, g_sh S' a ≠ none → g_A S sz a
def g_Qi (G : gs_G) (S : gs_S) (sz : Nat) (post : Int32 → gs_S → Prop) : Array Value → State → Outcome → State → Prop := va_Qi post (g_B G S sz) (g_A S sz)
def g_Ql (G : gs_G) (S : gs_S) (sz : Nat) (post : Int64 → gs_S → Prop) : Array Value → State → Outcome → State → Prop := va_Ql post (g_B G S sz) (g_A S sz)
def g_Qv (G : gs_G) (S : gs_S) (sz : Nat) (post : gs_S → Prop) : Array Value → State → Outcome → State → Prop := va_Qv post (g_B G S sz) (g_A S sz)
def g_Qq (G : gs_G) (S : gs_S) (sz : Nat) (post : Option Nat → gs_S → Prop) : Array Value → State → Outcome → State → Prop := va_Qq post (g_B G S sz) (g_A S sz)
section GC
variable {p : Program} {l : Launch} {e : Env} {R : Room} {s : State} {m : MethodId} {args : Array Value} {below : List Frame} {meth : Method} {c : Code} {H : Heap} {locs : List Loc} {cells slots : Nat} {Q : State → Prop}
variable {cc : ByteArray} {pc nL mc ms : Nat} {ls : Array Slot} {rest st0 : List Value} {G : gs_G} {A : Nat → Prop} {S S0 : gs_S} {Ts : List Cond} {own : String} {ar : Array Value}
theorem g_preS (hW : g_W G A s S H locs) (av : List Value) : PreS s H (g_Pc G S H.size av) av :=
  ⟨fun a U g mk q => by obtain ⟨q0, q1, qP, qK⟩ := q; exact ⟨q0, q1, qP, g_K.moved (u := U) (U := U.calling g mk a) (Vm.Alike.refl U.vm) qK⟩, fun U hU hWm => ⟨rfl, by rw [hU], by rw [hU]; exact hW.2.1, g_K.moved hWm.alike hW.1⟩⟩
theorem g_preV (hW : g_W G A s S H locs) {b ci : Nat} {C : String} {T : u_T} {N : Nat} {ty0 : Nat → FieldType} (hc : g_C ci C T N ty0) (hsh : g_sh S b = some (.inl ci)) (As : List Value) : PreV s H C b (g_Pc G S H.size (.ref b :: As)) As :=
  ⟨fun a U g mk q => by obtain ⟨q0, q1, qP, qK⟩ := q; exact ⟨q0, q1, qP, g_K.moved (u := U) (U := U.calling g mk a) (Vm.Alike.refl U.vm) qK⟩, va_recv hW.1.1 (g_one hW.2.1 (g_E_o hsh)) hc.1 (q0 := 0) rfl, fun U hU hWm => ⟨rfl, by rw [hU], by rw [hU]; exact hW.2.1, g_K.moved hWm.alike hW.1⟩⟩
theorem g_fr (hW : g_W G A s S H locs) : ∀ q : Nat, g_A S H.size q → A q := fun q h => h.elim (hW.2.2.1 q) (fun h => hW.2.2.2.1 q (Nat.le_trans hW.2.2.2.2.1 h))
theorem s_calli {post : Int32 → gs_S → Prop} (hW : g_W G A s S H locs) (hr : va_Run p l e R s m args below meth c H locs cells slots mc ms (F0 m pc ls st0) rest (g_Qi G S H.size post ar) (g_A S H.size))
    (kk : ∀ (r : Int32) (S' : gs_S) (H1 : Heap) (locs1 : List Loc), post r S' → g_W G A s S' H1 locs1 → W p l e R s m args below meth c H1 locs1 (cells + mc) (slots + ms) Q (F0 m (pc + 3) ls (.int r :: rest))) : W p l e R s m args below meth c H locs cells slots Q (F0 m pc ls st0) := by
  have hf := g_fr hW
  refine va_calli hr hW.2.2.2.2 (fun q _ h => hf q h) hf (fun r u t H1 locs1 ht hvm hp hB hz hk hS => ?_)
  obtain ⟨b1, b2, b3⟩ := hB
  exact kk r u H1 locs1 hp ⟨g_K.moved hvm.symm b2, by rw [ht] at b1; exact b1, fun a h => hf a (b3 a h), hW.2.2.2.1, hS⟩
theorem s_calll {post : Int64 → gs_S → Prop} (hW : g_W G A s S H locs) (hr : va_Run p l e R s m args below meth c H locs cells slots mc ms (F0 m pc ls st0) rest (g_Ql G S H.size post ar) (g_A S H.size))
    (kk : ∀ (r : Int64) (S' : gs_S) (H1 : Heap) (locs1 : List Loc), post r S' → g_W G A s S' H1 locs1 → W p l e R s m args below meth c H1 locs1 (cells + mc) (slots + ms) Q (F0 m (pc + 3) ls (.long r :: rest))) : W p l e R s m args below meth c H locs cells slots Q (F0 m pc ls st0) := by
  have hf := g_fr hW
  refine va_calll hr hW.2.2.2.2 (fun q _ h => hf q h) hf (fun r u t H1 locs1 ht hvm hp hB hz hk hS => ?_)
  obtain ⟨b1, b2, b3⟩ := hB
  exact kk r u H1 locs1 hp ⟨g_K.moved hvm.symm b2, by rw [ht] at b1; exact b1, fun a h => hf a (b3 a h), hW.2.2.2.1, hS⟩
theorem s_callv {post : gs_S → Prop} (hW : g_W G A s S H locs) (hr : va_Run p l e R s m args below meth c H locs cells slots mc ms (F0 m pc ls st0) rest (g_Qv G S H.size post ar) (g_A S H.size))
    (kk : ∀ (S' : gs_S) (H1 : Heap) (locs1 : List Loc), post S' → g_W G A s S' H1 locs1 → W p l e R s m args below meth c H1 locs1 (cells + mc) (slots + ms) Q (F0 m (pc + 3) ls rest)) : W p l e R s m args below meth c H locs cells slots Q (F0 m pc ls st0) := by
  have hf := g_fr hW
  refine va_callv hr hW.2.2.2.2 (fun q _ h => hf q h) hf (fun u t H1 locs1 ht hvm hp hB hz hk hS => ?_)
  obtain ⟨b1, b2, b3⟩ := hB
  exact kk u H1 locs1 hp ⟨g_K.moved hvm.symm b2, by rw [ht] at b1; exact b1, fun a h => hf a (b3 a h), hW.2.2.2.1, hS⟩
theorem s_callq {post : Option Nat → gs_S → Prop} (hW : g_W G A s S H locs) (hr : va_Run p l e R s m args below meth c H locs cells slots mc ms (F0 m pc ls st0) rest (g_Qq G S H.size post ar) (g_A S H.size))
    (kk : ∀ (r : Option Nat) (S' : gs_S) (H1 : Heap) (locs1 : List Loc), post r S' → g_W G A s S' H1 locs1 → W p l e R s m args below meth c H1 locs1 (cells + mc) (slots + ms) Q (F0 m (pc + 3) ls (va_rf r :: rest))) : W p l e R s m args below meth c H locs cells slots Q (F0 m pc ls st0) := by
  have hf := g_fr hW
  refine va_callq hr hW.2.2.2.2 (fun q _ h => hf q h) hf (fun r u t H1 locs1 ht hvm hp hB hz hk hS => ?_)
  obtain ⟨b1, b2, b3⟩ := hB
  exact kk r u H1 locs1 hp ⟨g_K.moved hvm.symm b2, by rw [ht] at b1; exact b1, fun a h => hf a (b3 a h), hW.2.2.2.1, hS⟩
theorem s_iret {post : Int32 → gs_S → Prop} {v : Int32} {ty : FieldType} (hC : CallFix p m c cc nL s args Ts own) (hr : meth.sig.returnType = some ty) (hlocks : meth.locks = false) (hn : narrow ty (.int v) = .int v) (hW : g_W G (g_A S0 s.heap.size) s S H locs) (hdg : decode cc pc = .ok (.ireturn, 1)) (hp : post v S) :
    W p l e R s m args below meth c H locs cells slots (MQ below (g_Qi G S0 s.heap.size post) args s cells slots (g_A S0 s.heap.size)) (F0 m pc ls [.int v]) :=
  W.zret (hlocks := hlocks) hC.1 hC.2.1 hr hn (fun t ht hWm => ⟨⟨v, S, rfl, hp, by rw [ht]; exact hW.2.1, g_K.moved hWm.alike hW.1, hW.2.2.1⟩, hW.2.2.2.2.F ht⟩) hW.2.2.2.2.2.2 hdg
theorem s_lret {post : Int64 → gs_S → Prop} {v : Int64} (hC : CallFix p m c cc nL s args Ts own) (hr : meth.sig.returnType = some .long) (hlocks : meth.locks = false) (hW : g_W G (g_A S0 s.heap.size) s S H locs) (hdg : decode cc pc = .ok (.lreturn, 1)) (hp : post v S) :
    W p l e R s m args below meth c H locs cells slots (MQ below (g_Ql G S0 s.heap.size post) args s cells slots (g_A S0 s.heap.size)) (F0 m pc ls [.long v]) :=
  W.lret (hlocks := hlocks) hC.1 hC.2.1 hr (fun t ht hWm => ⟨⟨v, S, rfl, hp, by rw [ht]; exact hW.2.1, g_K.moved hWm.alike hW.1, hW.2.2.1⟩, hW.2.2.2.2.F ht⟩) hW.2.2.2.2.2.2 hdg
theorem s_vret {post : gs_S → Prop} (hC : CallFix p m c cc nL s args Ts own) (hr : meth.sig.returnType = none) (hlocks : meth.locks = false) (hW : g_W G (g_A S0 s.heap.size) s S H locs) (hdg : decode cc pc = .ok (.return_, 1)) (hp : post S) :
    W p l e R s m args below meth c H locs cells slots (MQ below (g_Qv G S0 s.heap.size post) args s cells slots (g_A S0 s.heap.size)) (F0 m pc ls []) :=
  W.vret (hlocks := hlocks) hC.1 hC.2.1 hr (fun t ht hWm => ⟨⟨S, rfl, hp, by rw [ht]; exact hW.2.1, g_K.moved hWm.alike hW.1, hW.2.2.1⟩, hW.2.2.2.2.F ht⟩) hW.2.2.2.2.2.2 hdg
theorem s_aret {post : Option Nat → gs_S → Prop} {v : Option Nat} {n : String} (hC : CallFix p m c cc nL s args Ts own) (hr : meth.sig.returnType = some (.object n)) (hlocks : meth.locks = false) (hW : g_W G (g_A S0 s.heap.size) s S H locs) (hdg : decode cc pc = .ok (.areturn, 1)) (hp : post v S) :
    W p l e R s m args below meth c H locs cells slots (MQ below (g_Qq G S0 s.heap.size post) args s cells slots (g_A S0 s.heap.size)) (F0 m pc ls [va_rf v]) :=
  W.aret (hlocks := hlocks) hC.1 hC.2.1 hr (Or.inl ⟨n, rfl⟩) (va_rf_or v) (fun t ht hWm => ⟨⟨v, S, rfl, hp, by rw [ht]; exact hW.2.1, g_K.moved hWm.alike hW.1, hW.2.2.1⟩, hW.2.2.2.2.F ht⟩) hW.2.2.2.2.2.2 hdg
/-- a method's head -/
theorem s_head {y : MethodName} {rm : Room} {av : List Value} {sz : Nat} {Qc : Array Value → State → Outcome → State → Prop} {maxL : Nat} {ret : Option FieldType} (hy : plainName y.cls = true) (hlen : (lg_sl av).length ≤ maxL)
    (body : ∀ (p : Program) (e : Env) (s : State) (m : MethodId) (below : List Frame) (meth : Method) (c : Code) (ls : Array Slot), s.heap.size = sz → CallFix p m c cc maxL s av.toArray gU y.cls → meth.sig.returnType = ret → meth.locks = false → meth.name = y.name → lv_has ls maxL (lv_args 0 av) → g_W G (g_A S s.heap.size) s S s.heap [] →
      W p l e rm s m av.toArray below meth c s.heap [] 0 0 (MQ below Qc av.toArray s mc ms (g_A S sz)) (F0 m 0 ls [])) : Met l y (Cond.code y cc maxL ret :: gU) rm (g_Pc G S sz av) Qc mc ms (g_A S sz) := by
  refine Met.ofW (cc := cc) (maxL := maxL) (ret := ret) hy rfl ?_
  intro p e s m args below meth c s₁ B hml hv
  obtain ⟨rfl, hsz, hP, hK⟩ := hv
  have hl := lv_entry av (n := maxL) hlen
  rw [lg_entry_eq]
  generalize (lg_sl av ++ List.replicate (maxL - (lg_sl av).length) Slot.unset).toArray = ls at hl ⊢
  exact body p e s m below meth c ls hsz ⟨B.exec, B.bytes, hml, findClass_of_methodNamed B.named, fun w h => atoms_spec (ws := Cond.code y cc maxL ret :: gU) B.pre w (List.mem_cons_of_mem _ h)⟩ B.returns B.notSynchronized (name_of_methodNamed B.named B.method).1 hl ⟨hK, hP, fun a h => Or.inl h, fun q h => Or.inr h, va_S.rf⟩
theorem gU_goodL {ws : List Cond} (h : ∀ w ∈ ws, w ∈ gU) : GoodIn gU ws := fun w hw => ⟨h w hw, good_of_word (List.mem_filter.mp (h w hw)).2⟩
/-- a call of an instance method of ours, private ones too -/
theorem s_runV {y : MethodName} {bytes : ByteArray} {maxL n index : Nat} {ret : Option FieldType} {rm : Room} {Pc : Array Value → State → Prop} {Qc : Array Value → State → Outcome → State → Prop} {free : Addr → Prop} {C : String} {b : Addr} {As : List Value} (hC : CallFix p m c cc nL s args gU own) (hM : Met l y (Cond.code y bytes maxL ret :: gU) rm Pc Qc mc ms free) (hk : Cond.code y bytes maxL ret ∈ gU) (h1 : Cond.methodLink own index y ∈ gU) (h2 : Cond.instanceMethod y ∈ gU) (h3 : Cond.selects C y y ∈ gU) (h4 : Cond.initialized C ∈ gU) (hrc : rm.cells = mc) (hrs : rm.slots = ms)
    (hd : y.cls = C ∧ y.cls ≠ "java/lang/invoke/MethodHandle" ∧ y.cls ≠ "java/lang/invoke/VarHandle" ∧ (parseMethodDescriptor y.desc).map (fun d => d.parameters.length) = some n) (hR : rm.frames + 1 ≤ R.frames ∧ 8 + (maxL + 11) + rm.locals ≤ R.locals) (hp : PreV s H C b Pc As) (hn : As.length = n) (hsize : ls.size = nL) (hstack : st0 = As.reverse ++ .ref b :: rest) (hW : (rest.map fun v => v.category).sum ≤ 8) (hdg : decode cc pc = .ok (.invokevirtual index, 3)) (hf : cells + mc ≤ R.cells ∧ slots + ms ≤ R.slots) :
    va_Run p l e R s m args below meth c H locs cells slots mc ms (F0 m pc ls st0) rest (Qc (Value.ref b :: As).toArray) free := by
  refine va_runV hC hM (cwV n hC.2.2.2.2 (gU_goodL ?_) rfl hrc hrs hd hR) hp rfl hn hsize hstack (lv_room hW) hdg hf
  intro w hw
  unfold wsV at hw
  simp only [List.mem_append, List.mem_cons, List.not_mem_nil, or_false] at hw
  rcases hw with (rfl | rfl | rfl | rfl) | rfl | hw
  · exact h1
  · exact h2
  · exact h3
  · exact h4
  · exact hk
  · exact hw
/-- a call of a static method of ours -/
theorem s_runS {y : MethodName} {bytes : ByteArray} {maxL n index : Nat} {ret : Option FieldType} {rm : Room} {Pc : Array Value → State → Prop} {Qc : Array Value → State → Outcome → State → Prop} {free : Addr → Prop} {As : List Value} (hC : CallFix p m c cc nL s args gU own) (hM : Met l y (Cond.code y bytes maxL ret :: gU) rm Pc Qc mc ms free) (hk : Cond.code y bytes maxL ret ∈ gU) (h1 : Cond.methodLink own index y ∈ gU) (h2 : Cond.static y ∈ gU) (h4 : Cond.initialized y.cls ∈ gU) (hrc : rm.cells = mc) (hrs : rm.slots = ms)
    (hd : y.cls ≠ "java/lang/invoke/MethodHandle" ∧ y.cls ≠ "java/lang/invoke/VarHandle" ∧ (parseMethodDescriptor y.desc).map (fun d => d.parameters.length) = some n) (hR : rm.frames + 1 ≤ R.frames ∧ 8 + (maxL + 11) + rm.locals ≤ R.locals) (hp : PreS s H Pc As) (hn : As.length = n) (hsize : ls.size = nL) (hstack : st0 = As.reverse ++ rest) (hW : (rest.map fun v => v.category).sum ≤ 8) (hdg : decode cc pc = .ok (.invokestatic index, 3)) (hf : cells + mc ≤ R.cells ∧ slots + ms ≤ R.slots) :
    va_Run p l e R s m args below meth c H locs cells slots mc ms (F0 m pc ls st0) rest (Qc As.toArray) free := by
  refine va_runS hC hM (va_cwS n hC.2.2.2.2 (gU_goodL ?_) rfl hrc hrs hd hR) hp rfl hn hsize hstack (lv_room hW) hdg hf
  intro w hw
  unfold va_wsS at hw
  simp only [List.mem_append, List.mem_cons, List.not_mem_nil, or_false] at hw
  rcases hw with (rfl | rfl | rfl) | rfl | hw
  · exact h1
  · exact h2
  · exact h4
  · exact hk
  · exact hw
/-- a call of a constructor of ours -/
theorem s_runI {y : MethodName} {bytes : ByteArray} {maxL n index : Nat} {rm : Room} {Pc : Array Value → State → Prop} {Qc : Array Value → State → Outcome → State → Prop} {free : Addr → Prop} {b : Addr} {As : List Value} (hC : CallFix p m c cc nL s args gU own) (hM : Met l y (Cond.code y bytes maxL none :: gU) rm Pc Qc mc ms free) (hk : Cond.code y bytes maxL none ∈ gU) (h1 : Cond.methodLink own index y ∈ gU) (h2 : Cond.instanceMethod y ∈ gU) (h4 : Cond.initialized y.cls ∈ gU) (hrc : rm.cells = mc) (hrs : rm.slots = ms) (hy1 : y.name = "<init>")
    (hd : y.cls ≠ "java/lang/invoke/MethodHandle" ∧ y.cls ≠ "java/lang/invoke/VarHandle" ∧ (parseMethodDescriptor y.desc).map (fun d => d.parameters.length) = some n) (hR : rm.frames + 1 ≤ R.frames ∧ 8 + (maxL + 11) + rm.locals ≤ R.locals) (hp : PreS s H Pc (.ref b :: As)) (hn : As.length = n) (hsize : ls.size = nL) (hstack : st0 = As.reverse ++ .ref b :: rest) (hW : (rest.map fun v => v.category).sum ≤ 8) (hdg : decode cc pc = .ok (.invokespecial index, 3)) (hf : cells + mc ≤ R.cells ∧ slots + ms ≤ R.slots) :
    va_Run p l e R s m args below meth c H locs cells slots mc ms (F0 m pc ls st0) rest (Qc (Value.ref b :: As).toArray) free := by
  refine va_runI hC hM (cwI n hC.2.2.2.2 (gU_goodL ?_) rfl hrc hrs (hC.2.2.2.2 _ h4) (hC.2.2.2.2 _ h1) (hC.2.2.2.2 _ h2) hy1 hd hR) hp rfl hn hsize hstack (lv_room hW) hdg hf
  intro w hw
  rcases List.mem_cons.mp hw with rfl | hw
  · exact hk
  · exact hw
theorem s_cat (x : Option Nat) : (va_rf x).category = 1 := by cases x <;> rfl
end GC
section GL
variable {p : Program} {l : Launch} {e : Env} {R : Room} {s : State} {m : MethodId} {args : Array Value} {below : List Frame} {meth : Method} {c : Code} {H : Heap} {locs : List Loc} {cells slots : Nat} {Q : State → Prop}
variable {cc : ByteArray} {pc : Nat} {ls : Array Slot} {rest : List Value}
theorem s_aload_n (hexec : p.tables.exec = Jvm.exec) (hb : c.code = cc) {k : Fin 4} {i : Nat} {x : Option Nat} (hdg : decode cc pc = .ok (.aload_n k, 1)) (hi : (k : Nat) = i) (hl : ls[i]? = some (.val (va_rf x)))
    (kk : W p l e R s m args below meth c H locs cells slots Q (F0 m (pc + 1) ls (va_rf x :: rest))) : W p l e R s m args below meth c H locs cells slots Q (F0 m pc ls rest) := by
  cases x with
  | none => exact lv_aload_nN hexec hb hdg hi hl kk
  | some a => exact lv_aload_n hexec hb hdg hi hl kk
theorem s_aload (hexec : p.tables.exec = Jvm.exec) (hb : c.code = cc) {i : Nat} {x : Option Nat} (hdg : decode cc pc = .ok (.aload i, 2)) (hl : ls[i]? = some (.val (va_rf x)))
    (kk : W p l e R s m args below meth c H locs cells slots Q (F0 m (pc + 2) ls (va_rf x :: rest))) : W p l e R s m args below meth c H locs cells slots Q (F0 m pc ls rest) := by
  cases x with
  | none => exact lv_aloadN hexec hb hdg hl kk
  | some a => exact lv_aload hexec hb hdg hl kk
theorem s_astore_n (hexec : p.tables.exec = Jvm.exec) (hb : c.code = cc) {k : Fin 4} {i nL : Nat} {x : Option Nat} {lv lv' : List (Nat × Value)} (hdg : decode cc pc = .ok (.astore_n k, 1)) (hi : (k : Nat) = i) (h : lv_has ls nL lv) (hn : i < nL) (hl : (i, va_rf x) :: lv.filter (fun q => !(q.1 == i) && !(q.1 + 1 == i && q.2.category == 2)) = lv')
    (kk : ∀ ls' : Array Slot, lv_has ls' nL lv' → W p l e R s m args below meth c H locs cells slots Q (F0 m (pc + 1) ls' rest)) : W p l e R s m args below meth c H locs cells slots Q (F0 m pc ls (va_rf x :: rest)) := by
  cases x with
  | none => exact lv_astore_nN hexec hb hdg hi h hn hl kk
  | some a => exact lv_astore_n hexec hb hdg hi h hn hl kk
theorem s_astore (hexec : p.tables.exec = Jvm.exec) (hb : c.code = cc) {i nL : Nat} {x : Option Nat} {lv lv' : List (Nat × Value)} (hdg : decode cc pc = .ok (.astore i, 2)) (h : lv_has ls nL lv) (hn : i < nL) (hl : (i, va_rf x) :: lv.filter (fun q => !(q.1 == i) && !(q.1 + 1 == i && q.2.category == 2)) = lv')
    (kk : ∀ ls' : Array Slot, lv_has ls' nL lv' → W p l e R s m args below meth c H locs cells slots Q (F0 m (pc + 2) ls' rest)) : W p l e R s m args below meth c H locs cells slots Q (F0 m pc ls (va_rf x :: rest)) := by
  cases x with
  | none => exact lv_astoreN hexec hb hdg h hn hl kk
  | some a => exact lv_astore hexec hb hdg h hn hl kk
theorem s_ifnull (hexec : p.tables.exec = Jvm.exec) (hb : c.code = cc) {x : Option Nat} {off : Int} {tgt : Nat} (hdg : decode cc pc = .ok (.ifnull off, 3)) (ht : (pc : Int) + off = (tgt : Int))
    (kt : x = none → W p l e R s m args below meth c H locs cells slots Q (F0 m tgt ls rest)) (kf : ∀ a : Nat, x = some a → W p l e R s m args below meth c H locs cells slots Q (F0 m (pc + 3) ls rest)) : W p l e R s m args below meth c H locs cells slots Q (F0 m pc ls (va_rf x :: rest)) := by
  cases x with
  | none => exact lv_ifnullN hexec hb hdg ht (kt rfl)
  | some a => exact lv_ifnull hexec hb hdg (kf a rfl)
theorem s_ifnonnull (hexec : p.tables.exec = Jvm.exec) (hb : c.code = cc) {x : Option Nat} {off : Int} {tgt : Nat} (hdg : decode cc pc = .ok (.ifnonnull off, 3)) (ht : (pc : Int) + off = (tgt : Int))
    (kt : ∀ a : Nat, x = some a → W p l e R s m args below meth c H locs cells slots Q (F0 m tgt ls rest)) (kf : x = none → W p l e R s m args below meth c H locs cells slots Q (F0 m (pc + 3) ls rest)) : W p l e R s m args below meth c H locs cells slots Q (F0 m pc ls (va_rf x :: rest)) := by
  cases x with
  | none => exact lv_ifnonnullN hexec hb hdg (kf rfl)
  | some a => exact lv_ifnonnull hexec hb hdg ht (kt a rfl)
theorem s_null (hexec : p.tables.exec = Jvm.exec) (hb : c.code = cc) (hdg : decode cc pc = .ok (.aconst_null, 1)) (kk : W p l e R s m args below meth c H locs cells slots Q (F0 m (pc + 1) ls (va_rf none :: rest))) : W p l e R s m args below meth c H locs cells slots Q (F0 m pc ls rest) := lv_null hexec hb hdg kk
/-- a reference on top by another name -/
theorem s_top {x y : Option Nat} (h : x = y) (kk : W p l e R s m args below meth c H locs cells slots Q (F0 m pc ls (va_rf y :: rest))) : W p l e R s m args below meth c H locs cells slots Q (F0 m pc ls (va_rf x :: rest)) := by
  subst h
  exact kk
end GL
theorem gc_L : g_C 0 "CallRows$Level" TfL 9 tyL := ⟨rfl, by decide +kernel, by decide +kernel⟩
theorem gc_P : g_C 1 "CallRows$Program" TfP 9 tyP := ⟨rfl, by decide +kernel, by decide +kernel⟩
theorem gc_R : g_C 2 "CallRows" TfR 12 tyR := ⟨rfl, by decide +kernel, by decide +kernel⟩
theorem gc_M : g_C 3 "CallRowsModel" TfM 29 tyM := ⟨rfl, by decide +kernel, by decide +kernel⟩
