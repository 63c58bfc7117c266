/-! WELL-TYPED, the reference: its arrays, and the ranges of its numbers -/
def m_rg (r i : Nat) (v : Int32) : Prop := match r with
  | 10 => ∃ w : Nat, v = nI w ∧ w ≤ 60 ∧ (w < i ∨ w = 0)
  | 13 => ∃ w : Nat, v = nI w ∧ w ≤ 16
  | 16 => ∃ w : Nat, v = nI w ∧ w ≤ 60
  | 17 => ∃ w : Nat, v = nI w ∧ w < 200
  | 23 => ∃ w : Nat, v = nI w ∧ w ≤ 60
  | 24 => ∃ w : Nat, v = nI w ∧ w ≤ 59800
  | 25 => ∃ w : Nat, v = nI w ∧ w ≤ 60000
  | 26 => v = -1 ∨ ∃ w : Nat, v = nI w ∧ w < 60000
  | 27 => v = -1 ∨ ∃ w : Nat, v = nI w ∧ w < 60000
  | _ => True
def mt_Y (S : gs_S) : Prop := ∀ y : Nat, g_sh S y = some (.inl 3) → t_a S 10 61 (g_r S 3 2 y) ∧ t_a S 11 61 (g_r S 3 3 y) ∧ t_a S 12 61 (g_r S 3 4 y) ∧ t_a S 13 61 (g_r S 3 5 y) ∧ t_a S 14 61 (g_r S 3 6 y) ∧ t_a S 15 61 (g_r S 3 7 y) ∧ t_a S 16 200 (g_r S 3 9 y) ∧ t_a S 17 200 (g_r S 3 10 y) ∧ t_a S 18 200 (g_r S 3 11 y) ∧ t_a S 19 200 (g_r S 3 12 y) ∧ t_a S 20 976 (g_r S 3 14 y) ∧ t_a S 21 976 (g_r S 3 15 y) ∧ t_a S 22 60000 (g_r S 3 16 y) ∧ t_a S 23 600 (g_r S 3 18 y) ∧ t_a S 24 600 (g_r S 3 19 y) ∧ t_a S 25 600 (g_r S 3 20 y) ∧ t_a S 26 9600 (g_r S 3 21 y) ∧ t_a S 27 16 (g_r S 3 26 y) ∧ t_a S 28 16 (g_r S 3 27 y) ∧ (∃ n : Nat, n ≤ 60 ∧ g_i S 3 8 y = nI n) ∧ (∃ n : Nat, n ≤ 200 ∧ g_i S 3 13 y = nI n) ∧ (∃ n : Nat, n ≤ 256 ∧ g_i S 3 22 y = nI n) ∧ (∃ n : Nat, n ≤ 60 ∧ g_i S 3 23 y = nI n) ∧ (∃ n : Nat, n ≤ 16 ∧ g_i S 3 24 y = nI n) ∧ (∃ n : Nat, n ≤ 60000 ∧ g_i S 3 17 y = nI n) ∧ (∃ n : Nat, n ≤ 60000 ∧ g_i S 3 25 y = nI n)
def mt_A (S : gs_S) : Prop := ∀ a r n : Nat, g_sh S a = some (.inr (r, n)) → 10 ≤ r → ∀ i : Nat, i < n → m_rg r i (g_ai S r a i)
def m_t (S : gs_S) : Prop := mt_Y S ∧ mt_A S
theorem w_m_within {S : gs_S} {y : Nat} (h : m_t S) (hy : g_sh S y = some (.inl 3)) : t_a S 10 61 (g_r S 3 2 y) := (h.1 y hy).1
theorem w_m_names {S : gs_S} {y : Nat} (h : m_t S) (hy : g_sh S y = some (.inl 3)) : t_a S 11 61 (g_r S 3 3 y) := (h.1 y hy).2.1
theorem w_m_marks {S : gs_S} {y : Nat} (h : m_t S) (hy : g_sh S y = some (.inl 3)) : t_a S 12 61 (g_r S 3 4 y) := (h.1 y hy).2.2.1
theorem w_m_manyFormals {S : gs_S} {y : Nat} (h : m_t S) (hy : g_sh S y = some (.inl 3)) : t_a S 13 61 (g_r S 3 5 y) := (h.1 y hy).2.2.2.1
theorem w_m_activeTimes {S : gs_S} {y : Nat} (h : m_t S) (hy : g_sh S y = some (.inl 3)) : t_a S 14 61 (g_r S 3 6 y) := (h.1 y hy).2.2.2.2.1
theorem w_m_data {S : gs_S} {y : Nat} (h : m_t S) (hy : g_sh S y = some (.inl 3)) : t_a S 15 61 (g_r S 3 7 y) := (h.1 y hy).2.2.2.2.2.1
theorem w_m_owner {S : gs_S} {y : Nat} (h : m_t S) (hy : g_sh S y = some (.inl 3)) : t_a S 16 200 (g_r S 3 9 y) := (h.1 y hy).2.2.2.2.2.2.1
theorem w_m_rank {S : gs_S} {y : Nat} (h : m_t S) (hy : g_sh S y = some (.inl 3)) : t_a S 17 200 (g_r S 3 10 y) := (h.1 y hy).2.2.2.2.2.2.2.1
theorem w_m_external {S : gs_S} {y : Nat} (h : m_t S) (hy : g_sh S y = some (.inl 3)) : t_a S 18 200 (g_r S 3 11 y) := (h.1 y hy).2.2.2.2.2.2.2.2.1
theorem w_m_first {S : gs_S} {y : Nat} (h : m_t S) (hy : g_sh S y = some (.inl 3)) : t_a S 19 200 (g_r S 3 12 y) := (h.1 y hy).2.2.2.2.2.2.2.2.2.1
theorem w_m_how {S : gs_S} {y : Nat} (h : m_t S) (hy : g_sh S y = some (.inl 3)) : t_a S 20 976 (g_r S 3 14 y) := (h.1 y hy).2.2.2.2.2.2.2.2.2.2.1
theorem w_m_bytes {S : gs_S} {y : Nat} (h : m_t S) (hy : g_sh S y = some (.inl 3)) : t_a S 21 976 (g_r S 3 15 y) := (h.1 y hy).2.2.2.2.2.2.2.2.2.2.2.1
theorem w_m_memory {S : gs_S} {y : Nat} (h : m_t S) (hy : g_sh S y = some (.inl 3)) : t_a S 22 60000 (g_r S 3 16 y) := (h.1 y hy).2.2.2.2.2.2.2.2.2.2.2.2.1
theorem w_m_callOf {S : gs_S} {y : Nat} (h : m_t S) (hy : g_sh S y = some (.inl 3)) : t_a S 23 600 (g_r S 3 18 y) := (h.1 y hy).2.2.2.2.2.2.2.2.2.2.2.2.2.1
theorem w_m_baseOf {S : gs_S} {y : Nat} (h : m_t S) (hy : g_sh S y = some (.inl 3)) : t_a S 24 600 (g_r S 3 19 y) := (h.1 y hy).2.2.2.2.2.2.2.2.2.2.2.2.2.2.1
theorem w_m_usedAhead {S : gs_S} {y : Nat} (h : m_t S) (hy : g_sh S y = some (.inl 3)) : t_a S 25 600 (g_r S 3 20 y) := (h.1 y hy).2.2.2.2.2.2.2.2.2.2.2.2.2.2.2.1
theorem w_m_placeOf {S : gs_S} {y : Nat} (h : m_t S) (hy : g_sh S y = some (.inl 3)) : t_a S 26 9600 (g_r S 3 21 y) := (h.1 y hy).2.2.2.2.2.2.2.2.2.2.2.2.2.2.2.2.1
theorem w_m_argument {S : gs_S} {y : Nat} (h : m_t S) (hy : g_sh S y = some (.inl 3)) : t_a S 27 16 (g_r S 3 26 y) := (h.1 y hy).2.2.2.2.2.2.2.2.2.2.2.2.2.2.2.2.2.1
theorem w_m_argumentBytes {S : gs_S} {y : Nat} (h : m_t S) (hy : g_sh S y = some (.inl 3)) : t_a S 28 16 (g_r S 3 27 y) := (h.1 y hy).2.2.2.2.2.2.2.2.2.2.2.2.2.2.2.2.2.2.1
theorem w_m_programs {S : gs_S} {y : Nat} (h : m_t S) (hy : g_sh S y = some (.inl 3)) : (∃ n : Nat, n ≤ 60 ∧ g_i S 3 8 y = nI n) := (h.1 y hy).2.2.2.2.2.2.2.2.2.2.2.2.2.2.2.2.2.2.2.1
theorem w_m_cells {S : gs_S} {y : Nat} (h : m_t S) (hy : g_sh S y = some (.inl 3)) : (∃ n : Nat, n ≤ 200 ∧ g_i S 3 13 y = nI n) := (h.1 y hy).2.2.2.2.2.2.2.2.2.2.2.2.2.2.2.2.2.2.2.2.1
theorem w_m_active {S : gs_S} {y : Nat} (h : m_t S) (hy : g_sh S y = some (.inl 3)) : (∃ n : Nat, n ≤ 256 ∧ g_i S 3 22 y = nI n) := (h.1 y hy).2.2.2.2.2.2.2.2.2.2.2.2.2.2.2.2.2.2.2.2.2.1
theorem w_m_prepared {S : gs_S} {y : Nat} (h : m_t S) (hy : g_sh S y = some (.inl 3)) : (∃ n : Nat, n ≤ 60 ∧ g_i S 3 23 y = nI n) := (h.1 y hy).2.2.2.2.2.2.2.2.2.2.2.2.2.2.2.2.2.2.2.2.2.2.1
theorem w_m_arguments {S : gs_S} {y : Nat} (h : m_t S) (hy : g_sh S y = some (.inl 3)) : (∃ n : Nat, n ≤ 16 ∧ g_i S 3 24 y = nI n) := (h.1 y hy).2.2.2.2.2.2.2.2.2.2.2.2.2.2.2.2.2.2.2.2.2.2.2.1
theorem w_m_used {S : gs_S} {y : Nat} (h : m_t S) (hy : g_sh S y = some (.inl 3)) : (∃ n : Nat, n ≤ 60000 ∧ g_i S 3 17 y = nI n) := (h.1 y hy).2.2.2.2.2.2.2.2.2.2.2.2.2.2.2.2.2.2.2.2.2.2.2.2.1
theorem w_m_preparedAhead {S : gs_S} {y : Nat} (h : m_t S) (hy : g_sh S y = some (.inl 3)) : (∃ n : Nat, n ≤ 60000 ∧ g_i S 3 25 y = nI n) := (h.1 y hy).2.2.2.2.2.2.2.2.2.2.2.2.2.2.2.2.2.2.2.2.2.2.2.2.2
theorem m_g10 {S : gs_S} {a n i : Nat} (h : m_t S) (ha : g_sh S a = some (.inr (10, n))) (hi : i < n) : ∃ w : Nat, g_ai S 10 a i = nI w ∧ w ≤ 60 ∧ (w < i ∨ w = 0) := h.2 a 10 n ha (by decide) i hi
theorem m_g13 {S : gs_S} {a n i : Nat} (h : m_t S) (ha : g_sh S a = some (.inr (13, n))) (hi : i < n) : ∃ w : Nat, g_ai S 13 a i = nI w ∧ w ≤ 16 := h.2 a 13 n ha (by decide) i hi
theorem m_g16 {S : gs_S} {a n i : Nat} (h : m_t S) (ha : g_sh S a = some (.inr (16, n))) (hi : i < n) : ∃ w : Nat, g_ai S 16 a i = nI w ∧ w ≤ 60 := h.2 a 16 n ha (by decide) i hi
theorem m_g17 {S : gs_S} {a n i : Nat} (h : m_t S) (ha : g_sh S a = some (.inr (17, n))) (hi : i < n) : ∃ w : Nat, g_ai S 17 a i = nI w ∧ w < 200 := h.2 a 17 n ha (by decide) i hi
theorem m_g23 {S : gs_S} {a n i : Nat} (h : m_t S) (ha : g_sh S a = some (.inr (23, n))) (hi : i < n) : ∃ w : Nat, g_ai S 23 a i = nI w ∧ w ≤ 60 := h.2 a 23 n ha (by decide) i hi
theorem m_g24 {S : gs_S} {a n i : Nat} (h : m_t S) (ha : g_sh S a = some (.inr (24, n))) (hi : i < n) : ∃ w : Nat, g_ai S 24 a i = nI w ∧ w ≤ 59800 := h.2 a 24 n ha (by decide) i hi
theorem m_g25 {S : gs_S} {a n i : Nat} (h : m_t S) (ha : g_sh S a = some (.inr (25, n))) (hi : i < n) : ∃ w : Nat, g_ai S 25 a i = nI w ∧ w ≤ 60000 := h.2 a 25 n ha (by decide) i hi
theorem m_g26 {S : gs_S} {a n i : Nat} (h : m_t S) (ha : g_sh S a = some (.inr (26, n))) (hi : i < n) : g_ai S 26 a i = -1 ∨ ∃ w : Nat, g_ai S 26 a i = nI w ∧ w < 60000 := h.2 a 26 n ha (by decide) i hi
theorem m_g27 {S : gs_S} {a n i : Nat} (h : m_t S) (ha : g_sh S a = some (.inr (27, n))) (hi : i < n) : g_ai S 27 a i = -1 ∨ ∃ w : Nat, g_ai S 27 a i = nI w ∧ w < 60000 := h.2 a 27 n ha (by decide) i hi
theorem mt_pal {S : gs_S} {r a j : Nat} {v : Int64} (h : m_t S) : m_t (p_al S r a j v) := h
theorem mt_pl {S : gs_S} {c k a : Nat} {v : Int64} (h : m_t S) : m_t (p_l S c k a v) := h
theorem mt_par {S : gs_S} {r a j : Nat} {v : Option Nat} (h : m_t S) : m_t (p_ar S r a j v) := h
theorem mt_pai {S : gs_S} {r a j : Nat} {v : Int32} (h : m_t S) (hv : 10 ≤ r → m_rg r j v) : m_t (p_ai S r a j v) := by
  refine ⟨h.1, fun b r' n hb hr i hi => ?_⟩
  rw [x_g_ai_p_ai]
  split
  · rename_i c
    obtain ⟨rfl, rfl, rfl⟩ := c
    exact hv hr
  · exact h.2 b r' n hb hr i hi
theorem mt_pr {S : gs_S} {c k a : Nat} {v : Option Nat} (h : m_t S) (hc : c ≠ 3) : m_t (p_r S c k a v) := by
  refine ⟨fun y hy => ?_, h.2⟩
  have e : ∀ k' : Nat, g_r (p_r S c k a v) 3 k' y = g_r S 3 k' y := fun k' => by rw [x_g_r_p_r, if_neg (fun z => hc z.1.symm)]
  simp only [e]
  exact h.1 y hy
def m_ir (k : Nat) (v : Int32) : Prop := (k = 8 → ∃ n : Nat, n ≤ 60 ∧ v = nI n) ∧ (k = 13 → ∃ n : Nat, n ≤ 200 ∧ v = nI n) ∧ (k = 22 → ∃ n : Nat, n ≤ 256 ∧ v = nI n) ∧ (k = 23 → ∃ n : Nat, n ≤ 60 ∧ v = nI n) ∧ (k = 24 → ∃ n : Nat, n ≤ 16 ∧ v = nI n) ∧ (k = 17 → ∃ n : Nat, n ≤ 60000 ∧ v = nI n) ∧ (k = 25 → ∃ n : Nat, n ≤ 60000 ∧ v = nI n)
theorem mt_pi {S : gs_S} {c k a : Nat} {v : Int32} (h : m_t S) (hv : c = 3 → m_ir k v) : m_t (p_i S c k a v) := by
  refine ⟨fun y hy => ?_, h.2⟩
  obtain ⟨a0, a1, a2, a3, a4, a5, a6, a7, a8, a9, a10, a11, a12, a13, a14, a15, a16, a17, a18, a19, a20, a21, a22, a23, a24, a25⟩ := h.1 y hy
  refine ⟨a0, a1, a2, a3, a4, a5, a6, a7, a8, a9, a10, a11, a12, a13, a14, a15, a16, a17, a18, ?_, ?_, ?_, ?_, ?_, ?_, ?_⟩
  · rw [x_g_i_p_i]; split
    · rename_i z; exact (hv z.1.symm).1 z.2.1.symm
    · exact a19
  · rw [x_g_i_p_i]; split
    · rename_i z; exact (hv z.1.symm).2.1 z.2.1.symm
    · exact a20
  · rw [x_g_i_p_i]; split
    · rename_i z; exact (hv z.1.symm).2.2.1 z.2.1.symm
    · exact a21
  · rw [x_g_i_p_i]; split
    · rename_i z; exact (hv z.1.symm).2.2.2.1 z.2.1.symm
    · exact a22
  · rw [x_g_i_p_i]; split
    · rename_i z; exact (hv z.1.symm).2.2.2.2.1 z.2.1.symm
    · exact a23
  · rw [x_g_i_p_i]; split
    · rename_i z; exact (hv z.1.symm).2.2.2.2.2.1 z.2.1.symm
    · exact a24
  · rw [x_g_i_p_i]; split
    · rename_i z; exact (hv z.1.symm).2.2.2.2.2.2 z.2.1.symm
    · exact a25
/-- an int field of the reference that nothing is said of -/
theorem mt_pi0 {S : gs_S} {k a : Nat} {v : Int32} (h : m_t S) (hk : k ∉ [8, 13, 22, 23, 24, 17, 25]) : m_t (p_i S 3 k a v) := by
  simp only [List.mem_cons, List.not_mem_nil, or_false, not_or] at hk
  exact mt_pi h (fun _ => ⟨fun z => absurd z hk.1, fun z => absurd z hk.2.1, fun z => absurd z hk.2.2.1, fun z => absurd z hk.2.2.2.1, fun z => absurd z hk.2.2.2.2.1, fun z => absurd z hk.2.2.2.2.2.1, fun z => absurd z hk.2.2.2.2.2.2⟩)
theorem mt_programs {S : gs_S} {a n : Nat} (h : m_t S) (hn : n ≤ 60) : m_t (p_i S 3 8 a (nI n)) := mt_pi h (fun _ => ⟨fun _ => ⟨n, hn, rfl⟩, fun z => absurd z (by decide), fun z => absurd z (by decide), fun z => absurd z (by decide), fun z => absurd z (by decide), fun z => absurd z (by decide), fun z => absurd z (by decide)⟩)
theorem mt_cells {S : gs_S} {a n : Nat} (h : m_t S) (hn : n ≤ 200) : m_t (p_i S 3 13 a (nI n)) := mt_pi h (fun _ => ⟨fun z => absurd z (by decide), fun _ => ⟨n, hn, rfl⟩, fun z => absurd z (by decide), fun z => absurd z (by decide), fun z => absurd z (by decide), fun z => absurd z (by decide), fun z => absurd z (by decide)⟩)
theorem mt_active {S : gs_S} {a n : Nat} (h : m_t S) (hn : n ≤ 256) : m_t (p_i S 3 22 a (nI n)) := mt_pi h (fun _ => ⟨fun z => absurd z (by decide), fun z => absurd z (by decide), fun _ => ⟨n, hn, rfl⟩, fun z => absurd z (by decide), fun z => absurd z (by decide), fun z => absurd z (by decide), fun z => absurd z (by decide)⟩)
theorem mt_prepared {S : gs_S} {a n : Nat} (h : m_t S) (hn : n ≤ 60) : m_t (p_i S 3 23 a (nI n)) := mt_pi h (fun _ => ⟨fun z => absurd z (by decide), fun z => absurd z (by decide), fun z => absurd z (by decide), fun _ => ⟨n, hn, rfl⟩, fun z => absurd z (by decide), fun z => absurd z (by decide), fun z => absurd z (by decide)⟩)
theorem mt_arguments {S : gs_S} {a n : Nat} (h : m_t S) (hn : n ≤ 16) : m_t (p_i S 3 24 a (nI n)) := mt_pi h (fun _ => ⟨fun z => absurd z (by decide), fun z => absurd z (by decide), fun z => absurd z (by decide), fun z => absurd z (by decide), fun _ => ⟨n, hn, rfl⟩, fun z => absurd z (by decide), fun z => absurd z (by decide)⟩)
theorem mt_used {S : gs_S} {a n : Nat} (h : m_t S) (hn : n ≤ 60000) : m_t (p_i S 3 17 a (nI n)) := mt_pi h (fun _ => ⟨fun z => absurd z (by decide), fun z => absurd z (by decide), fun z => absurd z (by decide), fun z => absurd z (by decide), fun z => absurd z (by decide), fun _ => ⟨n, hn, rfl⟩, fun z => absurd z (by decide)⟩)
theorem mt_preparedAhead {S : gs_S} {a n : Nat} (h : m_t S) (hn : n ≤ 60000) : m_t (p_i S 3 25 a (nI n)) := mt_pi h (fun _ => ⟨fun z => absurd z (by decide), fun z => absurd z (by decide), fun z => absurd z (by decide), fun z => absurd z (by decide), fun z => absurd z (by decide), fun z => absurd z (by decide), fun _ => ⟨n, hn, rfl⟩⟩)
/-- an array address of the reference -/
def m_q (S : gs_S) (y k : Nat) : Nat := v_a (g_r S 3 k y)
section GT
variable {p : Program} {l : Launch} {e : Env} {R : Room} {s : State} {m : MethodId} {args : Array Value} {below : List Frame} {meth : Method} {c : Code} {H : Heap} {locs : List Loc} {cells slots : Nat} {Q : State → Prop} {pc : Nat} {ls : Array Slot} {rest : List Value}
/-- an int on top by another name -/
theorem s_topi {x y : Int32} (h : x = y) (kk : W p l e R s m args below meth c H locs cells slots Q (F0 m pc ls (.int y :: rest))) : W p l e R s m args below meth c H locs cells slots Q (F0 m pc ls (.int x :: rest)) := by
  subst h
  exact kk
end GT
