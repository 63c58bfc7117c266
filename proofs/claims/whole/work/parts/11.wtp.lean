/-! writes that keep a state well-typed -/
theorem wt_pal {S : gs_S} {r a j : Nat} {v : Int64} (h : w_t S) : w_t (p_al S r a j v) := h
theorem wt_pl {S : gs_S} {c k a : Nat} {v : Int64} (h : w_t S) : w_t (p_l S c k a v) := h
theorem wt_pai {S : gs_S} {r a j : Nat} {v : Int32} (h : w_t S) (hv : r = 7 → ∃ q : Nat, q < 216 ∧ v = nI q) : w_t (p_ai S r a j v) := by
  refine ⟨h.1, h.2.1, fun b hb i hi => ?_, h.2.2.2⟩
  rw [x_g_ai_p_ai]
  split
  · rename_i c
    exact hv c.1.symm
  · exact h.2.2.1 b hb i hi
theorem wt_par {S : gs_S} {r a j : Nat} {v : Option Nat} (h : w_t S) (h6 : r = 6 → t_o S 0 v) (h0 : r = 0 → t_o S 1 v) (h1 : r = 1 → t_o S 1 v) : w_t (p_ar S r a j v) := by
  refine ⟨h.1, fun b hb i hi => ?_, h.2.2.1, h.2.2.2.1, ⟨fun b hb i hi => ?_, fun b hb i hi => ?_⟩, h.2.2.2.2.2⟩
  · rw [x_g_ar_p_ar]
    split
    · rename_i c
      exact h6 c.1.symm
    · exact h.2.1 b hb i hi
  · rw [x_g_ar_p_ar]
    split
    · rename_i c
      exact h0 c.1.symm
    · exact h.2.2.2.2.1.1 b hb i hi
  · rw [x_g_ar_p_ar]
    split
    · rename_i c
      exact h1 c.1.symm
    · exact h.2.2.2.2.1.2 b hb i hi
theorem wt_pi {S : gs_S} {c k a : Nat} {v : Int32} (h : w_t S) (h04 : c = 0 → k = 4 → ∃ n : Nat, n ≤ 16 ∧ v = nI n) (h16 : c = 1 → k = 6 → ∃ n : Nat, n ≤ 16 ∧ v = nI n) (h11 : ¬ (c = 1 ∧ k = 1)) (h22 : c = 2 → k = 2 → ∃ n : Nat, n ≤ 60 ∧ v = nI n) (h25 : c = 2 → k = 5 → ∃ n : Nat, n ≤ 200 ∧ v = nI n) : w_t (p_i S c k a v) := by
  refine ⟨fun b hb => ?_, h.2.1, h.2.2.1, fun b hb => ?_, h.2.2.2.2.1, fun b hb => ?_⟩
  · obtain ⟨a1, a2, a3, a4, a5, a6, a7, a8, a9⟩ := h.1 b hb
    refine ⟨a1, a2, a3, a4, a5, a6, a7, a8, ?_⟩
    rw [x_g_i_p_i]
    split
    · rename_i c
      exact h04 c.1.symm c.2.1.symm
    · exact a9
  · obtain ⟨a1, a2, a3, a4, a5, k0, a6, a7, a8, a9⟩ := h.2.2.2.1 b hb
    refine ⟨a1, a2, a3, a4, ?_, k0, a6, a7, ?_, fun q hq => ?_⟩
    · rw [x_g_i_p_i]
      split
      · rename_i c
        exact h16 c.1.symm c.2.1.symm
      · exact a5
    · rw [x_g_i_p_i, if_neg (fun z => h11 ⟨z.1.symm, z.2.1.symm⟩)]
      exact a8
    · obtain ⟨j, b1, b2⟩ := a9 q hq
      refine ⟨j, b1, ?_⟩
      rw [x_g_i_p_i, if_neg (fun z => h11 ⟨z.1.symm, z.2.1.symm⟩)]
      exact b2
  · obtain ⟨a1, a2, a3, a4, a5, a6, a7, a8, a9⟩ := h.2.2.2.2.2 b hb
    refine ⟨a1, a2, a3, a4, a5, a6, a7, ?_, ?_⟩
    · rw [x_g_i_p_i]
      split
      · rename_i c
        exact h22 c.1.symm c.2.1.symm
      · exact a8
    · rw [x_g_i_p_i]
      split
      · rename_i c
        exact h25 c.1.symm c.2.1.symm
      · exact a9
/-- an int field that nothing is said of -/
theorem wt_pi0 {S : gs_S} {c k a : Nat} {v : Int32} (h : w_t S) (hk : (c, k) ∉ [(0, 4), (1, 6), (1, 1), (2, 2), (2, 5)]) : w_t (p_i S c k a v) := by
  simp only [List.mem_cons, List.not_mem_nil, or_false, Prod.mk.injEq, not_or] at hk
  exact wt_pi h (fun a b => absurd ⟨a, b⟩ hk.1) (fun a b => absurd ⟨a, b⟩ hk.2.1) hk.2.2.1 (fun a b => absurd ⟨a, b⟩ hk.2.2.2.1) (fun a b => absurd ⟨a, b⟩ hk.2.2.2.2)
theorem wt_pr {S : gs_S} {c k a : Nat} {v : Option Nat} (h : w_t S) (hL : c = 0 → (k = 0 ∨ k = 1 ∨ k = 3) ∧ t_o S 0 v ∨ k = 2 ∧ t_o S 1 v) (hP : c = 1 → k = 8 ∧ t_o S 0 v) (hR : c = 2 → k = 8 ∧ t_n S 0 v ∨ k = 10 ∧ t_o S 0 v) : w_t (p_r S c k a v) := by
  refine ⟨fun b hb => ?_, h.2.1, h.2.2.1, fun b hb => ?_, h.2.2.2.2.1, fun b hb => ?_⟩
  · obtain ⟨a1, a2, a3, a4, a5, a6, a7, a8, a9⟩ := h.1 b hb
    have e : ∀ k', k' ≠ k → g_r (p_r S c k a v) 0 k' b = g_r S 0 k' b := fun k' hk => by rw [x_g_r_p_r, if_neg (fun z => hk z.2.1)]
    by_cases hc : c = 0
    · subst hc
      have hh : ∀ k', g_r (p_r S 0 k a v) 0 k' b = v ∧ k' = k ∨ g_r (p_r S 0 k a v) 0 k' b = g_r S 0 k' b := fun k' => by
        rw [x_g_r_p_r]
        split
        · rename_i z
          exact Or.inl ⟨rfl, z.2.1⟩
        · exact Or.inr rfl
      rcases hL rfl with ⟨hk, hv⟩ | ⟨hk, hv⟩
      · refine ⟨?_, ?_, ?_, ?_, ?_, ?_, ?_, ?_, a9⟩
        · rcases hh 0 with ⟨q, -⟩ | q <;> rw [q] <;> assumption
        · rcases hh 1 with ⟨q, -⟩ | q <;> rw [q] <;> assumption
        · rw [e 2 (by omega)]; exact a3
        · rcases hh 3 with ⟨q, -⟩ | q <;> rw [q] <;> assumption
        · rw [e 5 (by omega)]; exact a5
        · rw [e 6 (by omega)]; exact a6
        · rw [e 7 (by omega)]; exact a7
        · rw [e 8 (by omega)]; exact a8
      · subst hk
        refine ⟨?_, ?_, ?_, ?_, ?_, ?_, ?_, ?_, a9⟩
        · rw [e 0 (by omega)]; exact a1
        · rw [e 1 (by omega)]; exact a2
        · rcases hh 2 with ⟨q, -⟩ | q <;> rw [q] <;> assumption
        · rw [e 3 (by omega)]; exact a4
        · rw [e 5 (by omega)]; exact a5
        · rw [e 6 (by omega)]; exact a6
        · rw [e 7 (by omega)]; exact a7
        · rw [e 8 (by omega)]; exact a8
    · have e : ∀ k', g_r (p_r S c k a v) 0 k' b = g_r S 0 k' b := fun k' => by rw [x_g_r_p_r, if_neg (fun z => hc z.1.symm)]
      rw [e, e, e, e, e, e, e, e]
      exact ⟨a1, a2, a3, a4, a5, a6, a7, a8, a9⟩
  · obtain ⟨a1, a2, a3, a4, a5, k0, a6, a7, a8, a9⟩ := h.2.2.2.1 b hb
    have e : ∀ k', k' ≠ 8 → g_r (p_r S c k a v) 1 k' b = g_r S 1 k' b := fun k' hk => by
      rw [x_g_r_p_r, if_neg (fun z => hk (z.2.1.trans (hP z.1.symm).1))]
    refine ⟨?_, ?_, ?_, ?_, a5, k0, a6, a7, a8, fun q hq => ?_⟩
    · rw [e 0 (by omega)]; exact a1
    · rw [e 4 (by omega)]; exact a2
    · rw [e 5 (by omega)]; exact a3
    · rw [x_g_r_p_r]
      split
      · rename_i z
        exact (hP z.1.symm).2
      · exact a4
    · rw [e 0 (by omega)] at hq
      exact a9 q hq
  · obtain ⟨a1, a2, a3, a4, a5, a6, a7, a8, a9⟩ := h.2.2.2.2.2 b hb
    have e : ∀ k', k' ≠ 8 → k' ≠ 10 → g_r (p_r S c k a v) 2 k' b = g_r S 2 k' b := fun k' h1 h2 => by
      rw [x_g_r_p_r, if_neg]
      intro z
      rcases hR z.1.symm with ⟨q, -⟩ | ⟨q, -⟩
      · exact h1 (z.2.1.trans q)
      · exact h2 (z.2.1.trans q)
    refine ⟨?_, ?_, ?_, ?_, ?_, ?_, ?_, a8, a9⟩
    · rw [e 1 (by omega) (by omega)]; exact a1
    · rw [e 3 (by omega) (by omega)]; exact a2
    · rw [e 4 (by omega) (by omega)]; exact a3
    · rw [e 6 (by omega) (by omega)]; exact a4
    · rw [e 7 (by omega) (by omega)]; exact a5
    · rw [x_g_r_p_r]
      split
      · rename_i z
        rcases hR z.1.symm with ⟨q, hv⟩ | ⟨q, -⟩
        · exact hv
        · exact absurd (z.2.1.trans q) (by decide)
      · exact a6
    · rw [x_g_r_p_r]
      split
      · rename_i z
        rcases hR z.1.symm with ⟨q, -⟩ | ⟨q, hv⟩
        · exact absurd (z.2.1.trans q) (by decide)
        · exact hv
      · exact a7
theorem wt_share {S : gs_S} {a j h q : Nat} {b : Int32} (hw : w_t S) (hh : g_sh S h = some (.inl 0)) (hq : q < 216) : w_t (f_share S a j (some h) (nI q) b) := by
  unfold f_share
  refine wt_pai (wt_pai (wt_par hw (fun _ c z => ?_) (fun z => absurd z (by decide)) (fun z => absurd z (by decide))) (fun _ => ⟨q, hq, rfl⟩)) (fun z => absurd z (by decide))
  cases z
  exact hh
theorem wt_copy {S : gs_S} {a j : Nat} (hw : w_t S) (ha : g_sh S a = some (.inl 0)) (hj : j < 16) : w_t (f_copy S a j) := by
  unfold f_copy
  split
  · exact hw
  · refine wt_pai (wt_par (wt_pal hw) (fun _ c z => ?_) (fun z => absurd z (by decide)) (fun z => absurd z (by decide))) (fun _ => ⟨j, by omega, rfl⟩)
    cases z
    exact ha
