/-! the start: the reference beside it -/
theorem rg_0 : ∀ r i : Nat, m_rg r i 0 := by
  intro r i
  unfold m_rg
  split
  all_goals first | exact True.intro | exact Or.inr ⟨0, rfl, by omega⟩ | exact ⟨0, rfl, by omega, by omega⟩ | exact ⟨0, rfl, by omega⟩
set_option maxHeartbeats 8000000 in
theorem st_2 {S1 S : gs_S} {x q y : Nat} {d : Int32} (h1 : st_R S1 x q d) (hy : g_sh S1 y = none) (hM : i_M (p_new S1 3 y) y d S) : r_R S x y 0 (fun _ => 0) (fun _ => q) (fun _ _ => none) 0 := by
  obtain ⟨hw, hx, hinl, hinr, hq, r7, r8, r10, i2, i5, i9, i0, l11, q1, q2, ex, rex, hex, hnm⟩ := h1
  obtain ⟨⟨j1, j2, j3, j4, j5, j6⟩, k17, k1, k⟩ := hM
  have hxy : ¬ x = y := fun z => by rw [z, hy] at hx; cases hx
  have hqy : ¬ q = y := fun z => by rw [z, hy] at hq; cases hq
  have hexy : ¬ ex = y := fun z => hex (by rw [z, hy])
  have sh1 : ∀ b : Nat, g_sh S1 b ≠ none → g_sh S b = g_sh S1 b := fun b hb => by
    have hby : ¬ b = y := fun z => hb (by rw [z, hy])
    rw [j1 b (by rw [x_sh_new, if_neg hby]; exact hb), x_sh_new, if_neg hby]
  have shy : g_sh S y = some (.inl 3) := by rw [j1 y (by rw [x_sh_new, if_pos rfl]; simp), x_sh_new, if_pos rfl]
  have ri : ∀ c k b : Nat, ¬ b = y → g_i S c k b = g_i S1 c k b ∧ g_r S c k b = g_r S1 c k b := fun c k b hb => by
    obtain ⟨z1, z2⟩ := j3 c k b (fun u => hb u.2)
    rw [z1, z2]
    simp [x_gs, hb]
  have ar1 : ∀ b : Nat, g_sh S1 b ≠ none → ∀ r j : Nat, g_ai S r b j = g_ai S1 r b j ∧ g_ar S r b j = g_ar S1 r b j := fun b hb r j => by
    have hby : ¬ b = y := fun z => hb (by rw [z, hy])
    obtain ⟨z1, z2, z3⟩ := j2 b (by rw [x_sh_new, if_neg hby]; exact hb) r j
    rw [z1, z3]
    exact ⟨rfl, rfl⟩
  have old : ∀ (b : Nat) (z : Nat ⊕ (Nat × Nat)), g_sh S b = some z → g_sh S1 b = some z ∨ (b = y ∧ z = .inl 3) ∨ ((∃ r n : Nat, z = .inr (r, n) ∧ 10 ≤ r) ∧ ∀ r j : Nat, g_ai S r b j = 0 ∧ g_al S r b j = 0 ∧ g_ar S r b j = none) := fun b z hz => by
    cases hb : g_sh S1 b with
    | some w =>
      left
      rw [← hb, ← sh1 b (by rw [hb]; simp)]
      exact hz
    | none =>
      right
      by_cases hby : b = y
      · left
        rw [hby, shy] at hz
        exact ⟨hby, (Option.some.inj hz).symm⟩
      · exact Or.inr (j5 b z (by rw [x_sh_new, if_neg hby]; exact hb) hz)
  have iy : ∀ k : Nat, ¬ k = 17 → ¬ k = 1 → g_i S 3 k y = 0 := fun k' z1 z2 => by rw [k k' z1 z2]; simp [x_gs]
  have ta : ∀ k r n : Nat, (k, r, n) ∈ m_arrs → t_a S r n (g_r S 3 k y) ∧ ∀ i : Nat, g_ai S r (v_a (g_r S 3 k y)) i = 0 := fun k r n hm => by
    obtain ⟨a, e1, e2, e3⟩ := j6 _ hm
    refine ⟨⟨a, e1, e2⟩, fun i => ?_⟩
    rw [e1]
    exact ((j5 a _ e3 e2).2 r i).1
  have wS : w_t S := by
    refine ⟨fun a ha => ?_, fun a ha i hi => ?_, fun a ha i hi => ?_, fun a ha => ?_, ⟨fun a ha i hi => ?_, fun a ha i hi => ?_⟩, fun a ha => ?_⟩
    all_goals have hS1 := old a _ ha
    all_goals have hS1 := hS1.resolve_right (fun z => by
      rcases z with ⟨-, z⟩ | ⟨⟨r, n, z, hr⟩, -⟩
      · cases z
      · cases z <;> omega)
    · have hay : ¬ a = y := fun z => by rw [z, hy] at hS1; cases hS1
      have := hw.1 a hS1
      simp only [(ri _ _ a hay).1, (ri _ _ a hay).2]
      obtain ⟨z1, z2, z3, z4, z5, z6, z7, z8, z9⟩ := this
      have to : ∀ ci v, t_o S1 ci v → t_o S ci v := fun ci v h b hb => by rw [sh1 b (by rw [h b hb]; simp)]; exact h b hb
      have tA : ∀ r n v, t_a S1 r n v → t_a S r n v := fun r n v ⟨b, h1, h2⟩ => ⟨b, h1, by rw [sh1 b (by rw [h2]; simp)]; exact h2⟩
      exact ⟨to _ _ z1, to _ _ z2, to _ _ z3, to _ _ z4, tA _ _ _ z5, tA _ _ _ z6, tA _ _ _ z7, tA _ _ _ z8, z9⟩
    · rw [(ar1 a (by rw [hS1]; simp) 6 i).2]
      intro b hb
      have := hw.2.1 a hS1 i hi b hb
      rw [sh1 b (by rw [this]; simp)]; exact this
    · rw [(ar1 a (by rw [hS1]; simp) 7 i).1]
      exact hw.2.2.1 a hS1 i hi
    · rcases hinl a 1 hS1 with z | z <;> omega
    · rw [(ar1 a (by rw [hS1]; simp) 0 i).2]
      intro b hb
      have := hw.2.2.2.2.1.1 a hS1 i hi b hb
      rw [sh1 b (by rw [this]; simp)]; exact this
    · rw [(ar1 a (by rw [hS1]; simp) 1 i).2]
      intro b hb
      have := hw.2.2.2.2.1.2 a hS1 i hi b hb
      rw [sh1 b (by rw [this]; simp)]; exact this
    · have hay : ¬ a = y := fun z => by rw [z, hy] at hS1; cases hS1
      have := hw.2.2.2.2.2 a hS1
      simp only [(ri _ _ a hay).1, (ri _ _ a hay).2]
      obtain ⟨z1, z2, z3, z4, z5, z6, z7, z8, z9⟩ := this
      have to : ∀ ci v, t_o S1 ci v → t_o S ci v := fun ci v h b hb => by rw [sh1 b (by rw [h b hb]; simp)]; exact h b hb
      have tn : ∀ ci v, t_n S1 ci v → t_n S ci v := fun ci v ⟨b, h1, h2⟩ => ⟨b, h1, by rw [sh1 b (by rw [h2]; simp)]; exact h2⟩
      have tA : ∀ r n v, t_a S1 r n v → t_a S r n v := fun r n v ⟨b, h1, h2⟩ => ⟨b, h1, by rw [sh1 b (by rw [h2]; simp)]; exact h2⟩
      exact ⟨tA _ _ _ z1, tA _ _ _ z2, tA _ _ _ z3, tA _ _ _ z4, tn _ _ z5, tn _ _ z6, to _ _ z7, z8, z9⟩
  have mS : m_t S := by
    refine ⟨fun b hb => ?_, fun a r n ha hr i hi => ?_⟩
    · have hby : b = y := by
        rcases old b _ hb with z | ⟨z, -⟩ | ⟨⟨r, n, z, -⟩, -⟩
        · rcases hinl b 3 z with u | u <;> omega
        · exact z
        · cases z
      subst hby
      have i0 : ∀ k N : Nat, ¬ k = 17 → ¬ k = 1 → ∃ n : Nat, n ≤ N ∧ g_i S 3 k b = nI n := fun k N z1 z2 => ⟨0, by omega, iy k z1 z2⟩
      exact ⟨(ta 2 10 61 (by decide)).1, (ta 3 11 61 (by decide)).1, (ta 4 12 61 (by decide)).1, (ta 5 13 61 (by decide)).1, (ta 6 14 61 (by decide)).1, (ta 7 15 61 (by decide)).1, (ta 9 16 200 (by decide)).1, (ta 10 17 200 (by decide)).1, (ta 11 18 200 (by decide)).1, (ta 12 19 200 (by decide)).1, (ta 14 20 976 (by decide)).1, (ta 15 21 976 (by decide)).1, (ta 16 22 60000 (by decide)).1, (ta 18 23 600 (by decide)).1, (ta 19 24 600 (by decide)).1, (ta 20 25 600 (by decide)).1, (ta 21 26 9600 (by decide)).1, (ta 26 27 16 (by decide)).1, (ta 27 28 16 (by decide)).1, i0 8 60 (by decide) (by decide), i0 13 200 (by decide) (by decide), i0 22 256 (by decide) (by decide), i0 23 60 (by decide) (by decide), i0 24 16 (by decide) (by decide), ⟨200, by omega, k17⟩, i0 25 60000 (by decide) (by decide)⟩
    · rcases old a _ ha with z | ⟨-, z⟩ | ⟨-, z⟩
      · have := hinr a r n z; omega
      · cases z
      · rw [(z r i).1]; exact rg_0 r i
  have eac : m_active S y = 0 := by unfold m_active; rw [iy 22 (by decide) (by decide)]; rfl
  have epr : m_prepared S y = 0 := by unfold m_prepared; rw [iy 23 (by decide) (by decide)]; rfl
  have ear : m_arguments S y = 0 := by unfold m_arguments; rw [iy 24 (by decide) (by decide)]; rfl
  have ecl : m_cells S y = 0 := by unfold m_cells; rw [iy 13 (by decide) (by decide)]; rfl
  have epg : m_programs S y = 0 := by unfold m_programs; rw [iy 8 (by decide) (by decide)]; rfl
  have eus : m_used S y = 200 := by unfold m_used; rw [k17]; rfl
  have eU : ∀ j : Nat, r_U S y j = 200 := fun j => by
    unfold r_U
    rw [eac, epr, eus, if_neg (by omega)]
    split
    · rfl
    · rfl
  refine ⟨⟨wS, mS, by rw [sh1 x (by rw [hx]; simp)]; exact hx, shy⟩, ?_, ⟨?_, fun i j i1 i2 => by omega, fun i i1 i2 => by omega⟩, ⟨?_, fun k hk => by omega, fun nm hn => Or.inr ⟨fun j hj => by omega, ?_⟩, fun i i1 i2 => ?_⟩, ⟨?_, ?_, ?_, by omega, ?_, ?_, fun j _ => by rw [sh1 q (by rw [hq]; simp)]; exact hq, fun i j _ _ _ => by omega, fun j hj => by omega, ?_, ?_, fun j hj => by omega, fun i i1 i2 => by omega⟩, ⟨fun q => ?_, fun h q d _ z => (by cases z), fun h q q' d z => (by cases z), fun h q d z => (by cases z), by rw [eU]; omega, fun j hj => ?_, ?_, fun j hj => by omega, fun j hj => by omega⟩, Or.inl ⟨epr, ?_, ear⟩⟩
  · rw [eac, epr, ecl]; decide
  · rw [(ri 2 2 x hxy).1, i2, epg]; rfl
  · rw [(ri 2 5 x hxy).1, i5, ecl]; rfl
  · rw [(ri 2 6 x hxy).2, rex, show v_a (some ex) = ex from rfl, (ar1 ex hex 3 nm).1]; exact hnm nm hn
  · unfold m_activeTimes m_data m_manyFormals m_q
    rw [(ta 6 14 61 (by decide)).2, (ta 7 15 61 (by decide)).2, (ta 5 13 61 (by decide)).2]
    exact ⟨rfl, rfl, rfl⟩
  · rw [(ri 2 7 x hxy).2]; exact r7
  · rw [(ri 2 8 x hxy).2]; exact r8
  · rw [(ri 2 9 x hxy).1, i9, eac]; rfl
  · rw [(ri 2 0 x hxy).1, i0, k1, f_dep]
  · rw [j4, j4]; simp [x_gs, hxy, l11]
  · rw [(ri 0 1 q hqy).2]; exact q1
  · rw [(ri 0 2 q hqy).2]; exact q2
  · rw [ecl, if_neg (by omega)]
  · rw [eU, eU]; exact ⟨Nat.le_refl _, by omega⟩
  · rw [eU, eus]; omega
  · rw [(ri 2 10 x hxy).2]; exact r10
/-- an array that none of the two has -/
theorem st_o {S : gs_S} {x y t o : Nat} {P L : Nat → Nat} {D : Nat → Nat → Option Nat} {N : Nat} (h : r_R S x y t P L D N) (ho : g_sh S o = none) : r_R (p_newA S 2 1 o) x y t P L D N := by
  have hs : s_X S (p_newA S 2 1 o) := by
    refine ⟨fun b z hb => ?_, fun b z hb hz => ?_⟩
    · have hbo : ¬ b = o := fun u => by rw [u, ho] at hb; cases hb
      refine ⟨by rw [x_sh_newA, if_neg hbo]; exact hb, fun c k => ⟨rfl, rfl, rfl⟩, fun r j => ?_⟩
      rw [x_g_ai_newA, x_g_al_newA, x_g_ar_newA, if_neg hbo, if_neg hbo, if_neg hbo]
      exact ⟨rfl, rfl, rfl⟩
    · rw [x_sh_newA] at hz
      split at hz
      · cases hz; exact Or.inr ⟨2, 1, rfl, by decide⟩
      · rw [hb] at hz; cases hz
  refine r_ext h hs ?_
  obtain ⟨⟨hw, -⟩, -⟩ := h
  have sh : ∀ b : Nat, g_sh S b ≠ none → g_sh (p_newA S 2 1 o) b = g_sh S b := fun b hb => by
    have hbo : ¬ b = o := fun u => hb (by rw [u, ho])
    rw [x_sh_newA, if_neg hbo]
  have inv : ∀ (b : Nat) (z : Nat ⊕ (Nat × Nat)), g_sh (p_newA S 2 1 o) b = some z → z ≠ .inr (2, 1) → g_sh S b = some z ∧ ¬ b = o := fun b z hz hne => by
    rw [x_sh_newA] at hz
    split at hz
    · cases hz; exact absurd rfl hne
    · rename_i u; exact ⟨hz, u⟩
  have to : ∀ ci v, t_o S ci v → t_o (p_newA S 2 1 o) ci v := fun ci v h b hb => by rw [sh b (by rw [h b hb]; simp)]; exact h b hb
  have tn : ∀ ci v, t_n S ci v → t_n (p_newA S 2 1 o) ci v := fun ci v ⟨b, h1, h2⟩ => ⟨b, h1, by rw [sh b (by rw [h2]; simp)]; exact h2⟩
  have tA : ∀ r n v, t_a S r n v → t_a (p_newA S 2 1 o) r n v := fun r n v ⟨b, h1, h2⟩ => ⟨b, h1, by rw [sh b (by rw [h2]; simp)]; exact h2⟩
  refine ⟨fun a ha => ?_, fun a ha i hi => ?_, fun a ha i hi => ?_, fun a ha => ?_, ⟨fun a ha i hi => ?_, fun a ha i hi => ?_⟩, fun a ha => ?_⟩
  all_goals obtain ⟨ha, hao⟩ := inv a _ ha (by decide)
  · obtain ⟨z1, z2, z3, z4, z5, z6, z7, z8, z9⟩ := hw.1 a ha
    exact ⟨to _ _ z1, to _ _ z2, to _ _ z3, to _ _ z4, tA _ _ _ z5, tA _ _ _ z6, tA _ _ _ z7, tA _ _ _ z8, z9⟩
  · rw [x_g_ar_newA, if_neg hao]; exact to _ _ (hw.2.1 a ha i hi)
  · rw [x_g_ai_newA, if_neg hao]; exact hw.2.2.1 a ha i hi
  · obtain ⟨z1, z2, z3, z4, z5⟩ := hw.2.2.2.1 a ha
    exact ⟨to _ _ z1, tA _ _ _ z2, tA _ _ _ z3, to _ _ z4, z5⟩
  · rw [x_g_ar_newA, if_neg hao]; exact to _ _ (hw.2.2.2.2.1.1 a ha i hi)
  · rw [x_g_ar_newA, if_neg hao]; exact to _ _ (hw.2.2.2.2.1.2 a ha i hi)
  · obtain ⟨z1, z2, z3, z4, z5, z6, z7, z8, z9⟩ := hw.2.2.2.2.2 a ha
    exact ⟨tA _ _ _ z1, tA _ _ _ z2, tA _ _ _ z3, tA _ _ _ z4, tn _ _ z5, tn _ _ z6, to _ _ z7, z8, z9⟩
