/-! new objects keep a state well-typed -/
theorem t_oN {S : gs_S} {ci : Nat} : t_o S ci none := fun _ z => by cases z
theorem wt_ext {S T : gs_S} (h : w_t S) (hx : ∀ (b : Nat) (y : Nat ⊕ (Nat × Nat)), g_sh S b = some y → g_sh T b = some y) (hr : ∀ (c k b : Nat) (y : Nat ⊕ (Nat × Nat)), g_sh S b = some y → g_r T c k b = g_r S c k b) (hi : ∀ (c k b : Nat) (y : Nat ⊕ (Nat × Nat)), g_sh S b = some y → g_i T c k b = g_i S c k b) (har : ∀ (r b j : Nat) (y : Nat ⊕ (Nat × Nat)), g_sh S b = some y → g_ar T r b j = g_ar S r b j) (hai : ∀ (r b j : Nat) (y : Nat ⊕ (Nat × Nat)), g_sh S b = some y → g_ai T r b j = g_ai S r b j)
    (nL : ∀ a : Nat, g_sh S a = none → g_sh T a = some (.inl 0) → t_o T 0 (g_r T 0 0 a) ∧ t_o T 0 (g_r T 0 1 a) ∧ t_o T 1 (g_r T 0 2 a) ∧ t_o T 0 (g_r T 0 3 a) ∧ t_a T 6 16 (g_r T 0 5 a) ∧ t_a T 7 16 (g_r T 0 6 a) ∧ t_a T 8 16 (g_r T 0 7 a) ∧ t_a T 9 216 (g_r T 0 8 a) ∧ ∃ n : Nat, n ≤ 16 ∧ g_i T 0 4 a = nI n)
    (nH : ∀ a : Nat, g_sh S a = none → g_sh T a = some (.inr (6, 16)) → ∀ i : Nat, i < 16 → t_o T 0 (g_ar T 6 a i))
    (nQ : ∀ a : Nat, g_sh S a = none → g_sh T a = some (.inr (7, 16)) → ∀ i : Nat, i < 16 → ∃ q : Nat, q < 216 ∧ g_ai T 7 a i = nI q)
    (nP : ∀ a : Nat, g_sh S a = none → g_sh T a = some (.inl 1) → t_o T 1 (g_r T 1 0 a) ∧ t_a T 4 16 (g_r T 1 4 a) ∧ t_a T 5 16 (g_r T 1 5 a) ∧ t_o T 0 (g_r T 1 8 a) ∧ (∃ n : Nat, n ≤ 16 ∧ g_i T 1 6 a = nI n) ∧ ∃ k : Nat, 1 ≤ k ∧ k ≤ 60 ∧ g_i T 1 1 a = nI k ∧ ∀ b : Nat, g_r T 1 0 a = some b → ∃ j : Nat, j < k ∧ g_i T 1 1 b = nI j)
    (nA : ∀ a : Nat, g_sh S a = none → (g_sh T a = some (.inr (0, 61)) → ∀ i : Nat, i < 61 → t_o T 1 (g_ar T 0 a i)) ∧ (g_sh T a = some (.inr (1, 200)) → ∀ i : Nat, i < 200 → t_o T 1 (g_ar T 1 a i)))
    (nR : ∀ a : Nat, g_sh S a = none → ¬ g_sh T a = some (.inl 2)) : w_t T := by
  have to : ∀ {ci : Nat} {r : Option Nat}, t_o S ci r → t_o T ci r := fun h b hb => hx _ _ (h b hb)
  have ta : ∀ {r n : Nat} {q : Option Nat}, t_a S r n q → t_a T r n q := fun h => by obtain ⟨b, h1, h2⟩ := h; exact ⟨b, h1, hx _ _ h2⟩
  have tn : ∀ {ci : Nat} {q : Option Nat}, t_n S ci q → t_n T ci q := fun h => by obtain ⟨b, h1, h2⟩ := h; exact ⟨b, h1, hx _ _ h2⟩
  have old : ∀ (a : Nat) (y : Nat ⊕ (Nat × Nat)), g_sh T a = some y → g_sh S a = none ∨ g_sh S a = some y := by
    intro a y hy
    cases hs : g_sh S a with
    | none => exact Or.inl rfl
    | some z =>
      have := hx a z hs
      rw [hy] at this
      cases this
      exact Or.inr rfl
  refine ⟨fun a ha => ?_, fun a ha i hlt => ?_, fun a ha i hlt => ?_, fun a ha => ?_, ⟨fun a ha i hlt => ?_, fun a ha i hlt => ?_⟩, fun a ha => ?_⟩
  · rcases old a _ ha with hs | hs
    · exact nL a hs ha
    · obtain ⟨a1, a2, a3, a4, a5, a6, a7, a8, a9⟩ := h.1 a hs
      rw [hr _ _ _ _ hs, hr _ _ _ _ hs, hr _ _ _ _ hs, hr _ _ _ _ hs, hr _ _ _ _ hs, hr _ _ _ _ hs, hr _ _ _ _ hs, hr _ _ _ _ hs, hi _ _ _ _ hs]
      exact ⟨to a1, to a2, to a3, to a4, ta a5, ta a6, ta a7, ta a8, a9⟩
  · rcases old a _ ha with hs | hs
    · exact nH a hs ha i hlt
    · rw [har _ _ _ _ hs]; exact to (h.2.1 a hs i hlt)
  · rcases old a _ ha with hs | hs
    · exact nQ a hs ha i hlt
    · rw [hai _ _ _ _ hs]; exact h.2.2.1 a hs i hlt
  · rcases old a _ ha with hs | hs
    · exact nP a hs ha
    · obtain ⟨a1, a2, a3, a4, a5, k, a6, a7, a8, a9⟩ := h.2.2.2.1 a hs
      rw [hr _ _ _ _ hs, hr _ _ _ _ hs, hr _ _ _ _ hs, hr _ _ _ _ hs, hi _ _ _ _ hs, hi _ _ _ _ hs]
      refine ⟨to a1, ta a2, ta a3, to a4, a5, k, a6, a7, a8, fun b hb => ?_⟩
      obtain ⟨j, b1, b2⟩ := a9 b hb
      exact ⟨j, b1, by rw [hi _ _ _ _ (a1 b hb)]; exact b2⟩
  · rcases old a _ ha with hs | hs
    · exact (nA a hs).1 ha i hlt
    · rw [har _ _ _ _ hs]; exact to (h.2.2.2.2.1.1 a hs i hlt)
  · rcases old a _ ha with hs | hs
    · exact (nA a hs).2 ha i hlt
    · rw [har _ _ _ _ hs]; exact to (h.2.2.2.2.1.2 a hs i hlt)
  · rcases old a _ ha with hs | hs
    · exact absurd ha (nR a hs)
    · obtain ⟨a1, a2, a3, a4, a5, a6, a7, a8, a9⟩ := h.2.2.2.2.2 a hs
      rw [hr _ _ _ _ hs, hr _ _ _ _ hs, hr _ _ _ _ hs, hr _ _ _ _ hs, hr _ _ _ _ hs, hr _ _ _ _ hs, hr _ _ _ _ hs, hi _ _ _ _ hs, hi _ _ _ _ hs]
      exact ⟨ta a1, ta a2, ta a3, ta a4, tn a5, tn a6, to a7, a8, a9⟩
/-- the state with a new level -/
def n_L (S : gs_S) (q : Nat) (be : Option Nat) (h pl bb va : Nat) : gs_S := i_L (p_new S 0 q) q be h pl bb va
theorem n_Lne {S : gs_S} {q h pl bb va : Nat} (hf : i_Lf (p_new S 0 q) q h pl bb va) : (h ≠ q ∧ g_sh S h = none) ∧ (pl ≠ h ∧ pl ≠ q ∧ g_sh S pl = none) ∧ (bb ≠ pl ∧ bb ≠ h ∧ bb ≠ q ∧ g_sh S bb = none) ∧ (va ≠ bb ∧ va ≠ pl ∧ va ≠ h ∧ va ≠ q ∧ g_sh S va = none) := by
  obtain ⟨h1, h2, h3, h4⟩ := hf
  simp only [i_L1, i_L2, i_L3, x_gs] at h1 h2 h3 h4
  refine ⟨?_, ?_, ?_, ?_⟩
  · split at h1
    · cases h1
    · exact ⟨by assumption, h1⟩
  · split at h2
    · cases h2
    · split at h2
      · cases h2
      · exact ⟨by assumption, by assumption, h2⟩
  · split at h3
    · cases h3
    · split at h3
      · cases h3
      · split at h3
        · cases h3
        · exact ⟨by assumption, by assumption, by assumption, h3⟩
  · split at h4
    · cases h4
    · split at h4
      · cases h4
      · split at h4
        · cases h4
        · split at h4
          · cases h4
          · exact ⟨by assumption, by assumption, by assumption, by assumption, h4⟩
theorem n_L_sh (S : gs_S) (q : Nat) (be : Option Nat) (h pl bb va b : Nat) : g_sh (n_L S q be h pl bb va) b = if b = va then some (.inr (9, 216)) else if b = bb then some (.inr (8, 16)) else if b = pl then some (.inr (7, 16)) else if b = h then some (.inr (6, 16)) else if b = q then some (.inl 0) else g_sh S b := by
  simp only [n_L, i_L, i_L4, i_L3, i_L2, i_L1, x_gs]
theorem n_L_r {S : gs_S} {q : Nat} {be : Option Nat} {h pl bb va b : Nat} (c k : Nat) (hb : b ≠ q) : g_r (n_L S q be h pl bb va) c k b = g_r S c k b := by
  simp only [n_L, i_L, i_L4, i_L3, i_L2, i_L1, x_gs, hb, and_false, if_false]
theorem n_L_i {S : gs_S} {q : Nat} {be : Option Nat} {h pl bb va b : Nat} (c k : Nat) (hb : b ≠ q) : g_i (n_L S q be h pl bb va) c k b = g_i S c k b := by
  simp only [n_L, i_L, i_L4, i_L3, i_L2, i_L1, x_gs, hb, if_false]
theorem n_L_l {S : gs_S} {q : Nat} {be : Option Nat} {h pl bb va b : Nat} (c k : Nat) (hb : b ≠ q) : g_l (n_L S q be h pl bb va) c k b = g_l S c k b := by
  simp only [n_L, i_L, i_L4, i_L3, i_L2, i_L1, x_gs, hb, if_false]
theorem n_L_ar {S : gs_S} {q : Nat} {be : Option Nat} {h pl bb va b : Nat} (r j : Nat) (h1 : b ≠ h) (h2 : b ≠ pl) (h3 : b ≠ bb) (h4 : b ≠ va) : g_ar (n_L S q be h pl bb va) r b j = g_ar S r b j := by
  simp only [n_L, i_L, i_L4, i_L3, i_L2, i_L1, x_gs, h1, h2, h3, h4, if_false]
theorem n_L_ai {S : gs_S} {q : Nat} {be : Option Nat} {h pl bb va b : Nat} (r j : Nat) (h1 : b ≠ h) (h2 : b ≠ pl) (h3 : b ≠ bb) (h4 : b ≠ va) : g_ai (n_L S q be h pl bb va) r b j = g_ai S r b j := by
  simp only [n_L, i_L, i_L4, i_L3, i_L2, i_L1, x_gs, h1, h2, h3, h4, if_false]
theorem n_L_al {S : gs_S} {q : Nat} {be : Option Nat} {h pl bb va b : Nat} (r j : Nat) (h1 : b ≠ h) (h2 : b ≠ pl) (h3 : b ≠ bb) (h4 : b ≠ va) : g_al (n_L S q be h pl bb va) r b j = g_al S r b j := by
  simp only [n_L, i_L, i_L4, i_L3, i_L2, i_L1, x_gs, h1, h2, h3, h4, if_false]
theorem n_L_q {S : gs_S} {q : Nat} {be : Option Nat} {h pl bb va : Nat} : g_r (n_L S q be h pl bb va) 0 0 q = be ∧ g_r (n_L S q be h pl bb va) 0 1 q = none ∧ g_r (n_L S q be h pl bb va) 0 2 q = none ∧ g_r (n_L S q be h pl bb va) 0 3 q = none ∧ g_r (n_L S q be h pl bb va) 0 5 q = some h ∧ g_r (n_L S q be h pl bb va) 0 6 q = some pl ∧ g_r (n_L S q be h pl bb va) 0 7 q = some bb ∧ g_r (n_L S q be h pl bb va) 0 8 q = some va ∧ g_i (n_L S q be h pl bb va) 0 4 q = 0 := by
  simp [n_L, i_L, i_L4, i_L3, i_L2, i_L1, x_gs]
theorem n_L_a {S : gs_S} {q : Nat} {be : Option Nat} {h pl bb va b : Nat} (r j : Nat) (hb : b = h ∨ b = pl ∨ b = bb ∨ b = va) : g_ar (n_L S q be h pl bb va) r b j = none ∧ g_ai (n_L S q be h pl bb va) r b j = 0 ∧ g_al (n_L S q be h pl bb va) r b j = 0 := by
  simp only [n_L, i_L, i_L4, i_L3, i_L2, i_L1, x_gs]
  rcases hb with rfl | rfl | rfl | rfl <;> simp
theorem wt_nL {S : gs_S} {q : Nat} {be : Option Nat} {h pl bb va : Nat} (hw : w_t S) (hq : g_sh S q = none) (hf : i_Lf (p_new S 0 q) q h pl bb va) (hbe : t_o S 0 be) : w_t (n_L S q be h pl bb va) := by
  obtain ⟨⟨a1, a2⟩, ⟨b1, b2, b3⟩, ⟨c1, c2, c3, c4⟩, d1, d2, d3, d4, d5⟩ := n_Lne hf
  have ne : ∀ {b z : Nat} {y : Nat ⊕ (Nat × Nat)}, g_sh S b = some y → g_sh S z = none → b ≠ z := fun h1 h2 e => by rw [e, h2] at h1; cases h1
  have hx : ∀ (b : Nat) (y : Nat ⊕ (Nat × Nat)), g_sh S b = some y → g_sh (n_L S q be h pl bb va) b = some y := fun b y hb => by
    rw [n_L_sh, if_neg (ne hb d5), if_neg (ne hb c4), if_neg (ne hb b3), if_neg (ne hb a2), if_neg (ne hb hq)]
    exact hb
  have key : ∀ (a : Nat) (y : Nat ⊕ (Nat × Nat)), g_sh S a = none → g_sh (n_L S q be h pl bb va) a = some y → (a = q ∧ y = .inl 0) ∨ (a = h ∧ y = .inr (6, 16)) ∨ (a = pl ∧ y = .inr (7, 16)) ∨ (a = bb ∧ y = .inr (8, 16)) ∨ (a = va ∧ y = .inr (9, 216)) := by
    intro a y h0 h1
    rw [n_L_sh] at h1
    split at h1
    · cases h1; exact Or.inr (Or.inr (Or.inr (Or.inr ⟨by assumption, rfl⟩)))
    · split at h1
      · cases h1; exact Or.inr (Or.inr (Or.inr (Or.inl ⟨by assumption, rfl⟩)))
      · split at h1
        · cases h1; exact Or.inr (Or.inr (Or.inl ⟨by assumption, rfl⟩))
        · split at h1
          · cases h1; exact Or.inr (Or.inl ⟨by assumption, rfl⟩)
          · split at h1
            · cases h1; exact Or.inl ⟨by assumption, rfl⟩
            · rw [h0] at h1; cases h1
  obtain ⟨e0, e1, e2, e3, e5, e6, e7, e8, e4⟩ := n_L_q (S := S) (q := q) (be := be) (h := h) (pl := pl) (bb := bb) (va := va)
  refine wt_ext hw hx (fun c k b y hb => n_L_r c k (ne hb hq)) (fun c k b y hb => n_L_i c k (ne hb hq)) (fun r b j y hb => n_L_ar r j (ne hb a2) (ne hb b3) (ne hb c4) (ne hb d5)) (fun r b j y hb => n_L_ai r j (ne hb a2) (ne hb b3) (ne hb c4) (ne hb d5)) ?_ ?_ ?_ ?_ ?_ ?_
  · intro a h0 h1
    rcases key a _ h0 h1 with ⟨rfl, -⟩ | ⟨-, z⟩ | ⟨-, z⟩ | ⟨-, z⟩ | ⟨-, z⟩
    · rw [e0, e1, e2, e3, e5, e6, e7, e8, e4]
      refine ⟨fun b hb => hx _ _ (hbe b hb), t_oN, t_oN, t_oN, ⟨h, rfl, ?_⟩, ⟨pl, rfl, ?_⟩, ⟨bb, rfl, ?_⟩, ⟨va, rfl, ?_⟩, 0, by omega, rfl⟩
      · rw [n_L_sh, if_neg (Ne.symm d3), if_neg (Ne.symm c2), if_neg (Ne.symm b1), if_pos rfl]
      · rw [n_L_sh, if_neg (Ne.symm d2), if_neg (Ne.symm c1), if_pos rfl]
      · rw [n_L_sh, if_neg (Ne.symm d1), if_pos rfl]
      · rw [n_L_sh, if_pos rfl]
    all_goals cases z
  · intro a h0 h1 i hi
    rcases key a _ h0 h1 with ⟨-, z⟩ | ⟨rfl, -⟩ | ⟨-, z⟩ | ⟨-, z⟩ | ⟨-, z⟩
    · cases z
    · rw [(n_L_a 6 i (Or.inl rfl)).1]; intro _ z; cases z
    all_goals cases z
  · intro a h0 h1 i hi
    rcases key a _ h0 h1 with ⟨-, z⟩ | ⟨-, z⟩ | ⟨rfl, -⟩ | ⟨-, z⟩ | ⟨-, z⟩
    · cases z
    · cases z
    · exact ⟨0, by omega, (n_L_a 7 i (Or.inr (Or.inl rfl))).2.1⟩
    all_goals cases z
  · intro a h0 h1
    rcases key a _ h0 h1 with ⟨-, z⟩ | ⟨-, z⟩ | ⟨-, z⟩ | ⟨-, z⟩ | ⟨-, z⟩ <;> cases z
  · intro a h0
    constructor
    · intro h1
      rcases key a _ h0 h1 with ⟨-, z⟩ | ⟨-, z⟩ | ⟨-, z⟩ | ⟨-, z⟩ | ⟨-, z⟩ <;> cases z
    · intro h1
      rcases key a _ h0 h1 with ⟨-, z⟩ | ⟨-, z⟩ | ⟨-, z⟩ | ⟨-, z⟩ | ⟨-, z⟩ <;> cases z
  · intro a h0 h1
    rcases key a _ h0 h1 with ⟨-, z⟩ | ⟨-, z⟩ | ⟨-, z⟩ | ⟨-, z⟩ | ⟨-, z⟩ <;> cases z
/-- the state with a new program -/
def n_P (S : gs_S) (q : Nat) (o : Option Nat) (n nm mk : Int32) (h b : Nat) : gs_S := i_P (p_new S 1 q) q o n nm mk h b
theorem n_Pne {S : gs_S} {q h b : Nat} (hf : i_Pf (p_new S 1 q) q h b) : (h ≠ q ∧ g_sh S h = none) ∧ (b ≠ h ∧ b ≠ q ∧ g_sh S b = none) := by
  obtain ⟨h1, h2⟩ := hf
  simp only [i_P1, x_gs] at h1 h2
  refine ⟨?_, ?_⟩
  · split at h1
    · cases h1
    · exact ⟨by assumption, h1⟩
  · split at h2
    · cases h2
    · split at h2
      · cases h2
      · exact ⟨by assumption, by assumption, h2⟩
theorem n_P_sh (S : gs_S) (q : Nat) (o : Option Nat) (n nm mk : Int32) (h b a : Nat) : g_sh (n_P S q o n nm mk h b) a = if a = b then some (.inr (5, 16)) else if a = h then some (.inr (4, 16)) else if a = q then some (.inl 1) else g_sh S a := by
  simp only [n_P, i_P, i_P2, i_P1, x_gs]
theorem n_P_r {S : gs_S} {q : Nat} {o : Option Nat} {n nm mk : Int32} {h b a : Nat} (c k : Nat) (ha : a ≠ q) : g_r (n_P S q o n nm mk h b) c k a = g_r S c k a := by
  simp only [n_P, i_P, i_P2, i_P1, x_gs, ha, and_false, if_false]
theorem n_P_i {S : gs_S} {q : Nat} {o : Option Nat} {n nm mk : Int32} {h b a : Nat} (c k : Nat) (ha : a ≠ q) : g_i (n_P S q o n nm mk h b) c k a = g_i S c k a := by
  simp only [n_P, i_P, i_P2, i_P1, x_gs, ha, and_false, if_false]
theorem n_P_l {S : gs_S} {q : Nat} {o : Option Nat} {n nm mk : Int32} {h b a : Nat} (c k : Nat) (ha : a ≠ q) : g_l (n_P S q o n nm mk h b) c k a = g_l S c k a := by
  simp only [n_P, i_P, i_P2, i_P1, x_gs, ha, if_false]
theorem n_P_ar {S : gs_S} {q : Nat} {o : Option Nat} {n nm mk : Int32} {h b a : Nat} (r j : Nat) (h1 : a ≠ h) (h2 : a ≠ b) : g_ar (n_P S q o n nm mk h b) r a j = g_ar S r a j := by
  simp only [n_P, i_P, i_P2, i_P1, x_gs, h1, h2, if_false]
theorem n_P_ai {S : gs_S} {q : Nat} {o : Option Nat} {n nm mk : Int32} {h b a : Nat} (r j : Nat) (h1 : a ≠ h) (h2 : a ≠ b) : g_ai (n_P S q o n nm mk h b) r a j = g_ai S r a j := by
  simp only [n_P, i_P, i_P2, i_P1, x_gs, h1, h2, if_false]
theorem n_P_al {S : gs_S} {q : Nat} {o : Option Nat} {n nm mk : Int32} {h b a : Nat} (r j : Nat) (h1 : a ≠ h) (h2 : a ≠ b) : g_al (n_P S q o n nm mk h b) r a j = g_al S r a j := by
  simp only [n_P, i_P, i_P2, i_P1, x_gs, h1, h2, if_false]
theorem n_P_q {S : gs_S} {q : Nat} {o : Option Nat} {n nm mk : Int32} {h b : Nat} : g_r (n_P S q o n nm mk h b) 1 0 q = o ∧ g_r (n_P S q o n nm mk h b) 1 4 q = some h ∧ g_r (n_P S q o n nm mk h b) 1 5 q = some b ∧ g_r (n_P S q o n nm mk h b) 1 8 q = none ∧ g_i (n_P S q o n nm mk h b) 1 1 q = n ∧ g_i (n_P S q o n nm mk h b) 1 2 q = nm ∧ g_i (n_P S q o n nm mk h b) 1 3 q = mk ∧ g_i (n_P S q o n nm mk h b) 1 6 q = 0 ∧ g_i (n_P S q o n nm mk h b) 1 7 q = 0 := by
  simp [n_P, i_P, i_P2, i_P1, x_gs]
theorem wt_nP {S : gs_S} {q : Nat} {o : Option Nat} {nm mk : Int32} {h b k : Nat} (hw : w_t S) (hq : g_sh S q = none) (hf : i_Pf (p_new S 1 q) q h b) (ho : t_o S 1 o) (hk : 1 ≤ k) (hk60 : k ≤ 60) (hok : ∀ c : Nat, o = some c → ∃ j : Nat, j < k ∧ g_i S 1 1 c = nI j) : w_t (n_P S q o (nI k) nm mk h b) := by
  obtain ⟨⟨a1, a2⟩, b1, b2, b3⟩ := n_Pne hf
  have ne : ∀ {b z : Nat} {y : Nat ⊕ (Nat × Nat)}, g_sh S b = some y → g_sh S z = none → b ≠ z := fun h1 h2 e => by rw [e, h2] at h1; cases h1
  have hx : ∀ (c : Nat) (y : Nat ⊕ (Nat × Nat)), g_sh S c = some y → g_sh (n_P S q o (nI k) nm mk h b) c = some y := fun c y hc => by
    rw [n_P_sh, if_neg (ne hc b3), if_neg (ne hc a2), if_neg (ne hc hq)]
    exact hc
  have key : ∀ (a : Nat) (y : Nat ⊕ (Nat × Nat)), g_sh S a = none → g_sh (n_P S q o (nI k) nm mk h b) a = some y → (a = q ∧ y = .inl 1) ∨ (a = h ∧ y = .inr (4, 16)) ∨ (a = b ∧ y = .inr (5, 16)) := by
    intro a y h0 h1
    rw [n_P_sh] at h1
    split at h1
    · cases h1; exact Or.inr (Or.inr ⟨by assumption, rfl⟩)
    · split at h1
      · cases h1; exact Or.inr (Or.inl ⟨by assumption, rfl⟩)
      · split at h1
        · cases h1; exact Or.inl ⟨by assumption, rfl⟩
        · rw [h0] at h1; cases h1
  obtain ⟨e0, e4, e5, e8, i1, i2, i3, i6, i7⟩ := n_P_q (S := S) (q := q) (o := o) (n := nI k) (nm := nm) (mk := mk) (h := h) (b := b)
  refine wt_ext hw hx (fun c k b y hb => n_P_r c k (ne hb hq)) (fun c k b y hb => n_P_i c k (ne hb hq)) (fun r c j y hb => n_P_ar r j (ne hb a2) (ne hb b3)) (fun r c j y hb => n_P_ai r j (ne hb a2) (ne hb b3)) ?_ ?_ ?_ ?_ ?_ ?_
  · intro a h0 h1
    rcases key a _ h0 h1 with ⟨-, z⟩ | ⟨-, z⟩ | ⟨-, z⟩ <;> cases z
  · intro a h0 h1
    rcases key a _ h0 h1 with ⟨-, z⟩ | ⟨-, z⟩ | ⟨-, z⟩ <;> cases z
  · intro a h0 h1
    rcases key a _ h0 h1 with ⟨-, z⟩ | ⟨-, z⟩ | ⟨-, z⟩ <;> cases z
  · intro a h0 h1
    rcases key a _ h0 h1 with ⟨rfl, -⟩ | ⟨-, z⟩ | ⟨-, z⟩
    · rw [e0, e4, e5, e8, i1, i6]
      refine ⟨fun c hc => hx _ _ (ho c hc), ⟨h, rfl, ?_⟩, ⟨b, rfl, ?_⟩, t_oN, ⟨0, by omega, rfl⟩, k, hk, hk60, rfl, fun c hc => ?_⟩
      · rw [n_P_sh, if_neg (Ne.symm b1), if_pos rfl]
      · rw [n_P_sh, if_pos rfl]
      · obtain ⟨j, z1, z2⟩ := hok c hc
        exact ⟨j, z1, by rw [n_P_i 1 1 (ne (ho c hc) hq)]; exact z2⟩
    · cases z
    · cases z
  · intro a h0
    constructor
    · intro h1
      rcases key a _ h0 h1 with ⟨-, z⟩ | ⟨-, z⟩ | ⟨-, z⟩ <;> cases z
    · intro h1
      rcases key a _ h0 h1 with ⟨-, z⟩ | ⟨-, z⟩ | ⟨-, z⟩ <;> cases z
  · intro a h0 h1
    rcases key a _ h0 h1 with ⟨-, z⟩ | ⟨-, z⟩ | ⟨-, z⟩ <;> cases z
