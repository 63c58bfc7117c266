/-! arguments: what stays -/
theorem rD_same {S S2 : gs_S} {x y : Nat} {P L : Nat → Nat} {D : Nat → Nat → Option Nat} (hD : r_D S x y P L D) (e1 : m_cells S2 y = m_cells S y) (e2 : m_active S2 y = m_active S y) (e3 : m_prepared S2 y = m_prepared S y) (e4 : m_used S2 y = m_used S y) (e5 : m_preparedAhead S2 y = m_preparedAhead S y) (e6 : m_usedAhead S2 y = m_usedAhead S y) (e7 : m_arguments S y ≤ m_arguments S2 y) (e8 : m_manyFormals S2 y = m_manyFormals S y) (e9 : m_callOf S2 y = m_callOf S y) (e10 : m_placeOf S2 y = m_placeOf S y) (e11 : m_marks S2 y = m_marks S y) (e12 : m_baseOf S2 y = m_baseOf S y) (e13 : m_owner S2 y = m_owner S y) (e14 : m_rank S2 y = m_rank S y) (e16 : m_memory S2 y = m_memory S y) (e17 : ∀ A q : Nat, g_al S2 9 A q = g_al S 9 A q) (e18 : ∀ k a : Nat, 5 ≤ k → g_r S2 0 k a = g_r S 0 k a) (e19 : ∀ j : Nat, j < m_active S y → ∀ i : Nat, g_ar S2 6 (v_a (g_r S 0 5 (L (j + 1)))) i = g_ar S 6 (v_a (g_r S 0 5 (L (j + 1)))) i ∧ g_ai S2 7 (v_a (g_r S 0 6 (L (j + 1)))) i = g_ai S 7 (v_a (g_r S 0 6 (L (j + 1)))) i ∧ g_ai S2 8 (v_a (g_r S 0 7 (L (j + 1)))) i = g_ai S 8 (v_a (g_r S 0 7 (L (j + 1)))) i) (e20 : m_bytes S2 y = m_bytes S y) : r_D S2 x y P L D := by
  obtain ⟨k1, k2, k3, k4, k5, k6, k7, k8, k9⟩ := id hD
  have eU : ∀ j : Nat, r_U S2 y j = r_U S y j := fun j => by unfold r_U; rw [e2, e3, e4, e5, e6]
  refine ⟨fun q => by rw [e1]; exact k1 q, fun h q d w1 w2 => by rw [e2, e3, eU, eU]; exact k2 h q d w1 w2, k3, fun h q d e => by rw [e18 8 _ (by omega), e17, e16]; exact k4 h q d e, by rw [eU]; exact k5, fun j hj => by rw [eU, eU, e1]; rw [e2] at hj; exact k6 j hj, by rw [e4, eU, e2]; omega, fun j hj i hi => ?_, fun j hj hr k hk ho => ?_⟩
  · rw [e2] at hj
    rw [e9, e8] at hi
    rw [e18 5 _ (by omega), e18 6 _ (by omega), e18 7 _ (by omega), (e19 j hj i).1, (e19 j hj i).2.1, (e19 j hj i).2.2, e10, e20, e9]
    exact k8 j hj i hi
  · rw [e2] at hj
    rw [e9, e11] at hr
    rw [e9, e13] at ho
    rw [e1] at hk
    rw [e12, e14]
    exact k9 j hj hr k hk ho
def D_u (D : Nat → Nat → Option Nat) (h0 q0 d0 : Nat) : Nat → Nat → Option Nat := fun h q => if h = h0 ∧ q = q0 then some d0 else D h q
theorem D_un {D : Nat → Nat → Option Nat} {h0 q0 d0 h q : Nat} (e : ¬ (h = h0 ∧ q = q0)) : D_u D h0 q0 d0 h q = D h q := if_neg e
theorem D_us {D : Nat → Nat → Option Nat} {h0 q0 d0 : Nat} : D_u D h0 q0 d0 h0 q0 = some d0 := if_pos ⟨rfl, rfl⟩
theorem D_lt {S : gs_S} {x y : Nat} {P L : Nat → Nat} {D : Nat → Nat → Option Nat} (hD : r_D S x y P L D) (hc : m_cells S y ≤ 200) {h q d : Nat} (e : D h q = some d) : d < r_U S y (m_active S y + 1) := by
  obtain ⟨k1, k2, k3, k4, k5, k6, -⟩ := id hD
  have hm := U_mono (fun j hj => (k6 j hj).1)
  rcases Nat.eq_zero_or_pos h with rfl | z
  · rw [k1] at e
    split at e
    · have := Option.some.inj e
      have := hm (m_active S y + 1) 0 (by omega)
      rw [Nat.zero_add] at this
      omega
    · cases e
  · obtain ⟨f1, f2, f3, f4⟩ := k2 h q d z e
    have h1 : h ≤ m_active S y + 1 := by split at f1 <;> omega
    have := hm (m_active S y + 1 - h) h (by omega)
    rw [show h + (m_active S y + 1 - h) = m_active S y + 1 by omega] at this
    omega
theorem U_s {S : gs_S} {y : Nat} : r_U S y (m_active S y + 1) = m_used S y := by unfold r_U; rw [if_neg (by omega), if_neg (by omega)]
/-- a copy is made, at the level above the top -/
theorem rD_copy {S S2 : gs_S} {x y : Nat} {P L : Nat → Nat} {D : Nat → Nat → Option Nat} {N k : Nat} {v : Int64} (hL : r_L S x y P L N) (hN : m_active S y + 1 ≤ N) (hDN : ∀ {h q d : Nat}, D h q = some d → h ≤ N) (hc : m_cells S y ≤ 200) (hk : k < 16) (hpr : ¬ m_prepared S y = 0) (hD : r_D S x y P L D) (e1 : m_cells S2 y = m_cells S y) (e2 : m_active S2 y = m_active S y) (e3 : m_prepared S2 y = m_prepared S y) (e4 : m_used S2 y = m_used S y + 1) (e5 : m_preparedAhead S2 y = m_preparedAhead S y) (e6 : m_usedAhead S2 y = m_usedAhead S y) (e7 : m_arguments S y + 1 ≤ m_arguments S2 y) (e8 : m_manyFormals S2 y = m_manyFormals S y) (e9 : m_callOf S2 y = m_callOf S y) (e10 : m_placeOf S2 y = m_placeOf S y) (e11 : m_marks S2 y = m_marks S y) (e12 : m_baseOf S2 y = m_baseOf S y) (e13 : m_owner S2 y = m_owner S y) (e14 : m_rank S2 y = m_rank S y) (e16 : ∀ d : Nat, m_memory S2 y d = if d = m_used S y then v else m_memory S y d) (e17 : ∀ A q : Nat, g_al S2 9 A q = if A = v_a (g_r S 0 8 (L (m_active S y + 1))) ∧ q = k then v else g_al S 9 A q) (e18 : ∀ k a : Nat, 5 ≤ k → g_r S2 0 k a = g_r S 0 k a) (e19 : ∀ j : Nat, j < m_active S y → ∀ i : Nat, g_ar S2 6 (v_a (g_r S 0 5 (L (j + 1)))) i = g_ar S 6 (v_a (g_r S 0 5 (L (j + 1)))) i ∧ g_ai S2 7 (v_a (g_r S 0 6 (L (j + 1)))) i = g_ai S 7 (v_a (g_r S 0 6 (L (j + 1)))) i ∧ g_ai S2 8 (v_a (g_r S 0 7 (L (j + 1)))) i = g_ai S 8 (v_a (g_r S 0 7 (L (j + 1)))) i) (e20 : m_bytes S2 y = m_bytes S y) : r_D S2 x y P L (D_u D (m_active S y + 1) k (m_used S y)) := by
  have hlt := fun {h q d : Nat} (e : D h q = some d) => D_lt hD hc e
  rw [U_s] at hlt
  obtain ⟨k1, k2, k3, k4, k5, k6, k7, k8, k9⟩ := id hD
  have eU : ∀ j : Nat, j ≤ m_active S y → r_U S2 y j = r_U S y j := fun j hj => by
    unfold r_U
    rw [e2, e3, e5, e6]
    split
    · rfl
    · simp only [if_pos (show j = m_active S y by omega), if_neg hpr]
  have eU1 : r_U S2 y (m_active S y + 1) = m_used S y + 1 := by rw [← e2, U_s, e4]
  have hU1 : r_U S y (m_active S y + 1) = m_used S y := U_s
  have h6a := (k6 (m_active S y) (Nat.le_refl _)).1
  rw [hU1] at h6a
  refine ⟨fun q => by rw [D_un (by omega), e1]; exact k1 q, fun h q d h1 e => ?_, fun h q q' d ea eb => ?_, fun h q d e => ?_, by rw [eU 0 (Nat.zero_le _)]; exact k5, fun j hj => ?_, by rw [e4, e2, eU _ (Nat.le_refl _)]; omega, fun j hj i hi => ?_, fun j hj hr k' hk' ho => ?_⟩
  · rw [e2, e3]
    by_cases z : h = m_active S y + 1 ∧ q = k
    · obtain ⟨rfl, rfl⟩ := z
      rw [D_us] at e
      cases e
      rw [show m_active S y + 1 - 1 = m_active S y by omega, eU _ (Nat.le_refl _), eU1, if_neg hpr]
      exact ⟨Nat.le_refl _, by omega, h6a, by omega⟩
    · rw [D_un z] at e
      obtain ⟨f1, f2, f3, f4⟩ := k2 h q d h1 e
      rw [if_neg hpr] at f1 ⊢
      rw [eU (h - 1) (by omega)]
      refine ⟨f1, f2, f3, ?_⟩
      by_cases w : h = m_active S y + 1
      · rw [w, eU1]; rw [w, hU1] at f4; omega
      · rw [eU h (by omega)]; exact f4
  · by_cases z : h = m_active S y + 1 ∧ q = k
    · by_cases z' : h = m_active S y + 1 ∧ q' = k
      · omega
      · exfalso
        rw [z.1, z.2, D_us] at ea
        rw [D_un z'] at eb
        have := hlt eb
        cases ea
        omega
    · by_cases z' : h = m_active S y + 1 ∧ q' = k
      · exfalso
        rw [z'.1, z'.2, D_us] at eb
        rw [D_un z] at ea
        have := hlt ea
        cases eb
        omega
      · rw [D_un z] at ea
        rw [D_un z'] at eb
        exact k3 h q q' d ea eb
  · rw [e18 8 _ (by omega), e17, e16]
    by_cases z : h = m_active S y + 1 ∧ q = k
    · obtain ⟨rfl, rfl⟩ := z
      rw [D_us] at e
      cases e
      rw [if_pos ⟨rfl, rfl⟩, if_pos rfl]
    · rw [D_un z] at e
      have := hlt e
      rw [if_neg (fun w => z ⟨hL.2.2.2.2.2.2.2.1 h _ (hDN e) hN (Or.inr ⟨8, by omega, by omega, w.1⟩), w.2⟩), if_neg (by omega)]
      exact k4 h q d e
  · rw [e2] at hj
    obtain ⟨g1, g2⟩ := k6 j hj
    rw [eU j hj, e1]
    refine ⟨?_, g2⟩
    by_cases w : j = m_active S y
    · subst w; rw [eU1]; rw [hU1] at g1; omega
    · rw [eU (j + 1) (by omega)]; exact g1
  · rw [e2] at hj
    rw [e9, e8] at hi
    rw [e18 5 _ (by omega), e18 6 _ (by omega), e18 7 _ (by omega), (e19 j hj i).1, (e19 j hj i).2.1, (e19 j hj i).2.2, e10, e20, e9]
    refine ⟨?_, (k8 j hj i hi).2⟩
    rcases (k8 j hj i hi).1 with z | ⟨h, q, d, f1, f2, f3, f4, f5, f6⟩
    · exact Or.inl z
    · exact Or.inr ⟨h, q, d, f1, f2, by rw [D_un (by omega)]; exact f3, f4, f5, f6⟩
  · rw [e2] at hj
    rw [e9, e11] at hr
    rw [e9, e13] at ho
    rw [e1] at hk'
    rw [e12, e14, D_un (by omega)]
    exact k9 j hj hr k' hk' ho
theorem rA_arg {S S2 : gs_S} {x y : Nat} {P L : Nat → Nat} {D D' : Nat → Nat → Option Nat} {N k : Nat} (hA : r_A S x y P L D N) (hpr : ¬ m_prepared S y = 0) (hk : m_arguments S y = k) (hk16 : k < 16) (e2 : m_active S2 y = m_active S y) (e3 : m_prepared S2 y = m_prepared S y) (e1 : m_programs S2 y = m_programs S y) (e7 : m_arguments S2 y = k + 1) (e11 : m_marks S2 y = m_marks S y) (e9 : m_callOf S2 y = m_callOf S y) (gr : g_r S2 2 10 x = g_r S 2 10 x) (gr0 : ∀ k a : Nat, g_r S2 0 k a = g_r S 0 k a) (gi : g_i S2 0 4 (L (m_active S y + 1)) = nI (k + 1)) (h6 : ∀ i : Nat, ¬ i = k → g_ar S2 6 (v_a (g_r S 0 5 (L (m_active S y + 1)))) i = g_ar S 6 (v_a (g_r S 0 5 (L (m_active S y + 1)))) i ∧ g_ai S2 7 (v_a (g_r S 0 6 (L (m_active S y + 1)))) i = g_ai S 7 (v_a (g_r S 0 6 (L (m_active S y + 1)))) i ∧ g_ai S2 8 (v_a (g_r S 0 7 (L (m_active S y + 1)))) i = g_ai S 8 (v_a (g_r S 0 7 (L (m_active S y + 1)))) i ∧ m_argument S2 y i = m_argument S y i ∧ m_argumentBytes S2 y i = m_argumentBytes S y i) (hD : ∀ h q d : Nat, ¬ (h = m_active S y + 1 ∧ q = k) → D h q = some d → D' h q = some d) (hk1 : r_o L D' (m_active S y + 1) (some k) (g_ar S2 6 (v_a (g_r S 0 5 (L (m_active S y + 1)))) k) (g_ai S2 7 (v_a (g_r S 0 6 (L (m_active S y + 1)))) k) (m_argument S2 y k)) (hk2 : ¬ m_argument S2 y k = -1 → g_ai S2 8 (v_a (g_r S 0 7 (L (m_active S y + 1)))) k = m_argumentBytes S2 y k) : r_A S2 x y P L D' N := by
  rcases hA with ⟨z, -⟩ | ⟨a1, a2, a3, a4, a5, a6, a7, a8⟩
  · exact absurd z hpr
  · right
    rw [e2, e3, e1, e7, e11, e9, gr]
    simp only [gr0]
    refine ⟨a1, a2, a3, a4, a5, gi, a7, fun i hi => ?_⟩
    by_cases z : i = k
    · subst z
      exact Or.inr ⟨by omega, hk1, hk2⟩
    · obtain ⟨b1, b2, b3, b4, b5⟩ := h6 i z
      rw [b1, b2, b3, b4, b5]
      rcases a8 i hi with w | ⟨w1, w2, w3⟩
      · exact Or.inl ⟨by omega, w.2⟩
      · refine Or.inr ⟨by omega, ?_, w3⟩
        rcases w2 with w2 | ⟨h, q, d, f1, f2, f3, f4, f5, f6⟩
        · exact Or.inl w2
        · exact Or.inr ⟨h, q, d, f1, f2, hD h q d (fun u => by have := f6 i rfl u.1; omega) f3, f4, f5, f6⟩
