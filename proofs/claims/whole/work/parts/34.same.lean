/-! operations that only read; set -/
theorem z_0 {S : gs_S} {x y t t' : Nat} {P L : Nat → Nat} {D : Nat → Nat → Option Nat} {N : Nat} (h : r_R S x y t P L D N) (v : Int32) (ht : t ≤ t') : r_R (p_i S 3 0 y v) x y t' P L D N := by
  obtain ⟨⟨h1, h2, h3, h4⟩, hb, hP, hC, hL, hD, hA⟩ := h
  exact ⟨⟨wt_pi0 h1 (by decide), mt_pi0 h2 (by decide), h3, h4⟩, Nat.le_trans hb ht, hP, hC, hL, hD, hA⟩
theorem r_no {S : gs_S} {x y : Nat} {P : Nat → Nat} (h : r_P S x y P) {i : Nat} (hi : i ≤ m_programs S y) : f_no S (p_f P i) = nI i := by
  by_cases c : i = 0
  · subst c; rfl
  · rw [p_fs P c]; exact (h.2.2 i (by omega) hi).2.2.1
theorem r_pOf {S : gs_S} {x y : Nat} {P : Nat → Nat} (h : r_P S x y P) (hn : m_programs S y ≤ 60) (p : Int32) : (f_isP S y p = 0 ∧ f_pOf S x p = none) ∨ ∃ i : Nat, 1 ≤ i ∧ i ≤ m_programs S y ∧ p = nI i ∧ f_isP S y p = 1 ∧ f_pOf S x p = some (P i) := by
  unfold f_isP f_pOf
  rw [h.1]
  by_cases c1 : p < 1
  · have c2 : p ≤ 0 := by rw [Int32.lt_iff_toInt_lt] at c1; rw [Int32.le_iff_toInt_le]; have e1 : (1 : Int32).toInt = 1 := (by decide); have e0 : (0 : Int32).toInt = 0 := (by decide); omega
    rw [if_pos c1, if_pos c2]; exact Or.inl ⟨rfl, rfl⟩
  · have c2 : ¬ p ≤ 0 := fun z => c1 (by rw [Int32.le_iff_toInt_le] at z; rw [Int32.lt_iff_toInt_lt]; have e1 : (1 : Int32).toInt = 1 := (by decide); have e0 : (0 : Int32).toInt = 0 := (by decide); omega)
    rw [if_neg c1, if_neg c2]
    by_cases c3 : nI (m_programs S y) < p
    · rw [if_pos c3, if_pos c3]; exact Or.inl ⟨rfl, rfl⟩
    · rw [if_neg c3, if_neg c3]
      obtain ⟨j, hj, rfl⟩ := x_pOf hn rfl c1 c3
      have hj1 : 1 ≤ j := by
        rcases Nat.eq_zero_or_pos j with rfl | z
        · exact absurd (by decide) c1
        · exact z
      rw [nI_clamp (by omega)]
      exact Or.inr ⟨j, hj1, hj, rfl, rfl, (h.2.2 j hj1 hj).1⟩
theorem z_state {S : gs_S} {x y t : Nat} {P L : Nat → Nat} {D : Nat → Nat → Option Nat} {N : Nat} (h : r_R S x y t P L D N) (p : Int32) : f_state S x p = f_staM (m_0 S y) y p := by
  obtain ⟨⟨h1, h2, h3, h4⟩, hb, hP, hC, hL, hD, hA⟩ := h
  have hn := b_programs h2 h4
  show _ = f_staM S y p
  unfold f_state f_staM
  rcases r_pOf hP hn p with ⟨a1, a2⟩ | ⟨i, a0, a1, rfl, a3, a4⟩
  · rw [a1, a2, if_pos rfl]
  · rw [a3, a4, if_neg (by decide), nI_clamp (by omega)]
    obtain ⟨b1, b2, b3, b4⟩ := hL.2.2.2.2.2.2.2.2.2.2.2.2 i a0 a1
    have hlc := la_cn (m_callOf S y) i (m_active S y)
    have hcl := cn_le (m_callOf S y) i (m_active S y)
    have hac := b_active h2 h4
    simp only []
    rw [b1, b2]
    by_cases c : la_ (m_callOf S y) i (m_active S y) = 0
    · rw [c, p_f0, (hlc.mp c), if_pos (show nI 0 ≤ (0 : Int32) by decide), b3 c]
    · rw [p_fs L c]
      show (2 : Int32) = _
      rw [if_neg (fun z => by rw [show (0 : Int32) = nI 0 from rfl, nI_leI (by omega) (by omega)] at z; exact c (hlc.mpr (by omega)))]
theorem z_count {S : gs_S} {x y t : Nat} {P L : Nat → Nat} {D : Nat → Nat → Option Nat} {N : Nat} (h : r_R S x y t P L D N) (w : Int32) : f_count S x w = f_coM (m_0 S y) y w := by
  obtain ⟨⟨h1, h2, h3, h4⟩, hb, hP, hC, hL, hD, hA⟩ := h
  show _ = f_coM S y w
  obtain ⟨t1, t2, t3⟩ := r_run hL
  unfold f_count f_coM
  rw [hP.1, hC.1, hL.2.2.1, t2, r_no hP t3]
  have em : ∀ c : ¬ f_runM S y = 0, g_i S 1 6 (P (f_runM S y)) = nI (m_manyFormals S y (f_runM S y)) := fun c => (hP.2.2 _ (by omega) t3).2.2.2.2.2.2.2.1
  rcases hA with ⟨a1, a2, a3⟩ | ⟨a1, a2, a3, a4, a5, a6, -⟩
  · rw [a2, a1, a3]
    by_cases c : f_runM S y = 0
    · rw [c]; rfl
    · rw [p_fs P c, if_neg c]
      simp only []
      rw [em c]; rfl
  · rw [a4]
    simp only []
    rw [a5, a6, show f_no S (some (P (m_prepared S y))) = nI (m_prepared S y) from (hP.2.2 _ a1 a2).2.2.1]
    by_cases c : f_runM S y = 0
    · rw [c]; rfl
    · rw [p_fs P c, if_neg c]
      simp only []
      rw [em c]
/-- two places of the memory apart -/
theorem U_mono {S : gs_S} {y : Nat} (h : ∀ j : Nat, j ≤ m_active S y → r_U S y j ≤ r_U S y (j + 1)) : ∀ (k i : Nat), i + k ≤ m_active S y + 1 → r_U S y i ≤ r_U S y (i + k) := by
  intro k
  induction k with
  | zero => intro i _; exact Nat.le_refl _
  | succ k ih => intro i hi; exact Nat.le_trans (ih i (by omega)) (h (i + k) (by omega))
theorem D_inj {S : gs_S} {x y : Nat} {P L : Nat → Nat} {D : Nat → Nat → Option Nat} (h : r_D S x y P L D) (hc : m_cells S y ≤ 200) {a b q q' d : Nat} (e1 : D a q = some d) (e2 : D b q' = some d) : a = b ∧ q = q' := by
  obtain ⟨k1, k2, k3, k4, k5, k6, -⟩ := h
  have hm := U_mono (fun j hj => (k6 j hj).1)
  have hlt : ∀ a b q q' : Nat, D a q = some d → D b q' = some d → ¬ a < b := by
    intro a b q q' e1 e2 hab
    obtain ⟨f1, f2, f3, f4⟩ := k2 b q' d (by omega) e2
    have hb1 : b ≤ m_active S y + 1 := by split at f1 <;> omega
    rcases Nat.eq_zero_or_pos a with rfl | ha
    · rw [k1] at e1
      split at e1
      · have := Option.some.inj e1
        have := hm (b - 1) 0 (by omega)
        rw [Nat.zero_add] at this
        omega
      · cases e1
    · obtain ⟨g1, g2, g3, g4⟩ := k2 a q d ha e1
      have := hm (b - 1 - a) a (by omega)
      rw [show a + (b - 1 - a) = b - 1 by omega] at this
      omega
  have hab : a = b := by
    rcases Nat.lt_trichotomy a b with c | c | c
    · exact absurd c (hlt a b q q' e1 e2)
    · exact c
    · exact absurd c (hlt b a q' q e2 e1)
  subst hab
  exact ⟨rfl, k3 a q q' d e1 e2⟩
theorem D_N {S : gs_S} {x y : Nat} {P L : Nat → Nat} {D : Nat → Nat → Option Nat} {N : Nat} (hL : r_L S x y P L N) (hD : r_D S x y P L D) (hA : r_A S x y P L D N) {a q d : Nat} (e : D a q = some d) : a ≤ N := by
  rcases Nat.eq_zero_or_pos a with rfl | ha
  · exact Nat.zero_le _
  · have h1 := (hD.2.1 a q d ha e).1
    have h2 := hL.2.2.2.1
    rcases hA with ⟨z, -⟩ | ⟨z, -, z2, -⟩
    · rw [if_pos z] at h1; omega
    · rw [if_neg (by omega)] at h1; omega
theorem z_set {S : gs_S} {x y t : Nat} {P L : Nat → Nat} {D : Nat → Nat → Option Nat} {N : Nat} (h : r_R S x y t P L D N) (n : Int32) (v : Int64) : (f_set S x n v).1 = (f_setM (m_0 (f_set S x n v).2 y) y n v).1 ∧ r_R (f_setM (m_0 (f_set S x n v).2 y) y n v).2 x y (t + 1) P L D N := by
  have hr := h
  obtain ⟨⟨h1, h2, h3, h4⟩, hb, hP, hC, hL, hD, hA⟩ := h
  rcases r_pl h2 h4 hP hC hL hD n with ⟨a1, a2⟩ | ⟨hh, q, d, a1, a2, a3, a4, a5, w, w1, w2, w3, w4⟩
  · unfold f_set
    rw [a2]
    simp only []
    unfold f_setM
    rw [if_pos (show f_plM (m_0 S y) y n = -1 from (plM_c (S' := m_0 S y) (S := S) ⟨rfl, rfl, rfl, rfl, rfl, rfl, rfl, rfl, rfl, rfl, rfl, rfl, rfl⟩ n).trans a1)]
    exact ⟨rfl, z_0 hr 0 (by omega)⟩
  · have hq : q < 216 := by
      rcases Nat.eq_zero_or_pos hh with rfl | z
      · have := hD.1 q
        rw [a3] at this
        split at this
        · have := b_cells h2 h4; omega
        · cases this
      · exact (hD.2.1 hh q d z a3).2.1
    obtain ⟨x1, d2, hd6, ed⟩ := x_plM h2 h4 (show ¬ f_plM S y n = -1 from fun z => by
      rw [a4] at z
      have hd : ∃ d2 : Nat, d2 < 60000 ∧ nI d = nI d2 ∨ nI d = -1 := ⟨0, Or.inr z⟩
      rcases Nat.eq_zero_or_pos hh with rfl | z2
      · have := hD.1 q
        rw [a3] at this
        split at this
        · have := Option.some.inj this
          have := b_cells h2 h4
          have h0 : nI 0 ≤ nI d := (nI_leI (by decide) (by omega)).mpr (Nat.zero_le _)
          rw [z] at h0
          exact absurd h0 (by decide)
        · cases this
      · have hu := (hD.2.1 hh q d z2 a3).2.2.2
        have hU : r_U S y hh ≤ 60000 := by
          have := b_used h2 h4
          have := b_preparedAhead h2 h4
          have := b_active h2 h4
          unfold r_U
          split
          · exact b_usedAhead h2 h4 (by omega)
          · split
            · split <;> assumption
            · assumption
        have h0 : nI 0 ≤ nI d := (nI_leI (by decide) (by omega)).mpr (Nat.zero_le _)
        rw [z] at h0
        exact absurd h0 (by decide))
    have hdd : d < 60000 := by
      rcases Nat.eq_zero_or_pos hh with rfl | z2
      · have := hD.1 q
        rw [a3] at this
        split at this
        · have := Option.some.inj this
          have := b_cells h2 h4
          omega
        · cases this
      · have hu := (hD.2.1 hh q d z2 a3).2.2.2
        have hU : r_U S y hh ≤ 60000 := by
          have := b_used h2 h4
          have := b_preparedAhead h2 h4
          have := b_active h2 h4
          unfold r_U
          split
          · exact b_usedAhead h2 h4 (by omega)
          · split
            · split <;> assumption
            · assumption
        omega
    have hne : ¬ f_plM S y n = -1 := by rw [a4]; intro z; have h0 : nI 0 ≤ nI d := (nI_leI (by decide) (by omega)).mpr (Nat.zero_le _); rw [z] at h0; exact absurd h0 (by decide)
    have em : f_mask (f_unused S x n) = f_al (nI w) := by unfold f_unused; rw [w3]; exact r_mask w w1 w2
    unfold f_set
    rw [a1]
    simp only []
    rw [a2, nI_clamp (by omega), em]
    generalize hv' : (g_al S 9 (v_a (g_r S 0 8 (L hh))) q &&& (f_al (nI w) ^^^ (-1))) ||| (v &&& f_al (nI w)) = v'
    generalize hT : m_0 (p_al S 9 (v_a (g_r S 0 8 (L hh))) q v') y = T
    have hE : f_plM T y n = nI d := by rw [← hT]; exact (plM_c (S' := m_0 (p_al S 9 (v_a (g_r S 0 8 (L hh))) q v') y) (S := S) ⟨rfl, rfl, rfl, rfl, rfl, rfl, rfl, rfl, rfl, rfl, rfl, rfl, rfl⟩ n).trans a4
    have hB : f_byM T y n = nI w := by rw [← hT]; exact (byM_c (S' := m_0 (p_al S 9 (v_a (g_r S 0 8 (L hh))) q v') y) (S := S) rfl rfl rfl n).trans w4
    unfold f_setM
    rw [hE, if_neg (by rw [← a4]; exact hne), nI_clamp (by omega), hB]
    refine ⟨rfl, ?_⟩
    have hmem : m_memory T y d = g_al S 9 (v_a (g_r S 0 8 (L hh))) q := by rw [← hT]; exact (hD.2.2.2.1 hh q d a3).symm
    have e2 : f_st T y d (nI w) v = p_al T 22 (m_q S y 16) d v' := by
      unfold f_st
      rw [hmem, hv', ← hT]
      rfl
    simp only []
    rw [e2, ← hT]
    refine ⟨⟨wt_pal (wt_pi0 (wt_pal h1) (by decide)), mt_pal (mt_pi0 (mt_pal h2) (by decide)), h3, h4⟩, Nat.le_trans hb (by omega), hP, hC, hL, ?_, hA⟩
    obtain ⟨k1, k2, k3, k4, k5⟩ := id hD
    refine ⟨k1, k2, k3, fun h' q' d' e' => ?_, k5⟩
    show g_al (p_al (m_0 (p_al S 9 (v_a (g_r S 0 8 (L hh))) q v') y) 22 (m_q S y 16) d v') 9 (v_a (g_r S 0 8 (L h'))) q' = g_al (p_al (m_0 (p_al S 9 (v_a (g_r S 0 8 (L hh))) q v') y) 22 (m_q S y 16) d v') 22 (m_q S y 16) d'
    rw [x_g_al_p_al, if_neg (fun z => absurd z.1 (by decide)), x_g_al_p_al]
    show g_al (p_al S 9 (v_a (g_r S 0 8 (L hh))) q v') 9 (v_a (g_r S 0 8 (L h'))) q' = if _ then v' else g_al (p_al S 9 (v_a (g_r S 0 8 (L hh))) q v') 22 (m_q S y 16) d'
    rw [x_g_al_p_al, x_g_al_p_al, if_neg (show ¬ (22 = 9 ∧ _) from fun z => absurd z.1 (by decide))]
    by_cases c : d' = d
    · subst c
      obtain ⟨rfl, rfl⟩ := D_inj hD (b_cells h2 h4) e' a3
      rw [if_pos ⟨rfl, rfl, rfl⟩, if_pos ⟨rfl, rfl, rfl⟩]
    · have hn1 : ¬ (9 = 9 ∧ v_a (g_r S 0 8 (L h')) = v_a (g_r S 0 8 (L hh)) ∧ q' = q) := fun z => c (by
        have := hL.2.2.2.2.2.2.2.1 h' hh (D_N hL hD hA e') (D_N hL hD hA a3) (Or.inr ⟨8, by omega, by omega, z.2.1⟩)
        subst this
        rw [z.2.2, a3] at e'
        exact (Option.some.inj e').symm)
      rw [if_neg hn1, if_neg (fun z => c z.2.2)]
      exact k4 h' q' d' e'
