/-! get; new cells -/
def f_get (S : gs_S) (x : Nat) (n : Int32) : Option Int64 := match f_holder S x n with
  | none => none
  | some b => some ((g_al S 9 (v_a (g_r S 0 8 b)) (f_place S x n).toNatClampNeg <<< ((f_unused S x n).toInt64 &&& 63)) >>> ((f_unused S x n).toInt64 &&& 63))
theorem nI_m1 {d : Nat} (h : d < 2 ^ 31) : ¬ nI d = -1 := by
  intro z
  have h0 : nI 0 ≤ nI d := (nI_leI (by decide) h).mpr (Nat.zero_le _)
  rw [z] at h0
  exact absurd h0 (by decide)
theorem U_60 {S : gs_S} {y : Nat} (h2 : m_t S) (h4 : g_sh S y = some (.inl 3)) (j : Nat) : r_U S y j ≤ 60000 := by
  have := b_used h2 h4
  have := b_preparedAhead h2 h4
  have := b_active h2 h4
  unfold r_U
  split
  · exact b_usedAhead h2 h4 (by omega)
  · split
    · split <;> assumption
    · assumption
theorem D_60 {S : gs_S} {x y : Nat} {P L : Nat → Nat} {D : Nat → Nat → Option Nat} (h2 : m_t S) (h4 : g_sh S y = some (.inl 3)) (hD : r_D S x y P L D) {hh q d : Nat} (e : D hh q = some d) : d < 60000 ∧ q < 216 := by
  have hc := b_cells h2 h4
  rcases Nat.eq_zero_or_pos hh with rfl | z
  · have := hD.1 q
    rw [e] at this
    split at this
    · have := Option.some.inj this; omega
    · cases this
  · have h1 := hD.2.1 hh q d z e
    have := U_60 h2 h4 hh
    omega
theorem z_get {S : gs_S} {x y t : Nat} {P L : Nat → Nat} {D : Nat → Nat → Option Nat} {N : Nat} (h : r_R S x y t P L D N) (n : Int32) : ((f_get S x n = none ∧ g_i (f_getM S y n).2 3 0 y = 1) ∨ (f_get S x n = some (f_getM S y n).1 ∧ g_i (f_getM S y n).2 3 0 y = 0)) ∧ r_R (f_getM S y n).2 x y (t + 1) P L D N := by
  have hr := h
  obtain ⟨⟨h1, h2, h3, h4⟩, hb, hP, hC, hL, hD, hA⟩ := h
  rcases r_pl h2 h4 hP hC hL hD n with ⟨a1, a2⟩ | ⟨hh, q, d, a1, a2, a3, a4, a5, w, w1, w2, w3, w4⟩
  · unfold f_get f_getM
    rw [a2, if_pos a1]
    exact ⟨Or.inl ⟨rfl, by simp [x_gs]⟩, z_0 hr 1 (by omega)⟩
  · obtain ⟨b1, b2⟩ := D_60 h2 h4 hD a3
    unfold f_get f_getM
    rw [a1, if_neg (by rw [a4]; exact nI_m1 (by omega)), a2, a4, nI_clamp (by omega), nI_clamp (by omega), w4]
    refine ⟨Or.inr ⟨?_, by simp [x_gs]⟩, z_0 hr 0 (by omega)⟩
    simp only []
    rw [hD.2.2.2.1 hh q d a3]
    unfold f_unused f_sg
    rw [w3, r_shift w w1 w2]
theorem r_o_mono {L : Nat → Nat} {D D' : Nat → Nat → Option Nat} {h0 : Nat} {own ho : Option Nat} {pl v : Int32} (hm : ∀ h q d : Nat, D h q = some d → D' h q = some d) (h : r_o L D h0 own ho pl v) : r_o L D' h0 own ho pl v := by
  rcases h with h | ⟨a, q, d, h1, h2, h3, h4⟩
  · exact Or.inl h
  · exact Or.inr ⟨a, q, d, h1, h2, hm a q d h3, h4⟩
theorem rA_mono {S : gs_S} {x y : Nat} {P L : Nat → Nat} {D D' : Nat → Nat → Option Nat} {N : Nat} (hm : ∀ h q d : Nat, D h q = some d → D' h q = some d) (h : r_A S x y P L D N) : r_A S x y P L D' N := by
  rcases h with h | ⟨a1, a2, a3, a4, a5, a6, a7, a8⟩
  · exact Or.inl h
  · refine Or.inr ⟨a1, a2, a3, a4, a5, a6, a7, fun i hi => ?_⟩
    rcases a8 i hi with b | ⟨b1, b2, b3⟩
    · exact Or.inl b
    · exact Or.inr ⟨b1, r_o_mono hm b2, b3⟩
def D_c (D : Nat → Nat → Option Nat) (c : Nat) : Nat → Nat → Option Nat := fun h q => if h = 0 ∧ q = 16 + c then some c else D h q
theorem D_cm {S : gs_S} {x y : Nat} {P L : Nat → Nat} {D : Nat → Nat → Option Nat} (hD : r_D S x y P L D) : ∀ h q d : Nat, D h q = some d → D_c D (m_cells S y) h q = some d := by
  intro h q d e
  unfold D_c
  rw [if_neg (fun z => ?_)]
  · exact e
  · rw [z.1, z.2, hD.1, if_neg (by omega)] at e
    cases e
theorem rD_cell {S S2 : gs_S} {x y : Nat} {P L : Nat → Nat} {D : Nat → Nat → Option Nat} {N : Nat} {v : Int64} (hc200 : m_cells S y < 200) (hL : r_L S x y P L N) (hA : r_A S x y P L D N) (hD : r_D S x y P L D) (e1 : m_cells S2 y = m_cells S y + 1) (e2 : m_active S2 y = m_active S y) (e3 : m_prepared S2 y = m_prepared S y) (e4 : m_used S2 y = m_used S y) (e5 : m_preparedAhead S2 y = m_preparedAhead S y) (e6 : m_usedAhead S2 y = m_usedAhead S y) (e7 : m_arguments S2 y = m_arguments S y) (e8 : m_manyFormals S2 y = m_manyFormals S y) (e9 : m_callOf S2 y = m_callOf S y) (e10 : m_placeOf S2 y = m_placeOf S y) (e11 : m_marks S2 y = m_marks S y) (e12 : m_baseOf S2 y = m_baseOf S y) (e13 : ∀ k : Nat, k < m_cells S y → m_owner S2 y k = m_owner S y k ∧ m_rank S2 y k = m_rank S y k) (e15 : m_owner S2 y (m_cells S y) = 0 ∨ m_active S y = 0) (e16 : ∀ d : Nat, m_memory S2 y d = if d = m_cells S y then v else m_memory S y d) (e17 : ∀ A q : Nat, g_al S2 9 A q = if A = v_a (g_r S 0 8 (L 0)) ∧ q = 16 + m_cells S y then v else g_al S 9 A q) (e18 : ∀ k a : Nat, g_r S2 0 k a = g_r S 0 k a) (e19 : ∀ a i : Nat, g_ar S2 6 a i = g_ar S 6 a i) (e20 : ∀ a i : Nat, g_ai S2 7 a i = g_ai S 7 a i) (e21 : ∀ a i : Nat, g_ai S2 8 a i = g_ai S 8 a i) (e22 : m_bytes S2 y = m_bytes S y) : r_D S2 x y P L (D_c D (m_cells S y)) := by
  have hm := D_cm hD
  have hN := fun {a q d : Nat} (e : D a q = some d) => D_N hL hD hA e
  obtain ⟨k1, k2, k3, k4, k5, k6, k7, k8, k9⟩ := id hD
  have eU : ∀ j : Nat, r_U S2 y j = r_U S y j := fun j => by unfold r_U; rw [e2, e3, e4, e5, e6]
  have hU := U_mono (fun j hj => (k6 j hj).1)
  have hDs : ∀ h q : Nat, h ≠ 0 → D_c D (m_cells S y) h q = D h q := fun h q z => by unfold D_c; rw [if_neg (fun w => z w.1)]
  have hD0 : ∀ q : Nat, D_c D (m_cells S y) 0 q = if 16 ≤ q ∧ q < 16 + (m_cells S y + 1) then some (q - 16) else none := by
    intro q
    unfold D_c
    by_cases c : q = 16 + m_cells S y
    · subst c
      rw [if_pos ⟨rfl, rfl⟩, if_pos ⟨by omega, by omega⟩, show 16 + m_cells S y - 16 = m_cells S y by omega]
    · rw [if_neg (fun w => c w.2), k1]
      by_cases c2 : 16 ≤ q ∧ q < 16 + m_cells S y
      · rw [if_pos c2, if_pos ⟨c2.1, by omega⟩]
      · rw [if_neg c2, if_neg (by omega)]
  refine ⟨fun q => by rw [e1]; exact hD0 q, fun h q d h1 e => ?_, fun h q q' d ea eb => ?_, fun h q d e => ?_, by rw [eU]; exact k5, fun j hj => ?_, by rw [e4, e7, eU, e2]; exact k7, fun j hj i hi => ?_, fun j hj hr k hk ho => ?_⟩
  · rw [hDs h q (by omega)] at e
    rw [e2, e3, eU, eU]
    exact k2 h q d h1 e
  · by_cases c : h = 0
    · subst c
      rw [hD0] at ea eb
      split at ea <;> split at eb
      · have := Option.some.inj ea; have := Option.some.inj eb; omega
      · cases eb
      · cases ea
      · cases ea
    · rw [hDs h q c] at ea
      rw [hDs h q' c] at eb
      exact k3 h q q' d ea eb
  · rw [e18, e17, e16]
    by_cases c : h = 0 ∧ q = 16 + m_cells S y
    · obtain ⟨rfl, rfl⟩ := c
      unfold D_c at e
      rw [if_pos ⟨rfl, rfl⟩] at e
      rw [if_pos ⟨rfl, rfl⟩, if_pos (Option.some.inj e).symm]
    · have e' : D h q = some d := by unfold D_c at e; rw [if_neg c] at e; exact e
      rw [if_neg (fun z => c ?_), if_neg (fun z => c ?_)]
      · exact k4 h q d e'
      · subst z
        by_cases c0 : h = 0
        · subst c0
          rw [k1] at e'
          split at e'
          · have := Option.some.inj e'; omega
          · cases e'
        · obtain ⟨f1, f2, f3, f4⟩ := k2 h q _ (by omega) e'
          have := hU (h - 1) 0 (by split at f1 <;> omega)
          rw [Nat.zero_add] at this
          omega
      · exact ⟨hL.2.2.2.2.2.2.2.1 h 0 (hN e') (Nat.zero_le _) (Or.inr ⟨8, by omega, by omega, z.1⟩), z.2⟩
  · rw [eU, eU, e1]
    rw [e2] at hj
    refine ⟨(k6 j hj).1, Nat.le_trans (k6 j hj).2 (Nat.add_le_add_left (Nat.mul_le_mul_left _ (by omega)) _)⟩
  · rw [e2] at hj
    rw [e9, e8] at hi
    rw [e18, e18, e18, e19, e20, e10, e21, e22, e9]
    exact ⟨r_o_mono hm (k8 j hj i hi).1, (k8 j hj i hi).2⟩
  · rw [e2] at hj
    rw [e9, e11] at hr
    rw [e9] at ho
    rw [e1] at hk
    by_cases c : k = m_cells S y
    · subst c
      rcases e15 with z | z
      · rw [z] at ho
        have := (hL.2.2.2.2.2.2.2.2.2.2.2.1 j hj).1
        omega
      · omega
    · rw [(e13 k (by omega)).1] at ho
      rw [(e13 k (by omega)).2, e12]
      exact hm _ _ _ (k9 j hj hr k (by omega) ho)
theorem ck_sp {S : gs_S} {y p : Nat} (hM : m_t S) (hY : g_sh S y = some (.inl 3)) (hp : p ≤ 60) : ∀ (k i acc : Nat), i + k ≤ 200 → f_ck S y (nI p) k i acc + cn_ (m_owner S y) p i = acc + cn_ (m_owner S y) p (i + k) := by
  intro k
  induction k with
  | zero => intro i acc _; rfl
  | succ k ih =>
    intro i acc hik
    have hb := b_owner hM hY (i := i) (by omega)
    have h1 := ih (i + 1) (if nI (m_owner S y i) = nI p then acc + 1 else acc) (by omega)
    rw [f_ck, show i + (k + 1) = i + 1 + k by omega]
    rw [cn_] at h1
    by_cases c : m_owner S y i = p
    · rw [if_pos (by rw [c])] at h1 ⊢
      rw [if_pos c] at h1
      omega
    · rw [if_neg (fun z => c ((nI_eq (by omega) (by omega)).mp z))] at h1 ⊢
      rw [if_neg c] at h1
      omega
