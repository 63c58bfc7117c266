/-! enter: what refuses; the class's copies -/
theorem and2 : ∀ w : Nat, w ≤ 3 → ((nI w &&& 2 = 0) ↔ ¬ 2 ≤ nI w) := by
  intro w h
  have : w = 0 ∨ w = 1 ∨ w = 2 ∨ w = 3 := by omega
  rcases this with rfl | rfl | rfl | rfl <;> decide
theorem odd2 : ∀ w : Nat, w ≤ 3 → ((nI w - nI w / 2 * 2 = 1) ↔ ¬ nI w &&& 1 = 0) := by
  intro w h
  have : w = 0 ∨ w = 1 ∨ w = 2 ∨ w = 3 := by omega
  rcases this with rfl | rfl | rfl | rfl <;> decide
theorem r1_1 {S : gs_S} {y p : Nat} : ∀ k i : Nat, f_r1 S y p k i 1 = 1 := by
  intro k
  induction k with
  | zero => intro i; rfl
  | succ k ih => intro i; rw [f_r1, if_neg (by decide)]; exact ih _
/-- is the argument there, as the class and as the reference have it -/
theorem r_here {S : gs_S} {x y : Nat} {P L : Nat → Nat} {D : Nat → Nat → Option Nat} {N : Nat} (hA : r_A S x y P L D N) (hpr : ¬ m_prepared S y = 0) (hcl : m_t S) (hY : g_sh S y = some (.inl 3)) (hD : r_D S x y P L D) {i : Nat} (hi : i < 16) : (g_ar S 6 (v_a (g_r S 0 5 (L (m_active S y + 1)))) i = none ∧ (m_arguments S y ≤ i ∨ m_argument S y i = -1)) ∨ (i < m_arguments S y ∧ ¬ m_argument S y i = -1 ∧ g_ai S 8 (v_a (g_r S 0 7 (L (m_active S y + 1)))) i = m_argumentBytes S y i ∧ ∃ h q d : Nat, g_ar S 6 (v_a (g_r S 0 5 (L (m_active S y + 1)))) i = some (L h) ∧ g_ai S 7 (v_a (g_r S 0 6 (L (m_active S y + 1)))) i = nI q ∧ D h q = some d ∧ m_argument S y i = nI d ∧ h ≤ m_active S y + 1 ∧ (h = m_active S y + 1 → q = i) ∧ d < 60000 ∧ q < 216) := by
  rcases hA with ⟨z, -⟩ | ⟨a1, a2, a3, a4, a5, a6, a7, a8⟩
  · exact absurd z hpr
  · rcases a8 i hi with w | ⟨w1, w2, w3⟩
    · exact Or.inl ⟨w.2, Or.inl w.1⟩
    · rcases w2 with w2 | ⟨h, q, d, f1, f2, f3, f4, f5, f6⟩
      · exact Or.inl ⟨w2.1, Or.inr w2.2⟩
      · obtain ⟨g1, g2⟩ := D_60 hcl hY hD f3
        have hne : ¬ m_argument S y i = -1 := by rw [f4]; exact nI_m1 (by omega)
        exact Or.inr ⟨w1, hne, w3 hne, h, q, d, f1, f2, f3, f4, f5, fun z => f6 i rfl z, g1, g2⟩
theorem r_fit1 {S : gs_S} {x y : Nat} {P L : Nat → Nat} {D : Nat → Nat → Option Nat} {N : Nat} (hA : r_A S x y P L D N) (hpr : ¬ m_prepared S y = 0) (hM : m_t S) (hY : g_sh S y = some (.inl 3)) (hD : r_D S x y P L D) (hP : r_P S x y P) {p : Nat} (p1 : 1 ≤ p) (p2 : p ≤ m_programs S y) : ∀ (k i : Nat), i + k = m_manyFormals S y p → (f_af S (v_a (g_r S 0 5 (L (m_active S y + 1)))) (v_a (g_r S 1 4 (P p))) k i = 1 ∧ f_r1 S y p k i 0 = 0) ∨ (f_af S (v_a (g_r S 0 5 (L (m_active S y + 1)))) (v_a (g_r S 1 4 (P p))) k i = 0 ∧ f_r1 S y p k i 0 = 1) := by
  have hn := b_programs hM hY
  have hmf := b_manyFormals hM hY (i := p) (by omega)
  have hag := b_arguments hM hY
  intro k
  induction k with
  | zero => intro i _; exact Or.inl ⟨rfl, rfl⟩
  | succ k ih =>
    intro i hik
    obtain ⟨e1, e2, ⟨w, w3, ew⟩, -⟩ := (hP.2.2 p p1 p2).2.2.2.2.2.2.2.2 i (by omega)
    rw [f_af, f_r1, if_pos rfl]
    have hhw : f_hw S y p i = if g_ai S 4 (v_a (g_r S 1 4 (P p))) i &&& 2 = 0 then 1 else 0 := by
      rw [f_hw, e1, ew]
      by_cases z : 2 ≤ nI w
      · rw [if_pos z, if_neg (fun u => (and2 w w3).mp u z)]
      · rw [if_neg z, if_pos ((and2 w w3).mpr z)]
    rcases r_here hA hpr hM hY hD (i := i) (by omega) with ⟨h1, h2⟩ | ⟨h1, h2, h3, h, q, d, h4, -⟩
    · rw [h1]
      simp only []
      have ebd : (if nI (m_arguments S y) ≤ nI i then f_hw S y p i else if m_argument S y i = -1 then f_hw S y p i else 0) = f_hw S y p i := by
        rcases h2 with h2 | h2
        · rw [if_pos ((nI_leI (by omega) (by omega)).mpr h2)]
        · rw [if_pos h2]; split <;> rfl
      rw [ebd, hhw]
      by_cases z : g_ai S 4 (v_a (g_r S 1 4 (P p))) i &&& 2 = 0
      · rw [if_pos z, if_pos z]; exact Or.inr ⟨rfl, r1_1 _ _⟩
      · rw [if_neg z, if_neg z]; exact ih (i + 1) (by omega)
    · rw [h4]
      simp only []
      rw [if_neg (fun z => by rw [nI_leI (by omega) (by omega)] at z; omega), if_neg h2]
      exact ih (i + 1) (by omega)
theorem r_suf1 {S : gs_S} {x y : Nat} {P L : Nat → Nat} {D : Nat → Nat → Option Nat} {N : Nat} (hA : r_A S x y P L D N) (hpr : ¬ m_prepared S y = 0) (hM : m_t S) (hY : g_sh S y = some (.inl 3)) (hD : r_D S x y P L D) (hP : r_P S x y P) {p : Nat} (p1 : 1 ≤ p) (p2 : p ≤ m_programs S y) (ham : m_arguments S y ≤ m_manyFormals S y p) : ∀ (k i : Nat), i + k = m_manyFormals S y p → (f_bs S (v_a (g_r S 0 5 (L (m_active S y + 1)))) (v_a (g_r S 0 7 (L (m_active S y + 1)))) (v_a (g_r S 1 5 (P p))) k i = 1 ∧ f_r2 S y p (m_arguments S y - i) i = 1) ∨ (f_bs S (v_a (g_r S 0 5 (L (m_active S y + 1)))) (v_a (g_r S 0 7 (L (m_active S y + 1)))) (v_a (g_r S 1 5 (P p))) k i = 0 ∧ f_r2 S y p (m_arguments S y - i) i = -8) := by
  have hn := b_programs hM hY
  have hmf := b_manyFormals hM hY (i := p) (by omega)
  intro k
  induction k with
  | zero => intro i hi; left; rw [show m_arguments S y - i = 0 by omega]; exact ⟨rfl, rfl⟩
  | succ k ih =>
    intro i hik
    obtain ⟨e1, e2, -, w, w1, w8, ew⟩ := (hP.2.2 p p1 p2).2.2.2.2.2.2.2.2 i (by omega)
    have hih := ih (i + 1) (by omega)
    rw [f_bs]
    by_cases z : i < m_arguments S y
    · rw [show m_arguments S y - i = (m_arguments S y - (i + 1)) + 1 by omega, f_r2]
      rcases r_here hA hpr hM hY hD (i := i) (by omega) with ⟨h1, h2⟩ | ⟨h1, h2, h3, h, q, d, h4, -⟩
      · have hm1 : m_argument S y i = -1 := by
          rcases h2 with h2 | h2
          · omega
          · exact h2
        rw [h1]
        simp only []
        rw [if_pos hm1]
        exact hih
      · rw [h4, if_neg h2]
        simp only []
        rw [e2, h3]
        by_cases u : m_bytes S y (16 * (p - 1) + i) ≤ m_argumentBytes S y i
        · rw [if_pos u, if_pos u]; exact hih
        · rw [if_neg u, if_neg u]; exact Or.inr ⟨rfl, rfl⟩
    · rw [show m_arguments S y - i = 0 by omega]
      rw [show m_arguments S y - (i + 1) = 0 by omega] at hih
      rcases r_here hA hpr hM hY hD (i := i) (by omega) with ⟨h1, h2⟩ | ⟨h1, -⟩
      · rw [h1]
        rcases hih with ⟨u1, u2⟩ | ⟨u1, u2⟩
        · exact Or.inl ⟨u1, rfl⟩
        · exact absurd (show f_r2 S y p 0 (i + 1) = 1 from rfl) (by rw [u2]; decide)
      · omega
/-- copied by value -/
def kb (S : gs_S) (y p m : Nat) : Bool := decide (m < m_arguments S y) && !decide (m_argument S y m = -1) && !decide (m_how S y (16 * (p - 1) + m) &&& 1 = 0)
theorem kb_t {S : gs_S} {y p m : Nat} : kb S y p m = true ↔ (m < m_arguments S y ∧ ¬ m_argument S y m = -1) ∧ ¬ m_how S y (16 * (p - 1) + m) &&& 1 = 0 := by
  unfold kb
  simp
def cv_ (S T : gs_S) (y hu pu vu bu fb lv p i : Nat) : Prop := (∀ a : Nat, g_sh T a = g_sh S a) ∧ (∀ c k a : Nat, ¬ (c = 2 ∧ k = 10) → g_r T c k a = g_r S c k a) ∧ (∀ c k a : Nat, g_l T c k a = g_l S c k a) ∧ (∀ c k a : Nat, g_i T c k a = g_i S c k a) ∧ (∀ r a j : Nat, ¬ ((r = 7 ∧ a = pu) ∨ (r = 8 ∧ a = bu)) → g_ai T r a j = g_ai S r a j) ∧ (∀ r a j : Nat, ¬ (r = 6 ∧ a = hu) → g_ar T r a j = g_ar S r a j) ∧ (∀ r a j : Nat, ¬ (r = 9 ∧ a = vu ∧ j < 16) → g_al T r a j = g_al S r a j) ∧ (∀ m : Nat, m < 16 → g_ar T 6 hu m = if m < i ∧ kb S y p m = true then some lv else g_ar S 6 hu m) ∧ (∀ m : Nat, m < 16 → g_ai T 7 pu m = if m < i ∧ kb S y p m = true then nI m else g_ai S 7 pu m) ∧ (∀ m : Nat, m < 16 → g_al T 9 vu m = if m < i ∧ kb S y p m = true then m_memory S y (m_argument S y m).toNatClampNeg else g_al S 9 vu m) ∧ ∀ m : Nat, m < i → g_ai T 8 bu m = g_ai S 5 fb m
theorem if_lt {α : Type} {i m : Nat} {b : Bool} {u v : α} (h : ¬ (m = i ∧ b = true)) : (if m < i + 1 ∧ b = true then u else v) = if m < i ∧ b = true then u else v := by
  by_cases z : m < i ∧ b = true
  · rw [if_pos z, if_pos ⟨by omega, z.2⟩]
  · rw [if_neg z, if_neg (fun w => by
      rcases Nat.lt_or_ge m i with q | q
      · exact z ⟨q, w.2⟩
      · exact h ⟨by omega, w.2⟩)]
set_option maxHeartbeats 4000000 in
theorem cv_loop {S : gs_S} {x y : Nat} {P L : Nat → Nat} {D : Nat → Nat → Option Nat} {N : Nat} (hA : r_A S x y P L D N) (hpr : ¬ m_prepared S y = 0) (hM : m_t S) (hY : g_sh S y = some (.inl 3)) (hL : r_L S x y P L N) (hD : r_D S x y P L D) (hP : r_P S x y P) {p : Nat} (p1 : 1 ≤ p) (p2 : p ≤ m_programs S y) : ∀ (k i : Nat) (T : gs_S), i + k = m_manyFormals S y p → cv_ S T y (v_a (g_r S 0 5 (L (m_active S y + 1)))) (v_a (g_r S 0 6 (L (m_active S y + 1)))) (v_a (g_r S 0 8 (L (m_active S y + 1)))) (v_a (g_r S 0 7 (L (m_active S y + 1)))) (v_a (g_r S 1 5 (P p))) (L (m_active S y + 1)) p i → cv_ S (f_cv (L (m_active S y + 1)) (v_a (g_r S 1 4 (P p))) (v_a (g_r S 0 7 (L (m_active S y + 1)))) (v_a (g_r S 1 5 (P p))) k i T) y (v_a (g_r S 0 5 (L (m_active S y + 1)))) (v_a (g_r S 0 6 (L (m_active S y + 1)))) (v_a (g_r S 0 8 (L (m_active S y + 1)))) (v_a (g_r S 0 7 (L (m_active S y + 1)))) (v_a (g_r S 1 5 (P p))) (L (m_active S y + 1)) p (i + k) := by
  have hn := b_programs hM hY
  have hmf := b_manyFormals hM hY (i := p) (by omega)
  have hN : m_active S y + 1 ≤ N := by
    rcases id hA with ⟨z, -⟩ | ⟨-, -, z, -⟩
    · exact absurd z hpr
    · exact z
  intro k
  induction k with
  | zero => intro i T _ h; exact h
  | succ k ih =>
    intro i T hik h
    obtain ⟨e1, -, ⟨w, w3, ew⟩, -⟩ := (hP.2.2 p p1 p2).2.2.2.2.2.2.2.2 i (by omega)
    rw [f_cv]
    have h1 : cv_ S (p_ai T 8 (v_a (g_r S 0 7 (L (m_active S y + 1)))) i (g_ai T 5 (v_a (g_r S 1 5 (P p))) i)) y (v_a (g_r S 0 5 (L (m_active S y + 1)))) (v_a (g_r S 0 6 (L (m_active S y + 1)))) (v_a (g_r S 0 8 (L (m_active S y + 1)))) (v_a (g_r S 0 7 (L (m_active S y + 1)))) (v_a (g_r S 1 5 (P p))) (L (m_active S y + 1)) p i ∧ ∀ m : Nat, m < i + 1 → g_ai (p_ai T 8 (v_a (g_r S 0 7 (L (m_active S y + 1)))) i (g_ai T 5 (v_a (g_r S 1 5 (P p))) i)) 8 (v_a (g_r S 0 7 (L (m_active S y + 1)))) m = g_ai S 5 (v_a (g_r S 1 5 (P p))) m := by
      obtain ⟨g1, g2, g3, g4, g5, g6, g7, g8, g9, g10, g11⟩ := h
      have hb : ∀ m : Nat, m < i + 1 → g_ai (p_ai T 8 (v_a (g_r S 0 7 (L (m_active S y + 1)))) i (g_ai T 5 (v_a (g_r S 1 5 (P p))) i)) 8 (v_a (g_r S 0 7 (L (m_active S y + 1)))) m = g_ai S 5 (v_a (g_r S 1 5 (P p))) m := fun m hm => by
        rw [rd_ai]
        by_cases z : m = i
        · rw [if_pos z, z]; exact g5 5 _ _ (by omega)
        · rw [if_neg z]; exact g11 m (by omega)
      exact ⟨⟨g1, g2, g3, g4, fun r a j z => by rw [x_g_ai_p_ai, if_neg (fun u => z (Or.inr ⟨u.1, u.2.1⟩))]; exact g5 r a j z, g6, g7, g8, fun m hm => by rw [x_g_ai_p_ai, if_neg (by omega)]; exact g9 m hm, g10, fun m hm => hb m (by omega)⟩, hb⟩
    clear h
    generalize p_ai T 8 (v_a (g_r S 0 7 (L (m_active S y + 1)))) i (g_ai T 5 (v_a (g_r S 1 5 (P p))) i) = T at h1 ⊢
    obtain ⟨⟨g1, g2, g3, g4, g5, g6, g7, g8, g9, g10, -⟩, g11⟩ := h1
    rw [show i + (k + 1) = i + 1 + k by omega, g5 4 _ _ (by omega), e1]
    refine ih (i + 1) _ (by omega) ?_
    have skip : ¬ kb S y p i = true → cv_ S T y (v_a (g_r S 0 5 (L (m_active S y + 1)))) (v_a (g_r S 0 6 (L (m_active S y + 1)))) (v_a (g_r S 0 8 (L (m_active S y + 1)))) (v_a (g_r S 0 7 (L (m_active S y + 1)))) (v_a (g_r S 1 5 (P p))) (L (m_active S y + 1)) p (i + 1) := fun hk => by
      refine ⟨g1, g2, g3, g4, g5, g6, g7, fun m hm => ?_, fun m hm => ?_, fun m hm => ?_, g11⟩
      · rw [if_lt (fun z => hk (by rw [← z.1]; exact z.2))]; exact g8 m hm
      · rw [if_lt (fun z => hk (by rw [← z.1]; exact z.2))]; exact g9 m hm
      · rw [if_lt (fun z => hk (by rw [← z.1]; exact z.2))]; exact g10 m hm
    by_cases c : m_how S y (16 * (p - 1) + i) &&& 1 = 0
    · rw [if_pos c]
      exact skip (fun z => (kb_t.mp z).2 c)
    · rw [if_neg c]
      unfold f_copy
      rw [g2 0 5 _ (by omega), g2 0 6 _ (by omega), g2 0 8 _ (by omega), g8 i (by omega), if_neg (by omega), g9 i (by omega), if_neg (by omega)]
      rcases r_here hA hpr hM hY hD (i := i) (by omega) with ⟨h1, h2⟩ | ⟨h1, h2, h3, hh, q, d, h4, h5, h6, h7, h8, h9, h10, h11⟩
      · rw [h1]
        exact skip (fun z => by
          have := (kb_t.mp z).1
          rcases h2 with h2 | h2
          · omega
          · exact this.2 h2)
      · rw [h4]
        simp only []
        have hkt : kb S y p i = true := kb_t.mpr ⟨⟨h1, h2⟩, c⟩
        have hv : g_al T 9 (v_a (g_r T 0 8 (L hh))) (g_ai S 7 (v_a (g_r S 0 6 (L (m_active S y + 1)))) i).toNatClampNeg = m_memory S y (m_argument S y i).toNatClampNeg := by
          rw [g2 0 8 _ (by omega), h5, h7, nI_clamp (by omega), nI_clamp (by omega), ← hD.2.2.2.1 hh q d h6]
          by_cases z : hh = m_active S y + 1
          · have hqi := h9 z
            subst hqi
            rw [z, g10 q (by omega), if_neg (by omega)]
          · exact g7 _ _ _ (fun u => z (hL.2.2.2.2.2.2.2.1 hh _ (by omega) hN (Or.inr ⟨8, by omega, by omega, u.2.1⟩)))
        rw [hv]
        refine ⟨g1, g2, g3, g4, fun r a j z => ?_, fun r a j z => ?_, fun r a j z => ?_, fun m hm => ?_, fun m hm => ?_, fun m hm => ?_, fun m hm => by rw [x_g_ai_p_ai, if_neg (by omega)]; exact g11 m hm⟩
        · rw [x_g_ai_p_ai, if_neg (fun u => z (Or.inl ⟨u.1, u.2.1⟩))]; exact g5 r a j z
        · rw [x_g_ar_p_ai, x_g_ar_p_ar, if_neg (fun u => z ⟨u.1, u.2.1⟩)]; exact g6 r a j z
        · rw [x_g_al_p_ai, x_g_al_p_ar, x_g_al_p_al, if_neg (fun u => z ⟨u.1, u.2.1, by omega⟩)]; exact g7 r a j z
        · rw [x_g_ar_p_ai, rd_ar]
          by_cases z : m = i
          · subst z; rw [if_pos rfl, if_pos ⟨by omega, hkt⟩]
          · rw [if_neg z, if_lt (fun u => z u.1)]; exact g8 m hm
        · rw [rd_ai]
          by_cases z : m = i
          · subst z; rw [if_pos rfl, if_pos ⟨by omega, hkt⟩]
          · rw [if_neg z, if_lt (fun u => z u.1)]; exact g9 m hm
        · rw [x_g_al_p_ai, x_g_al_p_ar, rd_al]
          by_cases z : m = i
          · subst z; rw [if_pos rfl, if_pos ⟨by omega, hkt⟩]
          · rw [if_neg z, if_lt (fun u => z u.1)]; exact g10 m hm
