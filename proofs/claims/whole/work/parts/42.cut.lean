/-! nothing prepared any more; calls that end: the memory is cut -/
theorem un_i (V : gs_S) (y c k a : Nat) : g_i (f_un V y) c k a = if c = 3 ∧ k = 24 ∧ a = y then 0 else if c = 3 ∧ k = 23 ∧ a = y then 0 else if c = 3 ∧ k = 17 ∧ a = y then (if m_prepared V y = 0 then g_i V 3 17 y else nI (m_preparedAhead V y)) else g_i V c k a := by
  unfold f_un
  by_cases hp : m_prepared V y = 0
  · rw [if_pos hp, if_pos hp, x_g_i_p_i, x_g_i_p_i]
    by_cases z : c = 3 ∧ k = 17 ∧ a = y
    · obtain ⟨rfl, rfl, rfl⟩ := z
      simp
    · rw [if_neg z]
  · rw [if_neg hp, if_neg hp, x_g_i_p_i, x_g_i_p_i, x_g_i_p_i]
theorem un_r (V : gs_S) (y c k a : Nat) : g_r (f_un V y) c k a = g_r V c k a := by unfold f_un; split <;> rfl
theorem un_l (V : gs_S) (y c k a : Nat) : g_l (f_un V y) c k a = g_l V c k a := by unfold f_un; split <;> rfl
theorem un_ai (V : gs_S) (y r a j : Nat) : g_ai (f_un V y) r a j = g_ai V r a j := by unfold f_un; split <;> rfl
theorem un_al (V : gs_S) (y r a j : Nat) : g_al (f_un V y) r a j = g_al V r a j := by unfold f_un; split <;> rfl
theorem un_ar (V : gs_S) (y r a j : Nat) : g_ar (f_un V y) r a j = g_ar V r a j := by unfold f_un; split <;> rfl
theorem un_sh (V : gs_S) (y a : Nat) : g_sh (f_un V y) a = g_sh V a := by unfold f_un; split <;> rfl
theorem nul_i (V : gs_S) (h n c k a : Nat) : g_i (f_nul V h n) c k a = g_i V c k a := by induction n with
  | zero => rfl
  | succ n ih => exact ih
theorem nul_r (V : gs_S) (h n c k a : Nat) : g_r (f_nul V h n) c k a = g_r V c k a := by induction n with
  | zero => rfl
  | succ n ih => exact ih
theorem nul_l (V : gs_S) (h n c k a : Nat) : g_l (f_nul V h n) c k a = g_l V c k a := by induction n with
  | zero => rfl
  | succ n ih => exact ih
theorem nul_ai (V : gs_S) (h n c k a : Nat) : g_ai (f_nul V h n) c k a = g_ai V c k a := by induction n with
  | zero => rfl
  | succ n ih => exact ih
theorem nul_al (V : gs_S) (h n c k a : Nat) : g_al (f_nul V h n) c k a = g_al V c k a := by induction n with
  | zero => rfl
  | succ n ih => exact ih
theorem nul_sh (V : gs_S) (h n a : Nat) : g_sh (f_nul V h n) a = g_sh V a := by induction n with
  | zero => rfl
  | succ n ih => exact ih
theorem nul_ar (V : gs_S) (h n r a i : Nat) : g_ar (f_nul V h n) r a i = if r = 6 ∧ a = h ∧ i < n then none else g_ar V r a i := by induction n with
  | zero => rw [if_neg (by omega)]; rfl
  | succ n ih =>
    rw [f_nul, x_g_ar_p_ar, ih]
    by_cases z : r = 6 ∧ a = h ∧ i < n + 1
    · rw [if_pos z]
      by_cases w : i = n
      · rw [if_pos ⟨z.1, z.2.1, w⟩]
      · rw [if_neg (fun q => w q.2.2), if_pos ⟨z.1, z.2.1, by omega⟩]
    · rw [if_neg z, if_neg (fun q => z ⟨q.1, q.2.1, by omega⟩), if_neg (fun q => z ⟨q.1, q.2.1, by omega⟩)]
def D_k (D : Nat → Nat → Option Nat) (m : Nat) : Nat → Nat → Option Nat := fun h q => if h ≤ m then D h q else none
theorem D_ks {D : Nat → Nat → Option Nat} {m h q d : Nat} (e : D_k D m h q = some d) : h ≤ m ∧ D h q = some d := by
  unfold D_k at e
  split at e
  · exact ⟨by assumption, e⟩
  · cases e
theorem D_kl {D : Nat → Nat → Option Nat} {m h q : Nat} (e : h ≤ m) : D_k D m h q = D h q := if_pos e
theorem rD_cut {S S2 : gs_S} {x y : Nat} {P L : Nat → Nat} {D : Nat → Nat → Option Nat} {m : Nat} (hm : m ≤ m_active S y) (hD : r_D S x y P L D) (e1 : m_cells S2 y = m_cells S y) (e2 : m_active S2 y = m) (e3 : m_arguments S2 y = 0) (e4 : m_used S2 y = r_U S y m) (eU : ∀ j : Nat, r_U S2 y j = if j ≤ m then r_U S y j else r_U S y m) (e8 : m_manyFormals S2 y = m_manyFormals S y) (e9 : ∀ j : Nat, j < m → m_callOf S2 y j = m_callOf S y j) (e10 : m_placeOf S2 y = m_placeOf S y) (e11 : m_marks S2 y = m_marks S y) (e12 : m_baseOf S2 y = m_baseOf S y) (e13 : m_owner S2 y = m_owner S y) (e14 : m_rank S2 y = m_rank S y) (e16 : m_memory S2 y = m_memory S y) (e17 : ∀ A q : Nat, g_al S2 9 A q = g_al S 9 A q) (e18 : ∀ k a : Nat, 5 ≤ k → g_r S2 0 k a = g_r S 0 k a) (e19 : ∀ j : Nat, j < m → ∀ i : Nat, g_ar S2 6 (v_a (g_r S 0 5 (L (j + 1)))) i = g_ar S 6 (v_a (g_r S 0 5 (L (j + 1)))) i) (e20 : ∀ a i : Nat, g_ai S2 7 a i = g_ai S 7 a i) (e21 : ∀ a i : Nat, g_ai S2 8 a i = g_ai S 8 a i) (e22 : m_bytes S2 y = m_bytes S y) : r_D S2 x y P L (D_k D m) := by
  obtain ⟨k1, k2, k3, k4, k5, k6, k7, k8, k9⟩ := id hD
  refine ⟨fun q => by rw [D_kl (Nat.zero_le _), e1]; exact k1 q, fun h q d h1 e => ?_, fun h q q' d ea eb => k3 h q q' d (D_ks ea).2 (D_ks eb).2, fun h q d e => ?_, by rw [eU, if_pos (Nat.zero_le _)]; exact k5, fun j hj => ?_, by rw [e4, e3, eU, e2, if_pos (Nat.le_refl _)]; omega, fun j hj i hi => ?_, fun j hj hr k hk ho => ?_⟩
  · obtain ⟨f1, f2⟩ := D_ks e
    obtain ⟨g1, g2, g3, g4⟩ := k2 h q d h1 f2
    rw [show r_U S2 y (h - 1) = r_U S y (h - 1) from by rw [eU, if_pos (by omega)], show r_U S2 y h = r_U S y h from by rw [eU, if_pos f1], e2]
    exact ⟨by omega, g2, g3, g4⟩
  · rw [e18 8 _ (by omega), e17, e16]
    exact k4 h q d (D_ks e).2
  · rw [e2] at hj
    obtain ⟨g1, g2⟩ := k6 j (by omega)
    rw [eU, eU, if_pos hj, e1]
    refine ⟨?_, g2⟩
    split
    · exact g1
    · rw [show j = m by omega]; exact Nat.le_refl _
  · rw [e2] at hj
    rw [e9 j hj, e8] at hi
    rw [e18 5 _ (by omega), e18 6 _ (by omega), e18 7 _ (by omega), e19 j hj, e20, e10, e21, e22, e9 j hj]
    refine ⟨?_, (k8 j (by omega) i hi).2⟩
    rcases (k8 j (by omega) i hi).1 with z | ⟨h, q, d, f1, f2, f3, f4, f5, f6⟩
    · exact Or.inl z
    · exact Or.inr ⟨h, q, d, f1, f2, by rw [D_kl (by omega)]; exact f3, f4, f5, f6⟩
  · rw [e2] at hj
    rw [e9 j hj, e11] at hr
    rw [e9 j hj, e13] at ho
    rw [e1] at hk
    rw [e12, e14, D_kl (by omega)]
    exact k9 j (by omega) hr k hk ho
