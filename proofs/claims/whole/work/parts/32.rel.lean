/-! CLASS AND REFERENCE TOGETHER -/
/-- a program's number as the class's reference -/
def p_f (P : Nat → Nat) (i : Nat) : Option Nat := if i = 0 then none else some (P i)
/-- the last place (and one) below k at which f is p; 0: none -/
def la_ (f : Nat → Nat) (p : Nat) : Nat → Nat
  | 0 => 0
  | k + 1 => if f k = p then k + 1 else la_ f p k
/-- how often f is p below k -/
def cn_ (f : Nat → Nat) (p : Nat) : Nat → Nat
  | 0 => 0
  | k + 1 => cn_ f p k + (if f k = p then 1 else 0)
theorem p_f0 (P : Nat → Nat) : p_f P 0 = none := rfl
theorem p_fs (P : Nat → Nat) {i : Nat} (h : i ≠ 0) : p_f P i = some (P i) := if_neg h
theorem p_f1 (P : Nat → Nat) {i : Nat} (h : 1 ≤ i) : p_f P i = some (P i) := if_neg (by omega)
theorem la_le (f : Nat → Nat) (p : Nat) : ∀ k, la_ f p k ≤ k := by
  intro k
  induction k with
  | zero => exact Nat.le_refl _
  | succ k ih => unfold la_; split <;> omega
theorem la_at (f : Nat → Nat) (p : Nat) : ∀ k, la_ f p k ≠ 0 → f (la_ f p k - 1) = p ∧ 1 ≤ la_ f p k := by
  intro k
  induction k with
  | zero => intro h; exact absurd rfl h
  | succ k ih =>
    intro h
    unfold la_ at h ⊢
    split
    · rename_i c; exact ⟨c, by omega⟩
    · rename_i c; rw [if_neg c] at h; exact ih h
theorem la_no (f : Nat → Nat) (p : Nat) : ∀ k, la_ f p k = 0 → ∀ j, j < k → f j ≠ p := by
  intro k
  induction k with
  | zero => intro _ j hj; omega
  | succ k ih =>
    intro h j hj
    unfold la_ at h
    split at h
    · omega
    · rename_i c
      by_cases e : j = k
      · subst e; exact c
      · exact ih h j (by omega)
theorem la_cn (f : Nat → Nat) (p : Nat) : ∀ k, la_ f p k = 0 ↔ cn_ f p k = 0 := by
  intro k
  induction k with
  | zero => exact ⟨fun _ => rfl, fun _ => rfl⟩
  | succ k ih =>
    unfold la_ cn_
    split
    · constructor <;> intro h <;> omega
    · rw [ih]; simp
theorem cn_le (f : Nat → Nat) (p : Nat) : ∀ k, cn_ f p k ≤ k := by
  intro k
  induction k with
  | zero => exact Nat.le_refl _
  | succ k ih => unfold cn_; split <;> omega
theorem la_cg {f g : Nat → Nat} {p : Nat} : ∀ {k : Nat}, (∀ j, j < k → f j = g j) → la_ f p k = la_ g p k := by
  intro k
  induction k with
  | zero => intro _; rfl
  | succ k ih => intro h; unfold la_; rw [h k (by omega), ih (fun j hj => h j (by omega))]
theorem cn_cg {f g : Nat → Nat} {p : Nat} : ∀ {k : Nat}, (∀ j, j < k → f j = g j) → cn_ f p k = cn_ g p k := by
  intro k
  induction k with
  | zero => intro _; rfl
  | succ k ih => intro h; unfold cn_; rw [h k (by omega), ih (fun j hj => h j (by omega))]
/-- the programs -/
def r_P (S : gs_S) (x y : Nat) (P : Nat → Nat) : Prop :=
  g_i S 2 2 x = nI (m_programs S y) ∧ (∀ i j : Nat, 1 ≤ i → i ≤ m_programs S y → 1 ≤ j → j ≤ m_programs S y → (m_within S y i = m_within S y j ∧ m_names S y i = m_names S y j) ∨ (∃ k : Nat, 4 ≤ k ∧ k ≤ 5 ∧ v_a (g_r S 1 k (P i)) = v_a (g_r S 1 k (P j))) → i = j) ∧
  ∀ i : Nat, 1 ≤ i → i ≤ m_programs S y →
    g_ar S 0 (v_a (g_r S 2 1 x)) i = some (P i) ∧ g_sh S (P i) = some (.inl 1) ∧ g_i S 1 1 (P i) = nI i ∧ m_within S y i < i ∧ g_r S 1 0 (P i) = p_f P (m_within S y i) ∧
    g_i S 1 2 (P i) = m_names S y i ∧ g_i S 1 3 (P i) = m_marks S y i ∧ g_i S 1 6 (P i) = nI (m_manyFormals S y i) ∧
    ∀ j : Nat, j < m_manyFormals S y i → g_ai S 4 (v_a (g_r S 1 4 (P i))) j = m_how S y (16 * (i - 1) + j) ∧ g_ai S 5 (v_a (g_r S 1 5 (P i))) j = m_bytes S y (16 * (i - 1) + j) ∧ (∃ w : Nat, w ≤ 3 ∧ m_how S y (16 * (i - 1) + j) = nI w) ∧ ∃ w : Nat, 1 ≤ w ∧ w ≤ 8 ∧ m_bytes S y (16 * (i - 1) + j) = nI w
/-- the cells -/
def r_C (S : gs_S) (x y : Nat) (P : Nat → Nat) : Prop :=
  g_i S 2 5 x = nI (m_cells S y) ∧ (∀ k : Nat, k < m_cells S y → m_owner S y k ≤ m_programs S y ∧ g_ar S 1 (v_a (g_r S 2 3 x)) k = p_f P (m_owner S y k) ∧ (m_owner S y k ≠ 0 → g_al S 2 (v_a (g_r S 2 4 x)) k = m_first S y k ∧ m_rank S y k = cn_ (m_owner S y) (m_owner S y k) k)) ∧
  (∀ nm : Nat, nm < 100 → (∃ k : Nat, k < m_cells S y ∧ m_owner S y k = 0 ∧ m_external S y k = nI nm ∧ (∀ j : Nat, j < k → ¬ (m_owner S y j = 0 ∧ m_external S y j = nI nm)) ∧ g_ai S 3 (v_a (g_r S 2 6 x)) nm = nI k) ∨ ((∀ j : Nat, j < m_cells S y → ¬ (m_owner S y j = 0 ∧ m_external S y j = nI nm)) ∧ g_ai S 3 (v_a (g_r S 2 6 x)) nm = -1)) ∧ ∀ i : Nat, m_programs S y < i → i < 61 → m_activeTimes S y i = 0 ∧ m_data S y i = 0 ∧ m_manyFormals S y i = 0
/-- the levels -/
def r_L (S : gs_S) (x y : Nat) (P L : Nat → Nat) (N : Nat) : Prop :=
  g_r S 2 7 x = some (L 0) ∧ g_r S 2 8 x = some (L (m_active S y)) ∧ g_i S 2 9 x = nI (m_active S y) ∧ m_active S y ≤ N ∧ g_i S 2 0 x = g_i S 3 1 y ∧ g_l S 2 11 x = g_l S 3 28 y ∧
  (∀ j : Nat, j ≤ N → g_sh S (L j) = some (.inl 0)) ∧ (∀ i j : Nat, i ≤ N → j ≤ N → L i = L j ∨ (∃ k : Nat, 5 ≤ k ∧ k ≤ 8 ∧ v_a (g_r S 0 k (L i)) = v_a (g_r S 0 k (L j))) → i = j) ∧ (∀ j : Nat, j < N → g_r S 0 1 (L j) = some (L (j + 1)) ∧ g_r S 0 0 (L (j + 1)) = some (L j)) ∧ g_r S 0 1 (L N) = none ∧ g_r S 0 2 (L 0) = none ∧
  (∀ j : Nat, j < m_active S y → 1 ≤ m_callOf S y j ∧ m_callOf S y j ≤ m_programs S y ∧ g_r S 0 2 (L (j + 1)) = some (P (m_callOf S y j)) ∧ g_r S 0 3 (L (j + 1)) = p_f L (la_ (m_callOf S y) (m_callOf S y j) j)) ∧
  ∀ i : Nat, 1 ≤ i → i ≤ m_programs S y → g_r S 1 8 (P i) = p_f L (la_ (m_callOf S y) i (m_active S y)) ∧ m_activeTimes S y i = nI (cn_ (m_callOf S y) i (m_active S y)) ∧ (la_ (m_callOf S y) i (m_active S y) = 0 → m_data S y i = g_i S 1 7 (P i)) ∧ (m_marks S y i &&& 4 = 0 → cn_ (m_callOf S y) i (m_active S y) ≤ 1 ∧ (la_ (m_callOf S y) i (m_active S y) ≠ 0 → m_data S y i = 1))
/-- where a level's memory begins -/
def r_U (S : gs_S) (y j : Nat) : Nat := if j < m_active S y then m_usedAhead S y j else if j = m_active S y then (if m_prepared S y = 0 then m_used S y else m_preparedAhead S y) else m_used S y
/-- an argument or formal: the class's holder and place, the reference's place -/
def r_o (L : Nat → Nat) (D : Nat → Nat → Option Nat) (h0 : Nat) (own : Option Nat) (ho : Option Nat) (pl v : Int32) : Prop := (ho = none ∧ v = -1) ∨ ∃ h q d : Nat, ho = some (L h) ∧ pl = nI q ∧ D h q = some d ∧ v = nI d ∧ h ≤ h0 ∧ ∀ i : Nat, own = some i → h = h0 → q = i
/-- the values -/
def r_D (S : gs_S) (x y : Nat) (P L : Nat → Nat) (D : Nat → Nat → Option Nat) : Prop :=
  (∀ q : Nat, D 0 q = if 16 ≤ q ∧ q < 16 + m_cells S y then some (q - 16) else none) ∧
  (∀ h q d : Nat, 1 ≤ h → D h q = some d → h ≤ m_active S y + (if m_prepared S y = 0 then 0 else 1) ∧ q < 216 ∧ r_U S y (h - 1) ≤ d ∧ d < r_U S y h) ∧
  (∀ h q q' d : Nat, D h q = some d → D h q' = some d → q = q') ∧
  (∀ h q d : Nat, D h q = some d → g_al S 9 (v_a (g_r S 0 8 (L h))) q = m_memory S y d) ∧
  200 ≤ r_U S y 0 ∧ (∀ j : Nat, j ≤ m_active S y → r_U S y j ≤ r_U S y (j + 1) ∧ r_U S y j ≤ 200 + j * (32 + m_cells S y)) ∧ m_used S y ≤ r_U S y (m_active S y) + m_arguments S y ∧
  (∀ j : Nat, j < m_active S y → ∀ i : Nat, i < m_manyFormals S y (m_callOf S y j) → r_o L D (j + 1) none (g_ar S 6 (v_a (g_r S 0 5 (L (j + 1)))) i) (g_ai S 7 (v_a (g_r S 0 6 (L (j + 1)))) i) (m_placeOf S y (16 * j + i)) ∧ g_ai S 8 (v_a (g_r S 0 7 (L (j + 1)))) i = m_bytes S y (16 * (m_callOf S y j - 1) + i)) ∧
  ∀ j : Nat, j < m_active S y → ¬ m_marks S y (m_callOf S y j) &&& 4 = 0 → ∀ k : Nat, k < m_cells S y → m_owner S y k = m_callOf S y j → D (j + 1) (16 + k) = some (m_baseOf S y j + m_rank S y k)
/-- what is prepared -/
def r_A (S : gs_S) (x y : Nat) (P L : Nat → Nat) (D : Nat → Nat → Option Nat) (N : Nat) : Prop :=
  (m_prepared S y = 0 ∧ g_r S 2 10 x = none ∧ m_arguments S y = 0) ∨
  (1 ≤ m_prepared S y ∧ m_prepared S y ≤ m_programs S y ∧ m_active S y + 1 ≤ N ∧ g_r S 2 10 x = some (L (m_active S y + 1)) ∧ g_r S 0 2 (L (m_active S y + 1)) = some (P (m_prepared S y)) ∧ g_i S 0 4 (L (m_active S y + 1)) = nI (m_arguments S y) ∧ (m_marks S y (m_prepared S y) &&& 4 = 0 → cn_ (m_callOf S y) (m_prepared S y) (m_active S y) = 0) ∧
    ∀ i : Nat, i < 16 → (m_arguments S y ≤ i ∧ g_ar S 6 (v_a (g_r S 0 5 (L (m_active S y + 1)))) i = none) ∨ (i < m_arguments S y ∧ r_o L D (m_active S y + 1) (some i) (g_ar S 6 (v_a (g_r S 0 5 (L (m_active S y + 1)))) i) (g_ai S 7 (v_a (g_r S 0 6 (L (m_active S y + 1)))) i) (m_argument S y i) ∧ (¬ m_argument S y i = -1 → g_ai S 8 (v_a (g_r S 0 7 (L (m_active S y + 1)))) i = m_argumentBytes S y i)))
def r_R (S : gs_S) (x y t : Nat) (P L : Nat → Nat) (D : Nat → Nat → Option Nat) (N : Nat) : Prop := (w_t S ∧ m_t S ∧ g_sh S x = some (.inl 2) ∧ g_sh S y = some (.inl 3)) ∧ 2 * m_active S y + (if m_prepared S y = 0 then 0 else 1) + m_cells S y ≤ t ∧ r_P S x y P ∧ r_C S x y P ∧ r_L S x y P L N ∧ r_D S x y P L D ∧ r_A S x y P L D N
/-- searching: the class's way and the reference's -/
theorem r_inj {S : gs_S} {x y : Nat} {P : Nat → Nat} (h : r_P S x y P) (hn : m_programs S y ≤ 60) {i j : Nat} (hi : 1 ≤ i) (hi2 : i ≤ m_programs S y) (hj : 1 ≤ j) (hj2 : j ≤ m_programs S y) (e : P i = P j) : i = j := by
  have h1 := (h.2.2 i hi hi2).2.2.1
  have h2 := (h.2.2 j hj hj2).2.2.1
  rw [e] at h1
  exact (nI_eq (by omega) (by omega)).mp (h1.symm.trans h2)
theorem r_injf {S : gs_S} {x y : Nat} {P : Nat → Nat} (h : r_P S x y P) (hn : m_programs S y ≤ 60) {i j : Nat} (hi2 : i ≤ m_programs S y) (hj2 : j ≤ m_programs S y) (e : p_f P i = p_f P j) : i = j := by
  unfold p_f at e
  split at e <;> split at e
  · omega
  · cases e
  · cases e
  · exact r_inj h hn (by omega) hi2 (by omega) hj2 (Option.some.inj e)
/-- what the reference's 'directly' finds -/
theorem dy_sp {S : gs_S} {y : Nat} {ins nm : Int32} : ∀ (k i acc : Nat), (f_dy S y ins nm k i acc = acc ∧ ∀ j : Nat, i ≤ j → j < i + k → ¬ (nI (m_within S y j) = ins ∧ m_names S y j = nm)) ∨ (i ≤ f_dy S y ins nm k i acc ∧ f_dy S y ins nm k i acc < i + k ∧ nI (m_within S y (f_dy S y ins nm k i acc)) = ins ∧ m_names S y (f_dy S y ins nm k i acc) = nm) := by
  intro k
  induction k with
  | zero => intro i acc; exact Or.inl ⟨rfl, fun j h1 h2 => by omega⟩
  | succ k ih =>
    intro i acc
    rw [f_dy]
    rcases ih (i + 1) (if nI (m_within S y i) = ins then (if m_names S y i = nm then i else acc) else acc) with ⟨h1, h2⟩ | ⟨h1, h2, h3, h4⟩
    · rw [h1]
      by_cases c1 : nI (m_within S y i) = ins
      · rw [if_pos c1]
        by_cases c2 : m_names S y i = nm
        · rw [if_pos c2]
          exact Or.inr ⟨by omega, by omega, c1, c2⟩
        · rw [if_neg c2]
          refine Or.inl ⟨rfl, fun j hj1 hj2 => ?_⟩
          by_cases e : j = i
          · subst e; exact fun z => c2 z.2
          · exact h2 j (by omega) (by omega)
      · rw [if_neg c1]
        refine Or.inl ⟨rfl, fun j hj1 hj2 => ?_⟩
        by_cases e : j = i
        · subst e; exact fun z => c1 z.1
        · exact h2 j (by omega) (by omega)
    · exact Or.inr ⟨by omega, by omega, h3, h4⟩
theorem dw_sp {S : gs_S} {x y : Nat} {P : Nat → Nat} (h : r_P S x y P) (hn : m_programs S y ≤ 60) {ins : Nat} (hins : ins ≤ m_programs S y) {nm : Int32} : ∀ (k i : Nat), 1 ≤ i → i + k = m_programs S y + 1 → (f_dw S (v_a (g_r S 2 1 x)) (p_f P ins) nm k i = none ∧ ∀ j : Nat, i ≤ j → j < i + k → ¬ (m_within S y j = ins ∧ m_names S y j = nm)) ∨ ∃ q : Nat, i ≤ q ∧ q < i + k ∧ m_within S y q = ins ∧ m_names S y q = nm ∧ f_dw S (v_a (g_r S 2 1 x)) (p_f P ins) nm k i = some (P q) := by
  intro k
  induction k with
  | zero => intro i _ _; exact Or.inl ⟨rfl, fun j h1 h2 => by omega⟩
  | succ k ih =>
    intro i hi hik
    obtain ⟨e1, e2, e3, e4, e5, e6, -⟩ := h.2.2 i hi (by omega)
    have hw : (g_r S 1 0 (P i) = p_f P ins) ↔ m_within S y i = ins := by
      rw [e5]
      exact ⟨fun z => r_injf h hn (by omega) hins z, fun z => by rw [z]⟩
    rw [f_dw, e1]
    simp only []
    by_cases c1 : m_within S y i = ins
    · rw [if_pos (hw.mpr c1), e6]
      by_cases c2 : m_names S y i = nm
      · rw [if_pos c2]
        exact Or.inr ⟨i, by omega, by omega, c1, c2, rfl⟩
      · rw [if_neg c2]
        rcases ih (i + 1) (by omega) (by omega) with ⟨z1, z2⟩ | ⟨q, z1, z2, z3⟩
        · refine Or.inl ⟨z1, fun j hj1 hj2 => ?_⟩
          by_cases e : j = i
          · subst e; exact fun z => c2 z.2
          · exact z2 j (by omega) (by omega)
        · exact Or.inr ⟨q, by omega, by omega, z3⟩
    · rw [if_neg (fun z => c1 (hw.mp z))]
      rcases ih (i + 1) (by omega) (by omega) with ⟨z1, z2⟩ | ⟨q, z1, z2, z3⟩
      · refine Or.inl ⟨z1, fun j hj1 hj2 => ?_⟩
        by_cases e : j = i
        · subst e; exact fun z => c1 z.1
        · exact z2 j (by omega) (by omega)
      · exact Or.inr ⟨q, by omega, by omega, z3⟩
theorem r_dw {S : gs_S} {x y : Nat} {P : Nat → Nat} (h : r_P S x y P) (hn : m_programs S y ≤ 60) {ins : Nat} (hins : ins ≤ m_programs S y) (nm : Int32) : f_dwR S x (p_f P ins) nm = p_f P (f_dyM S y (nI ins) nm) ∧ f_dyM S y (nI ins) nm ≤ m_programs S y ∧ (f_dyM S y (nI ins) nm ≠ 0 → m_within S y (f_dyM S y (nI ins) nm) = ins ∧ m_names S y (f_dyM S y (nI ins) nm) = nm) ∧ (f_dyM S y (nI ins) nm = 0 → ∀ j : Nat, 1 ≤ j → j ≤ m_programs S y → ¬ (m_within S y j = ins ∧ m_names S y j = nm)) := by
  have ew : ∀ j : Nat, 1 ≤ j → j ≤ m_programs S y → (nI (m_within S y j) = nI ins ↔ m_within S y j = ins) := fun j h1 h2 => nI_eq (by have := (h.2.2 j h1 h2).2.2.2.1; omega) (by omega)
  unfold f_dwR
  rw [h.1, nI_clamp (by omega)]
  rcases dy_sp (S := S) (y := y) (ins := nI ins) (nm := nm) (m_programs S y) 1 0 with ⟨a1, a2⟩ | ⟨a1, a2, a3, a4⟩
  · rw [show f_dyM S y (nI ins) nm = 0 from a1]
    have hno : ∀ j : Nat, 1 ≤ j → j ≤ m_programs S y → ¬ (m_within S y j = ins ∧ m_names S y j = nm) := fun j h1 h2 z => a2 j h1 (by omega) ⟨(ew j h1 h2).mpr z.1, z.2⟩
    refine ⟨?_, Nat.zero_le _, fun z => absurd rfl z, fun _ => hno⟩
    rcases dw_sp h hn hins (nm := nm) (m_programs S y) 1 (by omega) (by omega) with ⟨b1, -⟩ | ⟨q, b1, b2, b3, b4, -⟩
    · rw [b1, p_f0]
    · exact absurd ⟨b3, b4⟩ (hno q b1 (by omega))
  · have e : f_dyM S y (nI ins) nm = f_dy S y (nI ins) nm (m_programs S y) 1 0 := rfl
    rw [← e] at a1 a2 a3 a4
    generalize f_dyM S y (nI ins) nm = r at a1 a2 a3 a4
    have a3 := (ew r a1 (by omega)).mp a3
    refine ⟨?_, by omega, fun _ => ⟨a3, a4⟩, fun z => by omega⟩
    rcases dw_sp h hn hins (nm := nm) (m_programs S y) 1 (by omega) (by omega) with ⟨-, b2⟩ | ⟨q, b1, b2, b3, b4, b5⟩
    · exact absurd ⟨a3, a4⟩ (b2 r a1 a2)
    · rw [b5, p_f1 P a1, h.2.1 q r b1 (by omega) a1 (by omega) (Or.inl ⟨by rw [b3, a3], by rw [b4, a4]⟩)]
theorem r_has {S : gs_S} {x y : Nat} {P : Nat → Nat} (h : r_P S x y P) {i : Nat} (hi : 1 ≤ i) (hi2 : i ≤ m_programs S y) (k : Int32) : f_has S (P i) k = f_is S y i k := by
  unfold f_has f_is
  rw [(h.2.2 i hi hi2).2.2.2.2.2.2.1]
theorem r_li1 {S : gs_S} {x y : Nat} {P : Nat → Nat} (h : r_P S x y P) (hn : m_programs S y ≤ 60) {q : Nat} (hq : 1 ≤ q) (hq2 : q ≤ m_programs S y) : ∀ (k p : Nat), p < k → p ≤ m_programs S y → f_li S k (p_f P p) (some (P q)) = if f_ly S y (nI q) k p = q then 1 else 0 := by
  intro k
  induction k with
  | zero => intro p hp; omega
  | succ k ih =>
    intro p hp hpn
    by_cases c0 : p = 0
    · subst c0
      rw [p_f0, f_ly, if_pos rfl, if_neg (by omega)]
      rfl
    · obtain ⟨e1, e2, e3, e4, e5, e6, -⟩ := h.2.2 p (by omega) hpn
      rw [p_fs P c0, f_ly, if_neg c0, f_li]
      by_cases c1 : p = q
      · subst c1
        rw [if_pos rfl, if_pos rfl, if_pos rfl]
      · rw [if_neg (fun z => c1 (r_inj h hn (by omega) hpn hq hq2 (Option.some.inj z))), if_neg (fun z => c1 ((nI_eq (by omega) (by omega)).mp z)), e5]
        exact ih (m_within S y p) (by omega) (by omega)
theorem b_ly {S : gs_S} {y : Nat} {q : Int32} {n : Nat} (hw : ∀ i : Nat, i ≤ n → m_within S y i ≤ n) : ∀ (k p : Nat), p ≤ n → f_ly S y q k p ≤ n := by
  intro k
  induction k with
  | zero => intro p hp; exact hp
  | succ k ih =>
    intro p hp
    rw [f_ly]
    split
    · exact hp
    · split
      · exact hp
      · exact ih _ (hw p hp)
theorem r_li {S : gs_S} {x y : Nat} {P : Nat → Nat} (h : r_P S x y P) (hM : m_t S) (hY : g_sh S y = some (.inl 3)) {p q : Nat} (hp : 1 ≤ p) (hp2 : p ≤ m_programs S y) (hq : 1 ≤ q) (hq2 : q ≤ m_programs S y) : f_li S 61 (some (P p)) (some (P q)) = f_lyM S y p (nI q) := by
  have hn := b_programs hM hY
  have h1 := r_li1 h hn hq hq2 61 p (by omega) hp2
  rw [p_f1 P hp] at h1
  rw [h1, f_lyM]
  have hb : f_ly S y (nI q) 61 p ≤ 60 := b_ly (fun i hi => (b_within hM hY (by omega)).1) 61 p (by omega)
  by_cases c : f_ly S y (nI q) 61 p = q
  · rw [if_pos c, if_pos (by rw [c]), if_neg (fun z => by have := (x_n0 (n := q) (by omega)).mp z; omega)]
  · rw [if_neg c, if_neg (fun z => c ((nI_eq (by omega) (by omega)).mp z))]
theorem r_f2 {S : gs_S} {x y : Nat} {P : Nat → Nat} (h : r_P S x y P) (hM : m_t S) (hY : g_sh S y = some (.inl 3)) {p : Nat} (hp : 1 ≤ p) (hp2 : p ≤ m_programs S y) {nm : Int32} : ∀ (k a : Nat), a < k → a ≤ m_programs S y → (f_ca S x (P p) nm k (p_f P a) = none ∧ f_f2 S y p nm k a = f_dyM S y 0 nm) ∨ (1 ≤ f_f2 S y p nm k a ∧ f_f2 S y p nm k a ≤ m_programs S y ∧ f_ca S x (P p) nm k (p_f P a) = some (P (f_f2 S y p nm k a))) := by
  have hn := b_programs hM hY
  intro k
  induction k with
  | zero => intro a ha; omega
  | succ k ih =>
    intro a ha han
    by_cases c0 : a = 0
    · subst c0
      exact Or.inl ⟨by rw [p_f0]; rfl, by rw [f_f2, if_pos rfl]⟩
    · obtain ⟨e1, e2, e3, e4, e5, e6, -⟩ := h.2.2 a (by omega) han
      obtain ⟨d1, d2, d3, d4⟩ := r_dw h hn han nm
      have ihh := ih (m_within S y a) (by omega) (by omega)
      rw [← e5] at ihh
      rw [p_fs P c0, f_f2, if_neg c0, f_ca, ← p_fs P c0, d1]
      by_cases c1 : f_dyM S y (nI a) nm = 0
      · rw [if_pos c1, c1, p_f0]
        exact ihh
      · rw [if_neg c1, p_fs P c1]
        simp only []
        rw [r_has h (by omega) d2]
        by_cases c2 : f_is S y (f_dyM S y (nI a) nm) 2 = 0
        · rw [if_pos c2, if_pos c2]
          exact ihh
        · rw [if_neg c2, if_neg c2, r_li h hM hY hp hp2 (by omega) d2]
          by_cases c3 : f_lyM S y p (nI (f_dyM S y (nI a) nm)) = 0
          · rw [if_pos c3, if_pos c3]
            exact Or.inr ⟨by omega, d2, rfl⟩
          · rw [if_neg c3, if_neg c3]
            exact ihh
theorem r_f1 {S : gs_S} {x y : Nat} {P : Nat → Nat} (h : r_P S x y P) (hM : m_t S) (hY : g_sh S y = some (.inl 3)) {p : Nat} {nm : Int32} : ∀ (k a : Nat), a < k → a ≤ m_programs S y → (f_ra S nm k (p_f P a) = none ∧ f_f1 S y p nm k a = f_f2 S y p nm 61 (m_within S y p)) ∨ (1 ≤ f_f1 S y p nm k a ∧ f_f1 S y p nm k a ≤ m_programs S y ∧ f_ra S nm k (p_f P a) = some (P (f_f1 S y p nm k a))) := by
  intro k
  induction k with
  | zero => intro a ha; omega
  | succ k ih =>
    intro a ha han
    by_cases c0 : a = 0
    · subst c0
      exact Or.inl ⟨by rw [p_f0]; rfl, by rw [f_f1, if_pos rfl]⟩
    · obtain ⟨e1, e2, e3, e4, e5, e6, -⟩ := h.2.2 a (by omega) han
      have ihh := ih (m_within S y a) (by omega) (by omega)
      rw [← e5] at ihh
      rw [p_fs P c0, f_f1, if_neg c0, f_ra, r_has h (by omega) han, e6]
      by_cases c1 : f_is S y a 4 = 0
      · rw [if_pos c1, if_pos c1]; exact ihh
      · rw [if_neg c1, if_neg c1]
        by_cases c2 : m_names S y a = nm
        · rw [if_pos c2, if_pos c2]; exact Or.inr ⟨by omega, han, rfl⟩
        · rw [if_neg c2, if_neg c2]; exact ihh
theorem r_fi {S : gs_S} {x y : Nat} {P : Nat → Nat} (h : r_P S x y P) (hM : m_t S) (hY : g_sh S y = some (.inl 3)) {p : Nat} (hp2 : p ≤ m_programs S y) (nm : Int32) : f_found S x (p_f P p) nm = p_f P (f_fi S y p nm) ∧ f_fi S y p nm ≤ m_programs S y := by
  have hn := b_programs hM hY
  have z0 := r_dw h hn (Nat.zero_le _) nm
  rw [p_f0, show nI 0 = (0 : Int32) from rfl] at z0
  unfold f_fi
  by_cases c0 : p = 0
  · subst c0
    rw [if_pos rfl, p_f0]
    exact ⟨z0.1, z0.2.1⟩
  · obtain ⟨d1, d2, d3, d4⟩ := r_dw h hn hp2 nm
    rw [p_fs P c0] at d1
    rw [if_neg c0, p_fs P c0]
    unfold f_found
    simp only []
    rw [d1]
    by_cases c1 : f_dyM S y (nI p) nm = 0
    · rw [if_pos c1, c1, p_f0]
      simp only []
      have r1 := r_f1 h hM hY (p := p) (nm := nm) 61 p (by omega) hp2
      rw [p_fs P c0] at r1
      rcases r1 with ⟨a1, a2⟩ | ⟨a1, a2, a3⟩
      · rw [a1, a2]
        simp only []
        have hwp := (h.2.2 p (by omega) hp2).2.2.2.1
        have r2 := r_f2 h hM hY (p := p) (nm := nm) (by omega) hp2 61 (m_within S y p) (by omega) (by omega)
        rw [← (h.2.2 p (by omega) hp2).2.2.2.2.1] at r2
        rcases r2 with ⟨b1, b2⟩ | ⟨b1, b2, b3⟩
        · rw [b1, b2]
          exact ⟨z0.1, z0.2.1⟩
        · rw [b3, p_f1 P b1]
          exact ⟨rfl, b2⟩
      · rw [a3, p_f1 P a1]
        exact ⟨rfl, a2⟩
    · rw [if_neg c1, p_fs P c1]
      exact ⟨rfl, d2⟩
