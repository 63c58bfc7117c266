/-! places: the class's way and the reference's; what the reference reads alone -/
theorem dy_c {S' S : gs_S} {y : Nat} (e1 : m_within S' y = m_within S y) (e2 : m_names S' y = m_names S y) (ins nm : Int32) : ∀ k i acc : Nat, f_dy S' y ins nm k i acc = f_dy S y ins nm k i acc := by
  intro k
  induction k with
  | zero => intro i acc; rfl
  | succ k ih => intro i acc; rw [f_dy, f_dy, e1, e2]; exact ih _ _
theorem dyM_c {S' S : gs_S} {y : Nat} (e0 : m_programs S' y = m_programs S y) (e1 : m_within S' y = m_within S y) (e2 : m_names S' y = m_names S y) (ins nm : Int32) : f_dyM S' y ins nm = f_dyM S y ins nm := by
  rw [f_dyM, f_dyM, e0]; exact dy_c e1 e2 ins nm _ _ _
theorem ly_c {S' S : gs_S} {y : Nat} (e1 : m_within S' y = m_within S y) (q : Int32) : ∀ k a : Nat, f_ly S' y q k a = f_ly S y q k a := by
  intro k
  induction k with
  | zero => intro a; rfl
  | succ k ih => intro a; rw [f_ly, f_ly, e1, ih]
theorem lyM_c {S' S : gs_S} {y : Nat} (e1 : m_within S' y = m_within S y) (p : Nat) (q : Int32) : f_lyM S' y p q = f_lyM S y p q := by
  rw [f_lyM, f_lyM, ly_c e1]
theorem is_c {S' S : gs_S} {y : Nat} (e3 : m_marks S' y = m_marks S y) (p : Nat) (k : Int32) : f_is S' y p k = f_is S y p k := by rw [f_is, f_is, e3]
theorem f2_c {S' S : gs_S} {y : Nat} (e0 : m_programs S' y = m_programs S y) (e1 : m_within S' y = m_within S y) (e2 : m_names S' y = m_names S y) (e3 : m_marks S' y = m_marks S y) (p : Nat) (nm : Int32) : ∀ k a : Nat, f_f2 S' y p nm k a = f_f2 S y p nm k a := by
  intro k
  induction k with
  | zero => intro a; exact dyM_c e0 e1 e2 _ _
  | succ k ih => intro a; rw [f_f2, f_f2, e1, ih, dyM_c e0 e1 e2, dyM_c e0 e1 e2, is_c e3, lyM_c e1]
theorem f1_c {S' S : gs_S} {y : Nat} (e0 : m_programs S' y = m_programs S y) (e1 : m_within S' y = m_within S y) (e2 : m_names S' y = m_names S y) (e3 : m_marks S' y = m_marks S y) (p : Nat) (nm : Int32) : ∀ k a : Nat, f_f1 S' y p nm k a = f_f1 S y p nm k a := by
  intro k
  induction k with
  | zero => intro a; rw [f_f1, f_f1, e1]; exact f2_c e0 e1 e2 e3 p nm _ _
  | succ k ih => intro a; rw [f_f1, f_f1, e1, e2, ih, is_c e3, f2_c e0 e1 e2 e3]
theorem fi_c {S' S : gs_S} {y : Nat} (e0 : m_programs S' y = m_programs S y) (e1 : m_within S' y = m_within S y) (e2 : m_names S' y = m_names S y) (e3 : m_marks S' y = m_marks S y) (p : Nat) (nm : Int32) : f_fi S' y p nm = f_fi S y p nm := by
  rw [f_fi, f_fi, dyM_c e0 e1 e2, dyM_c e0 e1 e2, f1_c e0 e1 e2 e3]
theorem runM_c {S' S : gs_S} {y : Nat} (e4 : m_active S' y = m_active S y) (e5 : m_callOf S' y = m_callOf S y) : f_runM S' y = f_runM S y := by rw [f_runM, f_runM, e4, e5]
theorem pb_c {S' S : gs_S} {y : Nat} (e5 : m_callOf S' y = m_callOf S y) (e6 : m_baseOf S' y = m_baseOf S y) (o : Nat) : ∀ (k i : Nat) (acc : Int32), f_pb S' y o k i acc = f_pb S y o k i acc := by
  intro k
  induction k with
  | zero => intro i acc; rfl
  | succ k ih => intro i acc; rw [f_pb, f_pb, e5, e6]; exact ih _ _
theorem byM_c {S' S : gs_S} {y : Nat} (e4 : m_active S' y = m_active S y) (e5 : m_callOf S' y = m_callOf S y) (e7 : m_bytes S' y = m_bytes S y) (n : Int32) : f_byM S' y n = f_byM S y n := by rw [f_byM, f_byM, runM_c e4 e5, e7]
/-- all that 'place' reads -/
def m_E (S' S : gs_S) (y : Nat) : Prop := m_programs S' y = m_programs S y ∧ m_within S' y = m_within S y ∧ m_names S' y = m_names S y ∧ m_marks S' y = m_marks S y ∧ m_active S' y = m_active S y ∧ m_callOf S' y = m_callOf S y ∧ m_baseOf S' y = m_baseOf S y ∧ m_bytes S' y = m_bytes S y ∧ m_cells S' y = m_cells S y ∧ m_owner S' y = m_owner S y ∧ m_rank S' y = m_rank S y ∧ m_manyFormals S' y = m_manyFormals S y ∧ m_placeOf S' y = m_placeOf S y
theorem plM_c {S' S : gs_S} {y : Nat} (h : m_E S' S y) (n : Int32) : f_plM S' y n = f_plM S y n := by
  obtain ⟨e0, e1, e2, e3, e4, e5, e6, e7, e8, e9, e10, e11, e12⟩ := h
  unfold f_plM f_pc f_seen
  rw [runM_c e4 e5]
  simp only [pb_c e5 e6, is_c e3, lyM_c e1, e4, e8, e9, e10, e11, e12]
/-- the last call's base -/
def b_g (b : Nat → Nat) (q : Nat) : Int32 := if q = 0 then -1 else nI (b (q - 1))
theorem pb_sp {S : gs_S} {y o : Nat} (hM : m_t S) (hY : g_sh S y = some (.inl 3)) (ho : o ≤ 60) : ∀ (k i : Nat) (acc : Int32), i + k ≤ 600 → acc = b_g (m_baseOf S y) (la_ (m_callOf S y) o i) → f_pb S y o k i acc = b_g (m_baseOf S y) (la_ (m_callOf S y) o (i + k)) := by
  intro k
  induction k with
  | zero => intro i acc _ h; exact h
  | succ k ih =>
    intro i acc hik h
    rw [f_pb]
    have hb := b_callOf hM hY (i := i) (by omega)
    have := ih (i + 1) (if nI (m_callOf S y i) = nI o then nI (m_baseOf S y i) else acc) (by omega) (by
      rw [la_]
      by_cases c : m_callOf S y i = o
      · rw [if_pos (by rw [c]), if_pos c, b_g, if_neg (by omega)]; rfl
      · rw [if_neg (fun z => c ((nI_eq (by omega) (by omega)).mp z)), if_neg c]; exact h)
    rw [this, show i + (k + 1) = i + 1 + k by omega]
theorem r_run {S : gs_S} {x y : Nat} {P L : Nat → Nat} {N : Nat} (h : r_L S x y P L N) : f_top S x = L (m_active S y) ∧ f_run S x = p_f P (f_runM S y) ∧ f_runM S y ≤ m_programs S y := by
  obtain ⟨h1, h2, h3, h4, h5, h5', h6, h7, h8, h9, h10, h11, h12⟩ := h
  have e : f_top S x = L (m_active S y) := by rw [f_top, h2, v_a_s]
  refine ⟨e, ?_⟩
  unfold f_run f_runM
  rw [e]
  by_cases c : m_active S y = 0
  · rw [if_pos c, c, h10]; exact ⟨rfl, Nat.zero_le _⟩
  · rw [if_neg c]
    obtain ⟨a1, a2, a3, -⟩ := h11 (m_active S y - 1) (by omega)
    rw [show m_active S y - 1 + 1 = m_active S y by omega] at a3
    rw [a3, p_f1 P a1]
    exact ⟨rfl, a2⟩
theorem r_sees {S : gs_S} {x y : Nat} {P : Nat → Nat} (h : r_P S x y P) (hM : m_t S) (hY : g_sh S y = some (.inl 3)) {p o : Nat} (hp : 1 ≤ p) (hp2 : p ≤ m_programs S y) (ho : 1 ≤ o) (ho2 : o ≤ m_programs S y) : f_sees S (P p) (P o) = f_seen S y p o := by
  have hn := b_programs hM hY
  unfold f_sees f_seen
  rw [if_neg (show ¬ p = 0 by omega), r_has h ho ho2, r_li h hM hY hp hp2 ho ho2]
  by_cases c : p = o
  · subst c; rw [if_pos rfl, if_pos rfl]
  · rw [if_neg (fun z => c (r_inj h hn hp hp2 ho ho2 (Option.some.inj z))), if_neg (fun z => c ((nI_eq (by omega) (by omega)).mp z).symm)]
theorem r_pl {S : gs_S} {x y : Nat} {P L : Nat → Nat} {D : Nat → Nat → Option Nat} {N : Nat} (hM : m_t S) (hY : g_sh S y = some (.inl 3)) (hP : r_P S x y P) (hC : r_C S x y P) (hL : r_L S x y P L N) (hD : r_D S x y P L D) (n : Int32) :
    (f_plM S y n = -1 ∧ f_holder S x n = none) ∨ ∃ hh q d : Nat, f_holder S x n = some (L hh) ∧ f_place S x n = nI q ∧ D hh q = some d ∧ f_plM S y n = nI d ∧ hh ≤ m_active S y ∧ ∃ w : Nat, 1 ≤ w ∧ w ≤ 8 ∧ f_bytes S x n = nI w ∧ f_byM S y n = nI w := by
  have hn := b_programs hM hY
  have hc := b_cells hM hY
  have ha := b_active hM hY
  obtain ⟨t1, t2, t3⟩ := r_run hL
  unfold f_plM f_holder f_byM
  by_cases c0 : 0 ≤ n
  · have epl : f_place S x n = 16 + n := if_pos (fml_0 c0)
    have eby : f_bytes S x n = 8 := if_pos (fml_0 c0)
    rw [epl, eby, if_pos c0, if_pos c0, if_neg (show ¬ n < 0 from fun z => by rw [Int32.lt_iff_toInt_lt] at z; rw [Int32.le_iff_toInt_le] at c0; omega), hC.1]
    by_cases c1 : n < nI (m_cells S y)
    · obtain ⟨j, hj, rfl⟩ := x_cell hc rfl c0 c1
      rw [if_pos c1, if_pos c1, nI_clamp (by omega)]
      obtain ⟨o1, o2, o3⟩ := hC.2.1 j hj
      have hbot : D 0 (16 + j) = some j := by rw [hD.1, if_pos ⟨by omega, by omega⟩, show 16 + j - 16 = j by omega]
      have e16 : 16 + nI j = nI (16 + j) := nI_add 16 j
      rw [o2]
      unfold f_pc
      by_cases c2 : m_owner S y j = 0
      · rw [if_pos c2, c2, p_f0]
        exact Or.inr ⟨0, 16 + j, j, hL.1, e16, hbot, rfl, Nat.zero_le _, 8, by omega, by omega, rfl, rfl⟩
      · rw [if_neg c2, p_fs P c2, t2]
        simp only []
        by_cases c3 : f_runM S y = 0
        · rw [c3, p_f0]
          simp only []
          left
          refine ⟨?_, True.intro⟩
          rw [if_pos (show f_seen S y 0 (m_owner S y j) = 0 from by rw [f_seen, if_pos rfl])]
        · rw [p_fs P c3]
          simp only []
          rw [r_sees hP hM hY (by omega) t3 (by omega) o1]
          by_cases c4 : f_seen S y (f_runM S y) (m_owner S y j) = 0
          · rw [if_pos c4, if_pos c4]; exact Or.inl ⟨rfl, rfl⟩
          · rw [if_neg c4, if_neg c4]
            unfold f_data
            rw [r_has hP (by omega) o1]
            by_cases c5 : f_is S y (m_owner S y j) 4 = 0
            · rw [if_pos c5, if_pos c5]
              exact Or.inr ⟨0, 16 + j, j, hL.1, e16, hbot, rfl, Nat.zero_le _, 8, by omega, by omega, rfl, rfl⟩
            · rw [if_neg c5, if_neg c5, pb_sp hM hY (by omega) (m_active S y) 0 (-1) (by omega) rfl, Nat.zero_add, (hL.2.2.2.2.2.2.2.2.2.2.2.2 (m_owner S y j) (by omega) o1).1]
              have hla := la_le (m_callOf S y) (m_owner S y j) (m_active S y)
              have hat := la_at (m_callOf S y) (m_owner S y j) (m_active S y)
              generalize la_ (m_callOf S y) (m_owner S y j) (m_active S y) = q at hla hat
              by_cases c6 : q = 0
              · subst c6
                rw [if_pos (show b_g (m_baseOf S y) 0 = -1 from rfl), p_f0]
                exact Or.inr ⟨0, 16 + j, j, hL.1, e16, hbot, rfl, Nat.zero_le _, 8, by omega, by omega, rfl, rfl⟩
              · rw [p_fs L c6, b_g, if_neg c6]
                simp only []
                have hbb := b_baseOf hM hY (i := q - 1) (by omega)
                rw [if_neg (show ¬ nI (m_baseOf S y (q - 1)) = -1 from fun z => by
                  have h2 := congrArg Int32.toInt z
                  have h3 : (nI (m_baseOf S y (q - 1))).toNatClampNeg = m_baseOf S y (q - 1) := nI_clamp (by omega)
                  rw [z] at h3
                  have h4 : nI (m_baseOf S y (q - 1)) ≥ nI 0 := (nI_leI (by decide) (by omega)).mpr (Nat.zero_le _)
                  rw [z] at h4
                  exact absurd h4 (by decide)), nI_add]
                refine Or.inr ⟨q, 16 + j, m_baseOf S y (q - 1) + m_rank S y j, rfl, e16, ?_, rfl, hla, 8, by omega, by omega, rfl, rfl⟩
                have hd := hD.2.2.2.2.2.2.2.2 (q - 1) (by omega) (fun z => c5 (by rw [f_is, if_pos (by rw [← (hat c6).1]; exact z)])) j hj (hat c6).1.symm
                rw [show q - 1 + 1 = q by omega] at hd
                exact hd
    · rw [if_neg c1, if_neg c1]; exact Or.inl ⟨rfl, rfl⟩
  · obtain ⟨j, hj, ej⟩ := x_neg c0
    have ej0 := ej
    rw [if_neg c0, if_neg c0, if_pos (show n < 0 from by rw [Int32.le_iff_toInt_le] at c0; rw [Int32.lt_iff_toInt_lt]; omega), ej, nI_clamp hj, t2, t1]
    by_cases c3 : f_runM S y = 0
    · rw [if_pos c3, c3, p_f0]; exact Or.inl ⟨rfl, rfl⟩
    · rw [if_neg c3, p_fs P c3]
      simp only []
      obtain ⟨q1, q2, q3, q4, q5, q6, q7, q8, q9⟩ := hP.2.2 (f_runM S y) (by omega) t3
      have hmf := b_manyFormals hM hY (i := f_runM S y) (by omega)
      have hac := x_runA c3
      rw [q8]
      by_cases c4 : j < m_manyFormals S y (f_runM S y)
      · rw [if_pos c4, if_neg (fun z => by rw [nI_leI (by omega) hj] at z; omega)]
        have er : f_runM S y = m_callOf S y (m_active S y - 1) := by rw [f_runM, if_neg hac]
        have hf := hD.2.2.2.2.2.2.2.1 (m_active S y - 1) (by omega) j (by rw [← er]; exact c4)
        rw [show m_active S y - 1 + 1 = m_active S y by omega] at hf
        have hy := hf.2
        rw [← er] at hy
        have hfm : ¬ f_fml S x n = 0 := fml_1 (t2.trans (p_fs P c3)) c0 (by rw [q8, ej0, nI_leI (by omega) hj]; omega)
        have epl : f_place S x n = g_ai S 7 (v_a (g_r S 0 6 (L (m_active S y)))) j := by rw [f_place, if_neg hfm, t1, ej0, nI_clamp hj]
        have eby : f_bytes S x n = g_ai S 8 (v_a (g_r S 0 7 (L (m_active S y)))) j := by rw [f_bytes, if_neg hfm, t1, ej0, nI_clamp hj]
        rcases hf.1 with ⟨f1, f2⟩ | ⟨h, q, d, f1, f2, f3, f4, f5, -⟩
        · rw [f1, f2]; exact Or.inl ⟨rfl, rfl⟩
        · obtain ⟨g1, g2, g3, w, g4, g5, g6⟩ := q9 j c4
          exact Or.inr ⟨h, q, d, f1, epl.trans f2, f3, f4, f5, w, g4, g5, by rw [eby, hy, g6], g6⟩
      · rw [if_neg c4, if_pos ((nI_leI (by omega) hj).mpr (by omega))]; exact Or.inl ⟨rfl, rfl⟩
theorem r_mask : ∀ w : Nat, 1 ≤ w → w ≤ 8 → f_mask (8 * (8 - nI w)) = f_al (nI w) := by
  intro w h1 h2
  have : w = 1 ∨ w = 2 ∨ w = 3 ∨ w = 4 ∨ w = 5 ∨ w = 6 ∨ w = 7 ∨ w = 8 := by omega
  rcases this with rfl | rfl | rfl | rfl | rfl | rfl | rfl | rfl <;> decide +kernel
theorem r_shift : ∀ w : Nat, 1 ≤ w → w ≤ 8 → (8 * (8 - nI w)).toInt64 &&& 63 = (64 - 8 * nI w).toInt64 &&& 63 := by
  intro w h1 h2
  have : w = 1 ∨ w = 2 ∨ w = 3 ∨ w = 4 ∨ w = 5 ∨ w = 6 ∨ w = 7 ∨ w = 8 := by omega
  rcases this with rfl | rfl | rfl | rfl | rfl | rfl | rfl | rfl <;> decide +kernel
