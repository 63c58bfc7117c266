/-! cancel: the two loops -/
theorem li_c {T S : gs_S} (h : ∀ a : Nat, g_r T 1 0 a = g_r S 1 0 a) (o : Option Nat) : ∀ (k : Nat) (a : Option Nat), f_li T k a o = f_li S k a o := by
  intro k
  induction k with
  | zero => intro a; cases a <;> rfl
  | succ k ih =>
    intro a
    cases a with
    | none => rfl
    | some a => rw [f_li, f_li, h, ih]
theorem r_any {S : gs_S} {x y : Nat} {P L : Nat → Nat} {N : Nat} (hM : m_t S) (hY : g_sh S y = some (.inl 3)) (hP : r_P S x y P) (hL : r_L S x y P L N) {p : Nat} (p1 : 1 ≤ p) (p2 : p ≤ m_programs S y) : ∀ (k i : Nat), 1 ≤ i → i + k = m_programs S y + 1 → f_aa S (v_a (g_r S 2 1 x)) (P p) k i = f_cA S y p k i := by
  have hac := b_active hM hY
  intro k
  induction k with
  | zero => intro i _ _; rfl
  | succ k ih =>
    intro i i1 hik
    have e1 := (hP.2.2 i i1 (by omega)).1
    obtain ⟨b1, b2, b3, b4⟩ := hL.2.2.2.2.2.2.2.2.2.2.2.2 i i1 (by omega)
    have hlc := la_cn (m_callOf S y) i (m_active S y)
    have hcl := cn_le (m_callOf S y) i (m_active S y)
    rw [f_aa, e1, f_cA]
    simp only []
    rw [b1, b2, r_li hP hM hY i1 (by omega) p1 p2]
    have hih := ih (i + 1) (by omega) (by omega)
    by_cases z : la_ (m_callOf S y) i (m_active S y) = 0
    · rw [z, p_f0, hlc.mp z, if_pos (show nI 0 ≤ (0 : Int32) by decide)]
      simp only []
      rw [hih]
      split <;> rfl
    · rw [p_fs L z]
      simp only []
      rw [if_neg (show ¬ nI (cn_ (m_callOf S y) i (m_active S y)) ≤ 0 from fun w => by rw [show (0 : Int32) = nI 0 from rfl, nI_leI (by omega) (by omega)] at w; exact z (hlc.mpr (by omega))), hih]
theorem cA_c {T S : gs_S} {y p : Nat} (e1 : m_within T y = m_within S y) (e2 : m_activeTimes T y = m_activeTimes S y) : ∀ k i : Nat, f_cA T y p k i = f_cA S y p k i := by
  intro k
  induction k with
  | zero => intro i; rfl
  | succ k ih => intro i; rw [f_cA, f_cA, lyM_c e1, e2, ih]
theorem cA_0 {S : gs_S} {y p : Nat} : ∀ (k i : Nat), f_cA S y p k i = 0 → ∀ m : Nat, i ≤ m → m < i + k → ¬ f_lyM S y m (nI p) = 0 → m_activeTimes S y m ≤ 0 := by
  intro k
  induction k with
  | zero => intro i _ m h1 h2; omega
  | succ k ih =>
    intro i h m h1 h2 hq
    rw [f_cA] at h
    by_cases c : f_lyM S y i (nI p) = 0
    · rw [if_pos c] at h
      by_cases e : m = i
      · subst e; exact absurd c hq
      · exact ih (i + 1) h m (by omega) (by omega) hq
    · rw [if_neg c] at h
      by_cases c2 : m_activeTimes S y i ≤ 0
      · rw [if_pos c2] at h
        by_cases e : m = i
        · subst e; exact c2
        · exact ih (i + 1) h m (by omega) (by omega) hq
      · rw [if_neg c2] at h; exact absurd h (by decide)
/-- how many had data -/
def ct_ (S : gs_S) (y : Nat) (P : Nat → Nat) (p : Nat) : Nat → Nat → Int32 → Int32
  | 0, _, c => c
  | k + 1, i, c => if f_lyM S y i (nI p) = 0 then ct_ S y P p k (i + 1) c else ct_ S y P p k (i + 1) (c + (if g_i S 1 7 (P i) = 0 then 0 else 1))
def ci_ (S T : gs_S) (y : Nat) (P : Nat → Nat) (vb p i : Nat) : Prop := (∀ a : Nat, g_sh T a = g_sh S a) ∧ (∀ c k a : Nat, g_r T c k a = g_r S c k a) ∧ (∀ c k a : Nat, g_l T c k a = g_l S c k a) ∧ (∀ r a j : Nat, g_ai T r a j = g_ai S r a j) ∧ (∀ r a j : Nat, g_ar T r a j = g_ar S r a j) ∧ (∀ c k a : Nat, ¬ (c = 1 ∧ k = 7) → g_i T c k a = g_i S c k a) ∧ (∀ m : Nat, 1 ≤ m → m ≤ m_programs S y → g_i T 1 7 (P m) = if m < i ∧ ¬ f_lyM S y m (nI p) = 0 then 0 else g_i S 1 7 (P m)) ∧ (∀ k : Nat, k < m_cells S y → g_al T 9 vb (16 + k) = if m_owner S y k ≠ 0 ∧ m_owner S y k < i ∧ ¬ f_lyM S y (m_owner S y k) (nI p) = 0 then m_first S y k else g_al S 9 vb (16 + k)) ∧ ∀ r a j : Nat, ¬ (r = 9 ∧ a = vb ∧ 16 ≤ j ∧ j < 16 + m_cells S y) → g_al T r a j = g_al S r a j
set_option maxHeartbeats 4000000 in
theorem ci_loop {S : gs_S} {x y : Nat} {P L : Nat → Nat} {N : Nat} (hM : m_t S) (hY : g_sh S y = some (.inl 3)) (hP : r_P S x y P) (hC : r_C S x y P) (hL : r_L S x y P L N) {p : Nat} (p1 : 1 ≤ p) (p2 : p ≤ m_programs S y) (hq : ∀ m : Nat, 1 ≤ m → m ≤ m_programs S y → ¬ f_lyM S y m (nI p) = 0 → la_ (m_callOf S y) m (m_active S y) = 0) : ∀ (k i : Nat) (cn : Int32) (T : gs_S), 1 ≤ i → i + k = m_programs S y + 1 → ci_ S T y P (v_a (g_r S 0 8 (L 0))) p i → (f_mf x (P p) (v_a (g_r S 2 1 x)) k i cn T).1 = ct_ S y P p k i cn ∧ ci_ S (f_mf x (P p) (v_a (g_r S 2 1 x)) k i cn T).2 y P (v_a (g_r S 0 8 (L 0))) p (i + k) := by
  have hn := b_programs hM hY
  have hc := b_cells hM hY
  intro k
  induction k with
  | zero => intro i cn T _ _ h; exact ⟨rfl, h⟩
  | succ k ih =>
    intro i cn T i1 hik h
    obtain ⟨g1, g2, g3, g4, g5, g6, g7, g8, g9⟩ := h
    have e1 := (hP.2.2 i i1 (by omega)).1
    rw [f_mf, g5, e1, ct_, show i + (k + 1) = i + 1 + k by omega]
    simp only []
    rw [li_c (fun a => g2 1 0 a), r_li hP hM hY i1 (by omega) p1 p2]
    by_cases c : f_lyM S y i (nI p) = 0
    · rw [if_pos c, if_pos c]
      refine ih (i + 1) cn T (by omega) (by omega) ⟨g1, g2, g3, g4, g5, g6, fun m m1 m2 => ?_, fun kk hk => ?_, g9⟩
      · rw [g7 m m1 m2]
        by_cases z : m = i
        · subst z; rw [if_neg (by omega), if_neg (fun w => w.2 c)]
        · by_cases w : m < i ∧ ¬ f_lyM S y m (nI p) = 0
          · rw [if_pos w, if_pos ⟨by omega, w.2⟩]
          · rw [if_neg w, if_neg (fun u => w ⟨by omega, u.2⟩)]
      · rw [g8 kk hk]
        by_cases w : m_owner S y kk ≠ 0 ∧ m_owner S y kk < i ∧ ¬ f_lyM S y (m_owner S y kk) (nI p) = 0
        · rw [if_pos w, if_pos ⟨w.1, by omega, w.2.2⟩]
        · rw [if_neg w, if_neg (fun u => w ⟨u.1, by
            have h1 := u.2.1
            have h2 : ¬ m_owner S y kk = i := fun z => u.2.2 (by rw [z]; exact c)
            omega, u.2.2⟩)]
    · have ed : g_i T 1 7 (P i) = g_i S 1 7 (P i) := by rw [g7 i i1 (by omega), if_neg (by omega)]
      rw [if_neg c, if_neg c, ed]
      refine ih (i + 1) _ _ (by omega) (by omega) ?_
      have hla := hq i i1 (by omega) c
      have hlat := (hL.2.2.2.2.2.2.2.2.2.2.2.2 i i1 (by omega)).1
      rw [hla, p_f0] at hlat
      generalize hT' : p_i T 1 7 (P i) 0 = T'
      have f2 : ∀ c k a : Nat, g_r T' c k a = g_r S c k a := fun c k a => by rw [← hT']; exact g2 c k a
      have f6 : ∀ c k a : Nat, ¬ (c = 1 ∧ k = 7) → g_i T' c k a = g_i S c k a := fun c k a z => by rw [← hT', x_g_i_p_i, if_neg (fun w => z ⟨w.1, w.2.1⟩)]; exact g6 c k a z
      have fd : f_data T' x (P i) = some (L 0) := by
        unfold f_data
        rw [f2, f2, hlat, hL.1]
        simp only []
        split <;> rfl
      have eg : ∀ r a j : Nat, g_al (f_give T' x (P i)) r a j = if r = 9 ∧ a = v_a (g_r S 0 8 (L 0)) ∧ 16 ≤ j ∧ j < 16 + m_cells S y ∧ g_ar S 1 (v_a (g_r S 2 3 x)) (j - 16) = some (P i) then g_al S 2 (v_a (g_r S 2 4 x)) (j - 16) else g_al T r a j := fun r a j => by
        unfold f_give
        rw [fd, v_a_s, f2, f2, f2, f6 2 5 x (by omega), hC.1, nI_clamp (by omega)]
        show (if r = 9 ∧ a = v_a (g_r S 0 8 (L 0)) ∧ 16 ≤ j ∧ j < 16 + m_cells S y ∧ g_ar T' 1 (v_a (g_r S 2 3 x)) (j - 16) = some (P i) then g_al T' 2 (v_a (g_r S 2 4 x)) (j - 16) else g_al T' r a j) = _
        rw [show g_ar T' 1 (v_a (g_r S 2 3 x)) (j - 16) = g_ar S 1 (v_a (g_r S 2 3 x)) (j - 16) from by rw [← hT']; exact g5 _ _ _, show g_al T' 2 (v_a (g_r S 2 4 x)) (j - 16) = g_al S 2 (v_a (g_r S 2 4 x)) (j - 16) from by rw [← hT']; exact g9 _ _ _ (by omega), show g_al T' r a j = g_al T r a j from by rw [← hT']; rfl]
      refine ⟨fun a => by rw [← hT']; exact g1 a, fun c k a => f2 c k a, fun c k a => by rw [← hT']; exact g3 c k a, fun r a j => by rw [← hT']; exact g4 r a j, fun r a j => by rw [← hT']; exact g5 r a j, fun c k a z => f6 c k a z, fun m m1 m2 => ?_, fun kk hk => ?_, fun r a j z => ?_⟩
      · show g_i T' 1 7 (P m) = _
        rw [← hT', x_g_i_p_i]
        by_cases z : m = i
        · subst z
          rw [if_pos ⟨rfl, rfl, rfl⟩, if_pos ⟨by omega, c⟩]
        · rw [if_neg (fun w => z (r_inj hP hn m1 m2 i1 (by omega) w.2.2)), g7 m m1 m2]
          by_cases w : m < i ∧ ¬ f_lyM S y m (nI p) = 0
          · rw [if_pos w, if_pos ⟨by omega, w.2⟩]
          · rw [if_neg w, if_neg (fun u => w ⟨by omega, u.2⟩)]
      · rw [eg, show 16 + kk - 16 = kk by omega]
        obtain ⟨o1, o2, o3⟩ := hC.2.1 kk hk
        rw [o2]
        by_cases z : m_owner S y kk = i
        · rw [if_pos ⟨rfl, rfl, by omega, by omega, by rw [z, p_f1 P i1]⟩, if_pos ⟨by omega, by omega, by rw [z]; exact c⟩]
          exact (o3 (by omega)).1
        · rw [if_neg (fun w => z (by
            have w5 := w.2.2.2.2
            rw [← p_f1 P i1] at w5
            exact r_injf hP hn o1 (by omega) w5)), g8 kk hk]
          by_cases w : m_owner S y kk ≠ 0 ∧ m_owner S y kk < i ∧ ¬ f_lyM S y (m_owner S y kk) (nI p) = 0
          · rw [if_pos w, if_pos ⟨w.1, by omega, w.2.2⟩]
          · rw [if_neg w, if_neg (fun u => w ⟨u.1, by omega, u.2.2⟩)]
      · rw [eg, if_neg (fun w => z ⟨w.1, w.2.1, w.2.2.1, w.2.2.2.1⟩)]
        exact g9 r a j z
/-- the reference's loop over the cells -/
theorem cm_sp {V : gs_S} {y q : Nat} (hM : m_t V) (hY : g_sh V y = some (.inl 3)) (hq : q ≤ 60) : ∀ (k i : Nat) (f : Nat → Nat → Nat → Int64), i + k ≤ 200 → ∀ r a j : Nat, f_cm V y q k i f r a j = if r = 22 ∧ a = m_q V y 16 ∧ i ≤ j ∧ j < i + k ∧ m_owner V y j = q then f 19 (m_q V y 12) j else f r a j := by
  intro k
  induction k with
  | zero => intro i f _ r a j; rw [if_neg (by omega)]; rfl
  | succ k ih =>
    intro i f hik r a j
    have hb := b_owner hM hY (i := i) (by omega)
    rw [f_cm, ih (i + 1) _ (by omega)]
    have e19 : ∀ v : Int64, ∀ j : Nat, u_3 f 22 (m_q V y 16) i v 19 (m_q V y 12) j = f 19 (m_q V y 12) j := fun v j => by unfold u_3; rw [if_neg (by omega)]
    rw [e19]
    by_cases z : r = 22 ∧ a = m_q V y 16 ∧ i + 1 ≤ j ∧ j < i + 1 + k ∧ m_owner V y j = q
    · rw [if_pos z, if_pos ⟨z.1, z.2.1, by omega, by omega, z.2.2.2.2⟩]
    · rw [if_neg z]
      by_cases w : r = 22 ∧ a = m_q V y 16 ∧ j = i
      · obtain ⟨rfl, rfl, rfl⟩ := w
        rw [u_3_s]
        by_cases u : m_owner V y j = q
        · rw [if_pos (by rw [u]), if_pos ⟨rfl, rfl, Nat.le_refl _, by omega, u⟩]
        · rw [if_neg (fun w => u ((nI_eq (by omega) (by omega)).mp w)), if_neg (fun w => u w.2.2.2.2)]
      · rw [show u_3 f 22 (m_q V y 16) i (if nI (m_owner V y i) = nI q then f 19 (m_q V y 12) i else f 22 (m_q V y 16) i) r a j = f r a j from if_neg w, if_neg (fun u => z ⟨u.1, u.2.1, by
          have h1 := u.2.2.1
          have h2 : ¬ j = i := fun e => w ⟨u.1, u.2.1, e⟩
          omega, by omega, u.2.2.2.2⟩)]
