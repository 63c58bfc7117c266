def ctM (B : gs_S) (y : Nat) (p : Nat) : Nat → Nat → Int32 → Int32
  | 0, _, c => c
  | k + 1, i, c => if f_lyM B y i (nI p) = 0 then ctM B y p k (i + 1) c else ctM B y p k (i + 1) (c + (if m_data B y i = 0 then 0 else 1))
def mi_ (B V : gs_S) (y p i : Nat) : Prop := (∀ a : Nat, g_sh V a = g_sh B a) ∧ (∀ c k a : Nat, g_r V c k a = g_r B c k a) ∧ (∀ c k a : Nat, g_l V c k a = g_l B c k a) ∧ (∀ c k a : Nat, g_i V c k a = g_i B c k a) ∧ (∀ r a j : Nat, g_ar V r a j = g_ar B r a j) ∧ (∀ r a j : Nat, ¬ r = 15 → g_ai V r a j = g_ai B r a j) ∧ (∀ m : Nat, m_data V y m = if 1 ≤ m ∧ m < i ∧ ¬ f_lyM B y m (nI p) = 0 then 0 else m_data B y m) ∧ (∀ k : Nat, k < m_cells B y → m_memory V y k = if m_owner B y k ≠ 0 ∧ m_owner B y k < i ∧ ¬ f_lyM B y (m_owner B y k) (nI p) = 0 then m_first B y k else m_memory B y k) ∧ ∀ r a j : Nat, ¬ (r = 22 ∧ a = m_q B y 16 ∧ j < m_cells B y) → g_al V r a j = g_al B r a j
set_option maxHeartbeats 4000000 in
theorem mi_loop {B : gs_S} {y p n : Nat} (hn : n ≤ 60) (hc : m_cells B y ≤ 200) : ∀ (k i : Nat) (mn : Int32) (V : gs_S), 1 ≤ i → i + k = n + 1 → m_t V → g_sh V y = some (.inl 3) → mi_ B V y p i → (f_cB y p k i mn V).1 = ctM B y p k i mn ∧ m_t (f_cB y p k i mn V).2 ∧ mi_ B (f_cB y p k i mn V).2 y p (i + k) := by
  intro k
  induction k with
  | zero => intro i mn V _ _ hV _ h; exact ⟨rfl, hV, h⟩
  | succ k ih =>
    intro i mn V i1 hik hV hVy h
    obtain ⟨g1, g2, g3, g4, g5, g6, g7, g8, g9⟩ := id h
    have eq : ∀ k : Nat, m_q V y k = m_q B y k := fun k => by unfold m_q; rw [g2]
    have ew : m_within V y = m_within B y := by funext j; unfold m_within; rw [eq, g6 _ _ _ (by decide)]
    have eo : m_owner V y = m_owner B y := by funext j; unfold m_owner; rw [eq, g6 _ _ _ (by decide)]
    have ec : m_cells V y = m_cells B y := by unfold m_cells; rw [g4]
    have ef : m_first V y = m_first B y := by funext j; unfold m_first; rw [eq, g9 _ _ _ (by omega)]
    rw [f_cB, ctM, lyM_c ew, show i + (k + 1) = i + 1 + k by omega]
    by_cases c : f_lyM B y i (nI p) = 0
    · rw [if_pos c, if_pos c]
      refine ih (i + 1) mn V (by omega) (by omega) hV hVy ⟨g1, g2, g3, g4, g5, g6, fun m => ?_, fun kk hk => ?_, g9⟩
      · rw [g7 m]
        by_cases z : m = i
        · subst z; rw [if_neg (by omega), if_neg (fun w => w.2.2 c)]
        · by_cases w : 1 ≤ m ∧ m < i ∧ ¬ f_lyM B y m (nI p) = 0
          · rw [if_pos w, if_pos ⟨w.1, by omega, w.2.2⟩]
          · rw [if_neg w, if_neg (fun u => w ⟨u.1, by omega, u.2.2⟩)]
      · rw [g8 kk hk]
        by_cases w : m_owner B y kk ≠ 0 ∧ m_owner B y kk < i ∧ ¬ f_lyM B y (m_owner B y kk) (nI p) = 0
        · rw [if_pos w, if_pos ⟨w.1, by omega, w.2.2⟩]
        · rw [if_neg w, if_neg (fun u => w ⟨u.1, by
            have h1 := u.2.1
            have h2 : ¬ m_owner B y kk = i := fun z => u.2.2 (by rw [z]; exact c)
            omega, u.2.2⟩)]
    · have ed : m_data V y i = m_data B y i := by rw [g7 i, if_neg (by omega)]
      rw [if_neg c, if_neg c, ed]
      have hV1 : m_t (p_ai V 15 (m_q V y 7) i 0) := mt_pai hV (fun _ => True.intro)
      have hcm := cm_sp (q := i) hV1 (show g_sh (p_ai V 15 (m_q V y 7) i 0) y = some (.inl 3) from hVy) (by omega) (m_cells V y) 0 (g_AL V) (by omega)
      have eo' : m_owner (p_ai V 15 (m_q V y 7) i 0) y = m_owner B y := by rw [← eo]; funext j; simp [m_programs, m_cells, m_active, m_prepared, m_arguments, m_used, m_preparedAhead, m_within, m_names, m_marks, m_manyFormals, m_activeTimes, m_data, m_owner, m_rank, m_external, m_first, m_how, m_bytes, m_memory, m_callOf, m_baseOf, m_usedAhead, m_placeOf, m_argument, m_argumentBytes, m_q, m_0, x_gs]
      have eq' : ∀ k : Nat, m_q (p_ai V 15 (m_q V y 7) i 0) y k = m_q B y k := fun k => by rw [← eq]; simp [m_q, x_gs]
      rw [eo'] at hcm
      simp only [eq'] at hcm
      have eal : ∀ r a j : Nat, g_al (c_V V y i) r a j = if r = 22 ∧ a = m_q B y 16 ∧ 0 ≤ j ∧ j < 0 + m_cells V y ∧ m_owner B y j = i then g_al V 19 (m_q B y 12) j else g_al V r a j := fun r a j => hcm r a j
      rw [ec, Nat.zero_add] at eal
      refine ih (i + 1) _ (c_V V y i) (by omega) (by omega) (mt_cV hV) hVy ⟨g1, g2, g3, g4, g5, fun r a j z => ?_, fun m => ?_, fun kk hk => ?_, fun r a j z => ?_⟩
      · show g_ai (p_ai V 15 (m_q V y 7) i 0) r a j = _
        rw [x_g_ai_p_ai, if_neg (fun w => z w.1)]; exact g6 r a j z
      · show g_ai (p_ai V 15 (m_q V y 7) i 0) 15 (m_q V y 7) m = _
        rw [rd_ai]
        by_cases z : m = i
        · subst z; rw [if_pos rfl, if_pos ⟨i1, by omega, c⟩]
        · rw [if_neg z, show g_ai V 15 (m_q V y 7) m = m_data V y m from rfl, g7 m]
          by_cases w : 1 ≤ m ∧ m < i ∧ ¬ f_lyM B y m (nI p) = 0
          · rw [if_pos w, if_pos ⟨w.1, by omega, w.2.2⟩]
          · rw [if_neg w, if_neg (fun u => w ⟨u.1, by omega, u.2.2⟩)]
      · show g_al (c_V V y i) 22 (m_q (c_V V y i) y 16) kk = _
        rw [show m_q (c_V V y i) y 16 = m_q B y 16 from eq' 16, eal]
        by_cases z : m_owner B y kk = i
        · rw [if_pos ⟨rfl, rfl, Nat.zero_le _, hk, z⟩, if_pos ⟨by omega, by omega, by rw [z]; exact c⟩]
          rw [g9 _ _ _ (by omega)]; rfl
        · rw [if_neg (fun w => z w.2.2.2.2), show g_al V 22 (m_q B y 16) kk = m_memory V y kk from by unfold m_memory; rw [eq], g8 kk hk]
          by_cases w : m_owner B y kk ≠ 0 ∧ m_owner B y kk < i ∧ ¬ f_lyM B y (m_owner B y kk) (nI p) = 0
          · rw [if_pos w, if_pos ⟨w.1, by omega, w.2.2⟩]
          · rw [if_neg w, if_neg (fun u => w ⟨u.1, by omega, u.2.2⟩)]
      · rw [eal, if_neg (fun w => z ⟨w.1, w.2.1, w.2.2.2.1⟩)]
        exact g9 r a j z
theorem wt_mf {x co pa : Nat} : ∀ (k i : Nat) (c : Int32) (T : gs_S), w_t T → m_t T → w_t (f_mf x co pa k i c T).2 ∧ m_t (f_mf x co pa k i c T).2 := by
  intro k
  induction k with
  | zero => intro i c T h1 h2; exact ⟨h1, h2⟩
  | succ k ih =>
    intro i c T h1 h2
    rw [f_mf]
    cases g_ar T 0 pa i with
    | none => exact ih _ _ _ h1 h2
    | some p =>
      simp only []
      split
      · exact ih _ _ _ h1 h2
      · exact ih _ _ _ (wt_give (wt_pi0 h1 (by decide))) (mt_pi h2 (fun z => absurd z (by decide)))
theorem wt_cB {y p : Nat} : ∀ (k i : Nat) (c : Int32) (V : gs_S), w_t V → w_t (f_cB y p k i c V).2 := by
  intro k
  induction k with
  | zero => intro i c V h; exact h
  | succ k ih =>
    intro i c V h
    rw [f_cB]
    split
    · exact ih _ _ _ h
    · exact ih _ _ _ (wt_pai h (fun z => absurd z (by decide)))
theorem ct_eq {S B : gs_S} {y p : Nat} {P : Nat → Nat} {n : Nat} (e1 : m_within B y = m_within S y) (h : ∀ m : Nat, 1 ≤ m → m ≤ n → ¬ f_lyM S y m (nI p) = 0 → m_data B y m = g_i S 1 7 (P m)) : ∀ (k i : Nat) (c : Int32), 1 ≤ i → i + k = n + 1 → ct_ S y P p k i c = ctM B y p k i c := by
  intro k
  induction k with
  | zero => intro i c _ _; rfl
  | succ k ih =>
    intro i c i1 hik
    rw [ct_, ctM, lyM_c e1]
    split
    · exact ih _ _ (by omega) (by omega)
    · rename_i z
      rw [h i i1 (by omega) z]
      exact ih _ _ (by omega) (by omega)
set_option maxHeartbeats 8000000 in
theorem z_cancel {S : gs_S} {x y t : Nat} {P L : Nat → Nat} {D : Nat → Nat → Option Nat} {N : Nat} (h : r_R S x y t P L D N) (fr nm : Int32) : (f_cancel S x fr nm).1 = (f_cnM (m_0 (f_cancel S x fr nm).2 y) y fr nm).1 ∧ r_X (f_cnM (m_0 (f_cancel S x fr nm).2 y) y fr nm).2 x y (t + 1) := by
  have hr := h
  obtain ⟨⟨h1, h2, h3, h4⟩, hb, hP, hC, hL, hD, hA⟩ := h
  have hn := b_programs h2 h4
  have hcl := b_cells h2 h4
  have hac := b_active h2 h4
  have same : r_X (m_0 S y) x y (t + 1) := ⟨P, L, D, N, z_0 hr 0 (by omega)⟩
  obtain ⟨t1, t2, t3⟩ := r_run hL
  obtain ⟨f1, f2⟩ := r_fi hP h2 h4 t3 nm
  have eno := r_no hP t3
  have emod : ∀ T : gs_S, m_E8 T S y → f_cnM T y fr nm = if f_isF S y fr nm = 0 then (-2, T) else if f_fi S y (f_runM S y) nm = 0 then (-3, T) else if f_cA S y (f_fi S y (f_runM S y) nm) (m_programs S y) 1 = 0 then f_cB y (f_fi S y (f_runM S y) nm) (m_programs S y) 1 0 T else (-5, T) := fun T hE => by
    obtain ⟨e0, e1, e2, e3, e4, e5, e6, e7⟩ := hE
    unfold f_cnM f_isF
    rw [runM_c e4 e5, fi_c e0 e1 e2 e3, e0, cA_c e1 e6]
  have e8 : m_E8 (m_0 S y) S y := ⟨by simp [m_programs, m_cells, m_active, m_prepared, m_arguments, m_used, m_preparedAhead, m_within, m_names, m_marks, m_manyFormals, m_activeTimes, m_data, m_owner, m_rank, m_external, m_first, m_how, m_bytes, m_memory, m_callOf, m_baseOf, m_usedAhead, m_placeOf, m_argument, m_argumentBytes, m_q, m_0, x_gs], by funext j; simp [m_programs, m_cells, m_active, m_prepared, m_arguments, m_used, m_preparedAhead, m_within, m_names, m_marks, m_manyFormals, m_activeTimes, m_data, m_owner, m_rank, m_external, m_first, m_how, m_bytes, m_memory, m_callOf, m_baseOf, m_usedAhead, m_placeOf, m_argument, m_argumentBytes, m_q, m_0, x_gs], by funext j; simp [m_programs, m_cells, m_active, m_prepared, m_arguments, m_used, m_preparedAhead, m_within, m_names, m_marks, m_manyFormals, m_activeTimes, m_data, m_owner, m_rank, m_external, m_first, m_how, m_bytes, m_memory, m_callOf, m_baseOf, m_usedAhead, m_placeOf, m_argument, m_argumentBytes, m_q, m_0, x_gs], by funext j; simp [m_programs, m_cells, m_active, m_prepared, m_arguments, m_used, m_preparedAhead, m_within, m_names, m_marks, m_manyFormals, m_activeTimes, m_data, m_owner, m_rank, m_external, m_first, m_how, m_bytes, m_memory, m_callOf, m_baseOf, m_usedAhead, m_placeOf, m_argument, m_argumentBytes, m_q, m_0, x_gs], by simp [m_programs, m_cells, m_active, m_prepared, m_arguments, m_used, m_preparedAhead, m_within, m_names, m_marks, m_manyFormals, m_activeTimes, m_data, m_owner, m_rank, m_external, m_first, m_how, m_bytes, m_memory, m_callOf, m_baseOf, m_usedAhead, m_placeOf, m_argument, m_argumentBytes, m_q, m_0, x_gs], by funext j; simp [m_programs, m_cells, m_active, m_prepared, m_arguments, m_used, m_preparedAhead, m_within, m_names, m_marks, m_manyFormals, m_activeTimes, m_data, m_owner, m_rank, m_external, m_first, m_how, m_bytes, m_memory, m_callOf, m_baseOf, m_usedAhead, m_placeOf, m_argument, m_argumentBytes, m_q, m_0, x_gs], by funext j; simp [m_programs, m_cells, m_active, m_prepared, m_arguments, m_used, m_preparedAhead, m_within, m_names, m_marks, m_manyFormals, m_activeTimes, m_data, m_owner, m_rank, m_external, m_first, m_how, m_bytes, m_memory, m_callOf, m_baseOf, m_usedAhead, m_placeOf, m_argument, m_argumentBytes, m_q, m_0, x_gs], by simp [m_programs, m_cells, m_active, m_prepared, m_arguments, m_used, m_preparedAhead, m_within, m_names, m_marks, m_manyFormals, m_activeTimes, m_data, m_owner, m_rank, m_external, m_first, m_how, m_bytes, m_memory, m_callOf, m_baseOf, m_usedAhead, m_placeOf, m_argument, m_argumentBytes, m_q, m_0, x_gs]⟩
  unfold f_cancel
  rw [t2, eno]
  by_cases c1 : fr = nI (f_runM S y)
  · rw [if_pos c1]
    by_cases c2 : f_isName nm = 0
    · rw [if_pos c2]
      simp only []
      rw [emod _ e8, if_pos (by rw [f_isF, if_pos c1, if_pos c2])]
      exact ⟨rfl, same⟩
    · have hF : ¬ f_isF S y fr nm = 0 := by rw [f_isF, if_pos c1, if_neg c2]; decide
      rw [if_neg c2, f1]
      generalize hpp : f_fi S y (f_runM S y) nm = p at *
      by_cases c3 : p = 0
      · rw [c3, p_f0]
        simp only []
        rw [emod _ e8, if_neg hF, if_pos c3]
        exact ⟨rfl, same⟩
      · rw [p_fs P c3]
        simp only []
        have ean : f_any S x (P p) = f_cA S y p (m_programs S y) 1 := by
          unfold f_any
          rw [hP.1, nI_clamp (by omega)]
          exact r_any h2 h4 hP hL (by omega) f2 (m_programs S y) 1 (by omega) (by omega)
        rw [ean]
        by_cases c4 : f_cA S y p (m_programs S y) 1 = 0
        · rw [if_pos c4]
          have hq : ∀ m : Nat, 1 ≤ m → m ≤ m_programs S y → ¬ f_lyM S y m (nI p) = 0 → la_ (m_callOf S y) m (m_active S y) = 0 := fun m m1 m2 mq => by
            have z := cA_0 _ _ c4 m m1 (by omega) mq
            obtain ⟨b1, b2, -⟩ := hL.2.2.2.2.2.2.2.2.2.2.2.2 m m1 m2
            have hcl := cn_le (m_callOf S y) m (m_active S y)
            rw [b2, show (0 : Int32) = nI 0 from rfl, nI_leI (by omega) (by omega)] at z
            exact (la_cn _ _ _).mpr (by omega)
          have hci0 : ci_ S S y P (v_a (g_r S 0 8 (L 0))) p 1 := ⟨fun _ => rfl, fun _ _ _ => rfl, fun _ _ _ => rfl, fun _ _ _ => rfl, fun _ _ _ => rfl, fun _ _ _ _ => rfl, fun m m1 m2 => by rw [if_neg (by omega)], fun k hk => by rw [if_neg (by omega)], fun _ _ _ _ => rfl⟩
          have hcl1 := ci_loop h2 h4 hP hC hL (by omega) f2 hq (m_programs S y) 1 0 S (by omega) (by omega) hci0
          have hwt1 := wt_mf (x := x) (co := P p) (pa := v_a (g_r S 2 1 x)) (m_programs S y) 1 0 S h1 h2
          have efr : f_fresh S x (P p) = f_mf x (P p) (v_a (g_r S 2 1 x)) (m_programs S y) 1 0 S := by
            unfold f_fresh; rw [hP.1, nI_clamp (by omega)]
          rw [efr]
          generalize f_mf x (P p) (v_a (g_r S 2 1 x)) (m_programs S y) 1 0 S = R1 at hcl1 hwt1
          obtain ⟨r1, S1⟩ := R1
          obtain ⟨q0, q1, q2, q3, q4, q5, q6, q7, q8, q9⟩ := hcl1
          obtain ⟨w1, w2⟩ := hwt1
          simp only [] at q0 q1 q2 q3 q4 q5 q6 q7 q8 q9 w1 w2 ⊢
          generalize hB : m_0 S1 y = B
          have b1 : ∀ a : Nat, g_sh B a = g_sh S a := fun a => by rw [← hB]; exact q1 a
          have b2 : ∀ c k a : Nat, g_r B c k a = g_r S c k a := fun c k a => by rw [← hB]; exact q2 c k a
          have b3 : ∀ c k a : Nat, g_l B c k a = g_l S c k a := fun c k a => by rw [← hB]; exact q3 c k a
          have b4 : ∀ r a j : Nat, g_ai B r a j = g_ai S r a j := fun r a j => by rw [← hB]; exact q4 r a j
          have b5 : ∀ r a j : Nat, g_ar B r a j = g_ar S r a j := fun r a j => by rw [← hB]; exact q5 r a j
          have b6 : ∀ c k a : Nat, ¬ (c = 1 ∧ k = 7) → ¬ (c = 3 ∧ k = 0) → g_i B c k a = g_i S c k a := fun c k a z z2 => by rw [← hB, m_0, x_g_i_p_i, if_neg (fun w => z2 ⟨w.1, w.2.1⟩)]; exact q6 c k a z
          have b7 : ∀ m : Nat, 1 ≤ m → m ≤ m_programs S y → g_i B 1 7 (P m) = if m < 1 + m_programs S y ∧ ¬ f_lyM S y m (nI p) = 0 then 0 else g_i S 1 7 (P m) := fun m m1 m2 => by rw [← hB, m_0, x_g_i_p_i, if_neg (by omega)]; exact q7 m m1 m2
          have b8 : ∀ r a j : Nat, g_al B r a j = g_al S1 r a j := fun r a j => by rw [← hB]; rfl
          have hBm : m_t B := by rw [← hB]; exact mt_pi0 w2 (by decide)
          have hBw : w_t B := by rw [← hB]; exact wt_pi0 w1 (by decide)
          have hBy : g_sh B y = some (.inl 3) := (b1 y).trans h4
          have mq : ∀ k : Nat, m_q B y k = m_q S y k := fun k => by unfold m_q; rw [b2]
          have mi : ∀ k : Nat, ¬ k = 0 → g_i B 3 k y = g_i S 3 k y := fun k z => b6 3 k y (by omega) (by omega)
          have hE : m_E8 B S y := ⟨by unfold m_programs; rw [mi _ (by decide)], by funext j; unfold m_within; rw [mq, b4], by funext j; unfold m_names; rw [mq, b4], by funext j; unfold m_marks; rw [mq, b4], by unfold m_active; rw [mi _ (by decide)], by funext j; unfold m_callOf; rw [mq, b4], by funext j; unfold m_activeTimes; rw [mq, b4], mi 1 (by decide)⟩
          rw [emod B hE, if_neg hF, if_neg c3, if_pos c4]
          have eBc : m_cells B y = m_cells S y := by unfold m_cells; rw [mi _ (by decide)]
          have eBo : m_owner B y = m_owner S y := by funext j; unfold m_owner; rw [mq, b4]
          have eBf : m_first B y = m_first S y := by funext j; unfold m_first; rw [mq, b8, q9 _ _ _ (by omega)]
          have eBm : m_memory B y = m_memory S y := by funext j; unfold m_memory; rw [mq, b8, q9 _ _ _ (by omega)]
          have eBd : m_data B y = m_data S y := by funext j; unfold m_data; rw [mq, b4]
          have hmi0 : mi_ B B y p 1 := ⟨fun _ => rfl, fun _ _ _ => rfl, fun _ _ _ => rfl, fun _ _ _ => rfl, fun _ _ _ => rfl, fun _ _ _ _ => rfl, fun m => by rw [if_neg (by omega)], fun k hk => by rw [if_neg (by omega)], fun _ _ _ _ => rfl⟩
          have hml := mi_loop hn (by rw [eBc]; exact hcl) (m_programs S y) 1 0 B (by omega) (by omega) hBm hBy hmi0
          have hwt2 := wt_cB (y := y) (p := p) (m_programs S y) 1 0 B hBw
          generalize f_cB y p (m_programs S y) 1 0 B = R2 at hml hwt2
          obtain ⟨r2, S2⟩ := R2
          obtain ⟨u0, um, u1, u2, u3, u4, u5, u6, u7, u8, u9⟩ := hml
          simp only [] at u0 um u1 u2 u3 u4 u5 u6 u7 u8 u9 hwt2 ⊢
          have hdat : ∀ m : Nat, 1 ≤ m → m ≤ m_programs S y → ¬ f_lyM S y m (nI p) = 0 → m_data S y m = g_i S 1 7 (P m) := fun m m1 m2 mq => (hL.2.2.2.2.2.2.2.2.2.2.2.2 m m1 m2).2.2.1 (hq m m1 m2 mq)
          refine ⟨?_, P, L, D, N, ?_⟩
          · rw [q0, u0]
            exact ct_eq (n := m_programs S y) hE.2.1 (fun m m1 m2 mq => by rw [eBd]; exact hdat m m1 m2 mq) (m_programs S y) 1 0 (by omega) (by omega)
          · have s1 : ∀ a : Nat, g_sh S2 a = g_sh S a := fun a => (u1 a).trans (b1 a)
            have s2 : ∀ c k a : Nat, g_r S2 c k a = g_r S c k a := fun c k a => (u2 c k a).trans (b2 c k a)
            have s3 : ∀ c k a : Nat, g_l S2 c k a = g_l S c k a := fun c k a => (u3 c k a).trans (b3 c k a)
            have s4 : ∀ c k a : Nat, ¬ (c = 1 ∧ k = 7) → ¬ (c = 3 ∧ k = 0) → g_i S2 c k a = g_i S c k a := fun c k a z z2 => (u4 c k a).trans (b6 c k a z z2)
            have s5 : ∀ r a j : Nat, g_ar S2 r a j = g_ar S r a j := fun r a j => (u5 r a j).trans (b5 r a j)
            have s6 : ∀ r a j : Nat, ¬ r = 15 → g_ai S2 r a j = g_ai S r a j := fun r a j z => (u6 r a j z).trans (b4 r a j)
            have sq : ∀ k : Nat, m_q S2 y k = m_q S y k := fun k => by unfold m_q; rw [s2]
            have si : ∀ k : Nat, ¬ k = 0 → g_i S2 3 k y = g_i S 3 k y := fun k z => s4 3 k y (by omega) (by omega)
            have e_programs : m_programs S2 y = m_programs S y := by unfold m_programs; rw [si _ (by decide)]
            have e_cells : m_cells S2 y = m_cells S y := by unfold m_cells; rw [si _ (by decide)]
            have e_active : m_active S2 y = m_active S y := by unfold m_active; rw [si _ (by decide)]
            have e_prepared : m_prepared S2 y = m_prepared S y := by unfold m_prepared; rw [si _ (by decide)]
            have e_arguments : m_arguments S2 y = m_arguments S y := by unfold m_arguments; rw [si _ (by decide)]
            have e_used : m_used S2 y = m_used S y := by unfold m_used; rw [si _ (by decide)]
            have e_preparedAhead : m_preparedAhead S2 y = m_preparedAhead S y := by unfold m_preparedAhead; rw [si _ (by decide)]
            have e_within : m_within S2 y = m_within S y := by funext j; unfold m_within; rw [sq, s6 _ _ _ (by decide)]
            have e_names : m_names S2 y = m_names S y := by funext j; unfold m_names; rw [sq, s6 _ _ _ (by decide)]
            have e_marks : m_marks S2 y = m_marks S y := by funext j; unfold m_marks; rw [sq, s6 _ _ _ (by decide)]
            have e_manyFormals : m_manyFormals S2 y = m_manyFormals S y := by funext j; unfold m_manyFormals; rw [sq, s6 _ _ _ (by decide)]
            have e_activeTimes : m_activeTimes S2 y = m_activeTimes S y := by funext j; unfold m_activeTimes; rw [sq, s6 _ _ _ (by decide)]
            have e_owner : m_owner S2 y = m_owner S y := by funext j; unfold m_owner; rw [sq, s6 _ _ _ (by decide)]
            have e_rank : m_rank S2 y = m_rank S y := by funext j; unfold m_rank; rw [sq, s6 _ _ _ (by decide)]
            have e_external : m_external S2 y = m_external S y := by funext j; unfold m_external; rw [sq, s6 _ _ _ (by decide)]
            have e_how : m_how S2 y = m_how S y := by funext j; unfold m_how; rw [sq, s6 _ _ _ (by decide)]
            have e_bytes : m_bytes S2 y = m_bytes S y := by funext j; unfold m_bytes; rw [sq, s6 _ _ _ (by decide)]
            have e_callOf : m_callOf S2 y = m_callOf S y := by funext j; unfold m_callOf; rw [sq, s6 _ _ _ (by decide)]
            have e_baseOf : m_baseOf S2 y = m_baseOf S y := by funext j; unfold m_baseOf; rw [sq, s6 _ _ _ (by decide)]
            have e_usedAhead : m_usedAhead S2 y = m_usedAhead S y := by funext j; unfold m_usedAhead; rw [sq, s6 _ _ _ (by decide)]
            have e_placeOf : m_placeOf S2 y = m_placeOf S y := by funext j; unfold m_placeOf; rw [sq, s6 _ _ _ (by decide)]
            have e_argument : m_argument S2 y = m_argument S y := by funext j; unfold m_argument; rw [sq, s6 _ _ _ (by decide)]
            have e_argumentBytes : m_argumentBytes S2 y = m_argumentBytes S y := by funext j; unfold m_argumentBytes; rw [sq, s6 _ _ _ (by decide)]
            have e_first : m_first S2 y = m_first S y := by rw [← eBf]; funext j; unfold m_first; rw [show m_q S2 y 12 = m_q B y 12 from by rw [sq, mq], u9 _ _ _ (by omega)]
            have lyB : ∀ m : Nat, f_lyM B y m (nI p) = f_lyM S y m (nI p) := fun m => lyM_c hE.2.1 m (nI p)
            have e_data : ∀ m : Nat, m_data S2 y m = if 1 ≤ m ∧ m < 1 + m_programs S y ∧ ¬ f_lyM S y m (nI p) = 0 then 0 else m_data S y m := fun m => by rw [u7 m, lyB, eBd]
            have e_d17 : ∀ m : Nat, 1 ≤ m → m ≤ m_programs S y → g_i S2 1 7 (P m) = if m < 1 + m_programs S y ∧ ¬ f_lyM S y m (nI p) = 0 then 0 else g_i S 1 7 (P m) := fun m m1 m2 => (u4 1 7 (P m)).trans (b7 m m1 m2)
            have eU : ∀ j : Nat, r_U S2 y j = r_U S y j := fun j => by unfold r_U; rw [e_active, e_prepared, e_used, e_preparedAhead, e_usedAhead]
            obtain ⟨l1, l2, l3, l4, l5, l5', l6, l7, l8, l9, l10, l11, l12⟩ := id hL
            refine ⟨⟨hwt2, um, (s1 x).trans h3, (s1 y).trans h4⟩, ?_, ?_, ?_, ?_, ?_, ?_⟩
            · rw [e_active, e_prepared, e_cells]; omega
            · exact rP_fr hP (s4 2 2 x (by omega) (by omega)) e_programs e_within e_names e_marks e_manyFormals e_how e_bytes (fun k a _ => s2 1 k a) (s2 2 1 x) (fun a i => s5 0 a i) (fun k a z => s4 1 k a (by omega) (by omega)) s1 (fun a i => s6 4 a i (by decide)) (fun a i => s6 5 a i (by decide))
            · unfold r_C
              rw [e_programs, e_cells, e_owner, e_rank, e_first, e_external, e_activeTimes, e_manyFormals, s4 2 5 x (by omega) (by omega), s2, s2, s2]
              refine ⟨hC.1, fun k hk => ?_, fun m hm => ?_, fun i i1 i2 => ?_⟩
              · rw [s5, show g_al S2 2 (v_a (g_r S 2 4 x)) k = g_al S 2 (v_a (g_r S 2 4 x)) k from by rw [u9 _ _ _ (by omega), b8, q9 _ _ _ (by omega)]]
                exact hC.2.1 k hk
              · rw [s6 _ _ _ (by decide)]; exact hC.2.2.1 m hm
              · rw [e_data, if_neg (by omega)]; exact hC.2.2.2 i i1 i2
            · unfold r_L
              rw [e_active, e_programs, e_callOf, e_activeTimes, e_marks, s4 2 9 x (by omega) (by omega), s4 2 0 x (by omega) (by omega), s4 3 1 y (by omega) (by omega)]
              simp only [s1, s2, s3]
              refine ⟨l1, l2, l3, l4, l5, l5', l6, l7, l8, l9, l10, l11, fun i i1 i2 => ?_⟩
              obtain ⟨d1, d2, d3, d4⟩ := l12 i i1 i2
              rw [e_data, e_d17 i i1 i2]
              by_cases z : f_lyM S y i (nI p) = 0
              · rw [if_neg (fun w => w.2.2 z), if_neg (fun w => w.2 z)]
                exact ⟨d1, d2, d3, d4⟩
              · rw [if_pos ⟨i1, by omega, z⟩, if_pos ⟨by omega, z⟩]
                exact ⟨d1, d2, fun _ => rfl, fun w => ⟨(d4 w).1, fun u => absurd (hq i i1 i2 z) u⟩⟩
            · obtain ⟨k1, k2, k3, k4, k5, k6, k7, k8, k9⟩ := id hD
              refine ⟨fun q => by rw [e_cells]; exact k1 q, fun h q d z1 z2 => by rw [e_active, e_prepared, eU, eU]; exact k2 h q d z1 z2, k3, fun h q d e => ?_, by rw [eU]; exact k5, fun j hj => by rw [eU, eU, e_cells]; rw [e_active] at hj; exact k6 j hj, by rw [eU, e_used, e_active, e_arguments]; exact k7, fun j hj i hi => ?_, fun j hj hrr k hk ho => ?_⟩
              · rw [s2, u9 9 _ _ (by omega), b8]
                by_cases z : h = 0
                · subst z
                  rw [k1] at e
                  split at e
                  · rename_i w
                    have ed := Option.some.inj e
                    obtain ⟨kk, rfl⟩ : ∃ kk, q = 16 + kk := ⟨q - 16, by omega⟩
                    have ed : kk = d := by omega
                    subst ed
                    rw [q8 kk (by omega), u8 kk (by rw [eBc]; omega), eBo, lyB, eBf, eBm]
                    have := k4 0 (16 + kk) kk (by rw [k1, if_pos ⟨by omega, by omega⟩]; exact congrArg some (by omega))
                    rw [this]
                  · cases e
                · have hN := D_N hL hD hA e
                  obtain ⟨z1, z2, z3, z4⟩ := k2 h q d (by omega) e
                  have hmn := U_mono (fun j hj => (k6 j hj).1) (h - 1) 0 (by split at z1 <;> omega)
                  rw [Nat.zero_add] at hmn
                  rw [q9 9 _ _ (fun w => z (l7 h 0 hN (Nat.zero_le _) (Or.inr ⟨8, by omega, by omega, w.2.1⟩)))]
                  rw [show m_memory S2 y d = m_memory S y d from by
                    rw [← eBm]; unfold m_memory
                    rw [show m_q S2 y 16 = m_q B y 16 from by rw [sq, mq], u9 _ _ _ (fun w => by have := w.2.2; rw [eBc] at this; omega)]]
                  exact k4 h q d e
              · rw [e_active] at hj
                rw [e_callOf, e_manyFormals] at hi
                rw [s2, s2, s2, s5, s6 7 _ _ (by decide), s6 8 _ _ (by decide), e_placeOf, e_bytes, e_callOf]
                exact k8 j hj i hi
              · rw [e_active] at hj
                rw [e_callOf, e_marks] at hrr
                rw [e_cells] at hk
                rw [e_callOf, e_owner] at ho
                rw [e_baseOf, e_rank]
                exact k9 j hj hrr k hk ho
            · unfold r_A
              rw [e_active, e_prepared, e_arguments, e_programs, e_marks, e_callOf, e_argument, e_argumentBytes]
              simp only [s2, s5, s4 0 4 _ (show ¬ (0 = 1 ∧ 4 = 7) by omega) (show ¬ (0 = 3 ∧ 4 = 0) by omega), s6 7 _ _ (show ¬ 7 = 15 by omega), s6 8 _ _ (show ¬ 8 = 15 by omega)]
              exact hA
        · rw [if_neg c4]
          simp only []
          rw [emod _ e8, if_neg hF, if_neg c3, if_neg c4]
          exact ⟨rfl, same⟩
  · rw [if_neg c1]
    simp only []
    rw [emod _ e8, if_pos (by rw [f_isF, if_neg c1])]
    exact ⟨rfl, same⟩
