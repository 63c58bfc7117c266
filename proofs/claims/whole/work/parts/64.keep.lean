/-! WHAT THE CLASS LEAVES ALONE, and the reference -/
def k_F (S T : gs_S) : Prop := (∀ a : Nat, g_sh T a = g_sh S a) ∧ (∀ k a : Nat, g_r T 3 k a = g_r S 3 k a) ∧ (∀ k a : Nat, g_i T 3 k a = g_i S 3 k a) ∧ ∀ r a j : Nat, 10 ≤ r → g_ai T r a j = g_ai S r a j
def k_X (S T : gs_S) : Prop := m_t T ∧ (∀ (a : Nat) (z : Nat ⊕ (Nat × Nat)), g_sh S a = some z → g_sh T a = some z) ∧ ∀ k a : Nat, g_sh S a = some (.inl 3) → g_i T 3 k a = g_i S 3 k a
theorem k_r (S : gs_S) : k_F S S := ⟨fun _ => rfl, fun _ _ => rfl, fun _ _ => rfl, fun _ _ _ _ => rfl⟩
theorem k_pi {S T : gs_S} {c k a : Nat} {v : Int32} (h : k_F S T) (hc : c ≠ 3) : k_F S (p_i T c k a v) := ⟨h.1, h.2.1, fun k' a' => by rw [x_g_i_p_i, if_neg (fun z => hc z.1.symm)]; exact h.2.2.1 k' a', h.2.2.2⟩
theorem k_pr {S T : gs_S} {c k a : Nat} {v : Option Nat} (h : k_F S T) (hc : c ≠ 3) : k_F S (p_r T c k a v) := ⟨h.1, fun k' a' => by rw [x_g_r_p_r, if_neg (fun z => hc z.1.symm)]; exact h.2.1 k' a', h.2.2.1, h.2.2.2⟩
theorem k_pl {S T : gs_S} {c k a : Nat} {v : Int64} (h : k_F S T) : k_F S (p_l T c k a v) := h
theorem k_pal {S T : gs_S} {r a j : Nat} {v : Int64} (h : k_F S T) : k_F S (p_al T r a j v) := h
theorem k_par {S T : gs_S} {r a j : Nat} {v : Option Nat} (h : k_F S T) : k_F S (p_ar T r a j v) := h
theorem k_pai {S T : gs_S} {r a j : Nat} {v : Int32} (h : k_F S T) (hr : r < 10) : k_F S (p_ai T r a j v) := ⟨h.1, h.2.1, h.2.2.1, fun r' a' j' z => by rw [x_g_ai_p_ai, if_neg (fun u => by omega)]; exact h.2.2.2 r' a' j' z⟩
theorem k_FX {S T : gs_S} (hM : m_t S) (h : k_F S T) : k_X S T := ⟨mt_fr hM h.1 h.2.1 h.2.2.1 h.2.2.2, fun a z e => by rw [h.1]; exact e, fun k a _ => h.2.2.1 k a⟩
theorem k_newCell (S : gs_S) (x : Nat) (o : Option Nat) (v : Int64) : k_F S (f_newCell S x o v).2 := by
  unfold f_newCell
  split
  · exact k_pi (k_pal (k_pal (k_par (k_r S)))) (by decide)
  · exact k_r S
theorem k_cell (S : gs_S) (x : Nat) (p : Int32) (v : Int64) : k_F S (f_cell S x p v).2 := by
  unfold f_cell
  split
  · exact k_r S
  · split
    · exact k_newCell _ _ _ _
    · exact k_r S
theorem k_formal (S : gs_S) (x : Nat) (p how size : Int32) : k_F S (f_formal S x p how size).2 := by
  unfold f_formal
  repeat' split
  all_goals first | exact k_r S | exact k_pi (k_pai (k_pai (k_r S) (by decide)) (by decide)) (by decide)
theorem k_copy {S T : gs_S} (h : k_F S T) (a j : Nat) : k_F S (f_copy T a j) := by
  unfold f_copy
  split
  · exact h
  · exact k_pai (k_par (k_pal h)) (by decide)
theorem k_actual (S : gs_S) (x : Nat) (n h : Int32) : k_F S (f_actual S x n h).2 := by
  unfold f_actual
  repeat' split
  all_goals first | exact k_r S | exact k_pi (k_r S) (by decide) | exact k_pi (k_copy (k_pai (k_pai (k_par (k_r S)) (by decide)) (by decide)) _ _) (by decide) | exact k_pi (k_pai (k_pai (k_par (k_r S)) (by decide)) (by decide)) (by decide)
theorem k_shared (S : gs_S) (x : Nat) (nm : Int32) : k_F S (f_shared S x nm).2 := by
  unfold f_shared
  repeat' split
  all_goals first | exact k_r S | exact k_pai (k_newCell _ _ _ _) (by decide)
theorem k_give {S T : gs_S} (h : k_F S T) (x a : Nat) : k_F S (f_give T x a) := h
theorem k_mf {S : gs_S} (x co pa : Nat) : ∀ (k i : Nat) (n : Int32) (T : gs_S), k_F S T → k_F S (f_mf x co pa k i n T).2 := by
  intro k
  induction k with
  | zero => intro i n T h; exact h
  | succ k ih =>
    intro i n T h
    rw [f_mf]
    split
    · exact ih _ _ _ h
    · split
      · exact ih _ _ _ h
      · exact ih _ _ _ (k_give (k_pi h (by decide)) _ _)
theorem k_cancel (S : gs_S) (x : Nat) (fr nm : Int32) : k_F S (f_cancel S x fr nm).2 := by
  unfold f_cancel
  repeat' split
  all_goals first | exact k_r S | exact k_mf _ _ _ _ _ _ _ (k_r S)
theorem k_set (S : gs_S) (x : Nat) (n : Int32) (v : Int64) : k_F S (f_set S x n v).2 := by
  unfold f_set
  split
  · exact k_r S
  · exact k_pal (k_r S)
theorem k_leave (S : gs_S) (x : Nat) (v : Int64) : k_F S (f_leave S x v).2 := by
  unfold f_leave
  repeat' split
  all_goals first | exact k_r S | exact k_pl (k_pr (k_pi (k_pr (k_pi (k_pr (k_r S) (by decide)) (by decide)) (by decide)) (by decide)) (by decide))
theorem k_cv {S : gs_S} (lv fh lb fb : Nat) : ∀ (k i : Nat) (T : gs_S), k_F S T → k_F S (f_cv lv fh lb fb k i T) := by
  intro k
  induction k with
  | zero => intro i T h; exact h
  | succ k ih =>
    intro i T h
    rw [f_cv]
    split
    · exact ih _ _ (k_pai h (by decide))
    · exact ih _ _ (k_copy (k_pai h (by decide)) _ _)
theorem k_e6 (S : gs_S) (x lv a : Nat) : k_F S (e_6 S x lv a) := by
  unfold e_6 e_2 f_cvs
  exact k_pi (k_pr (k_pr (k_pr (k_cv _ _ _ _ _ _ _ (k_pr (k_r S) (by decide))) (by decide)) (by decide)) (by decide)) (by decide)
theorem k_enter (S : gs_S) (x : Nat) : k_F S (f_enter S x).2 := by
  unfold f_enter
  repeat' split
  all_goals first | exact k_r S | exact k_pr (k_r S) (by decide) | exact k_give (k_e6 _ _ _ _) _ _ | exact k_e6 _ _ _ _
theorem k_ext {S T : gs_S} (hM : m_t S) (h : s_X S T) : k_X S T := ⟨mt_ext hM h, fun a z e => (h.1 a z e).1, fun k a e => ((h.1 a _ e).2.1 3 k).1⟩
theorem k_XF {S T U : gs_S} (h : k_X S T) (h2 : k_F T U) : k_X S U := ⟨mt_fr h.1 h2.1 h2.2.1 h2.2.2.1 h2.2.2.2, fun a z e => by rw [h2.1]; exact h.2.1 a z e, fun k a e => by rw [h2.2.2.1]; exact h.2.2 k a e⟩
theorem k_FXX {S T U : gs_S} (h : k_F S T) (h2 : k_X T U) : k_X S U := ⟨h2.1, fun a z e => h2.2.1 a z (by rw [h.1]; exact e), fun k a e => by rw [h2.2.2 k a (by rw [h.1]; exact e)]; exact h.2.2.1 k a⟩
theorem k_program {S S1 : gs_S} {x : Nat} {wi nm mk r : Int32} (hM : m_t S) (hq : q_program S x wi nm mk r S1) : k_X S S1 := by
  rcases hq with ⟨-, -, rfl⟩ | ⟨-, q, h, b, h1, h2, rfl, -⟩
  · exact k_FX hM (k_r _)
  · have f1 : k_F S (p_i S 2 2 x (g_i S 2 2 x + 1)) := k_pi (k_r S) (by decide)
    exact k_XF (k_FXX f1 (k_ext (k_FX hM f1).1 (sX_nP (S := p_i S 2 2 x (g_i S 2 2 x + 1)) h1 h2))) (k_par (k_r _))
theorem k_nul {S T : gs_S} (hh : Nat) (h : k_F S T) : ∀ k : Nat, k_F S (f_nul T hh k) := by
  intro k
  exact ⟨fun a => by rw [nul_sh]; exact h.1 a, fun k' a => by rw [nul_r]; exact h.2.1 k' a, fun k' a => by rw [nul_i]; exact h.2.2.1 k' a, fun r a j z => by rw [nul_ai]; exact h.2.2.2 r a j z⟩
theorem k_begin {S T : gs_S} (h : k_F S T) (a : Nat) (p : Option Nat) : k_F S (f_begin T a p) := k_nul _ (k_pi (k_pr h (by decide)) (by decide)) _
theorem k_call {S S1 : gs_S} {x : Nat} {fr nm r : Int32} (hM : m_t S) (hq : q_call S x fr nm r S1) : k_X S S1 := by
  have f1 : k_F S (p_r S 2 10 x none) := k_pr (k_r S) (by decide)
  rcases hq with ⟨-, -, rfl⟩ | ⟨-, c, u, T1, -, hl, rfl, -⟩
  · exact k_FX hM f1
  · rcases hl with ⟨-, rfl⟩ | ⟨-, hh, pl, bb, va, h1, h2, rfl⟩
    · exact k_XF (k_FX hM f1) (k_begin (k_pr (k_r _) (by decide)) _ _)
    · exact k_XF (k_FXX f1 (k_ext (k_FX hM f1).1 (sX_nL h1 h2))) (k_begin (k_pr (k_pr (k_r _) (by decide)) (by decide)) _ _)
/-- the reference makes nothing and unmakes nothing -/
theorem h_pr (T : gs_S) (y : Nat) (wi nm mk : Int32) (a : Nat) : g_sh (f_prM T y wi nm mk).2 a = g_sh T a := by
  unfold f_prM
  repeat' split
  all_goals rfl
theorem h_ce (T : gs_S) (y : Nat) (p : Int32) (v : Int64) (a : Nat) : g_sh (f_ceM T y p v).2 a = g_sh T a := by
  unfold f_ceM
  repeat' split
  all_goals rfl
theorem h_fo (T : gs_S) (y : Nat) (p how size : Int32) (a : Nat) : g_sh (f_foM T y p how size).2 a = g_sh T a := by
  unfold f_foM
  repeat' split
  all_goals rfl
theorem h_ca (T : gs_S) (y : Nat) (fr nm : Int32) (a : Nat) : g_sh (f_caM (f_un T y) y fr nm).2 a = g_sh T a := by
  rw [← un_sh T y a]
  generalize f_un T y = U
  unfold f_caM f_caD
  repeat' split
  all_goals rfl
theorem h_ac (T : gs_S) (y : Nat) (n h : Int32) (a : Nat) : g_sh (f_acM T y n h).2 a = g_sh T a := by
  unfold f_acM a_W a_V
  repeat' split
  all_goals rfl
theorem h_e1 (y p a : Nat) : ∀ (k i : Nat) (V : gs_S), g_sh (f_e1 y p k i V) a = g_sh V a := by
  intro k
  induction k with
  | zero => intro i V; rfl
  | succ k ih => intro i V; rw [f_e1, ih, st_sh]
theorem h_en (T : gs_S) (y a : Nat) : g_sh (f_enM T y).2 a = g_sh T a := by
  unfold f_enM
  split
  · show g_sh (f_e1 _ _ _ _ _) a = _
    rw [h_e1]
    rfl
  · exact un_sh T y a
theorem h_se (T : gs_S) (y : Nat) (n : Int32) (v : Int64) (a : Nat) : g_sh (f_setM T y n v).2 a = g_sh T a := by
  unfold f_setM
  repeat' split
  all_goals rfl
theorem h_ge (T : gs_S) (y : Nat) (n : Int32) (a : Nat) : g_sh (f_getM T y n).2 a = g_sh T a := by
  unfold f_getM
  repeat' split
  all_goals rfl
theorem h_le (T : gs_S) (y : Nat) (v : Int64) (a : Nat) : g_sh (f_leM T y v).2 a = g_sh T a := by
  unfold f_leM
  split
  · rfl
  · exact un_sh T y a
theorem h_cB (y p a : Nat) : ∀ (k q : Nat) (mn : Int32) (V : gs_S), g_sh (f_cB y p k q mn V).2 a = g_sh V a := by
  intro k
  induction k with
  | zero => intro q mn V; rfl
  | succ k ih =>
    intro q mn V
    rw [f_cB]
    split
    · exact ih _ _ _
    · rw [ih]; rfl
theorem h_cn (T : gs_S) (y : Nat) (fr nm : Int32) (a : Nat) : g_sh (f_cnM T y fr nm).2 a = g_sh T a := by
  unfold f_cnM
  repeat' split
  all_goals first | rfl | exact h_cB _ _ _ _ _ _ _
theorem h_sh (T : gs_S) (y : Nat) (nm : Int32) (a : Nat) : g_sh (f_shM T y nm).2 a = g_sh T a := by
  unfold f_shM
  repeat' split
  all_goals rfl
/-- a write into the law's own array -/
theorem r_out {S : gs_S} {x y t o : Nat} {P L : Nat → Nat} {D : Nat → Nat → Option Nat} {N : Nat} (h : r_R S x y t P L D N) (ho : g_sh S o = some (.inr (2, 1))) (v : Int64) : r_R (p_al S 2 o 0 v) x y t P L D N := by
  obtain ⟨⟨h1, h2, h3, h4⟩, hb, hP, hC, hL, hD, hA⟩ := h
  have hne : ¬ v_a (g_r S 2 4 x) = o := fun z => by
    obtain ⟨b, e1, e2⟩ := (h1.2.2.2.2.2 x h3).2.2.1
    rw [e1, v_a_s] at z
    rw [z, ho] at e2
    cases e2
  have al : ∀ r a j : Nat, ¬ (r = 2 ∧ a = o) → g_al (p_al S 2 o 0 v) r a j = g_al S r a j := fun r a j z => by rw [x_g_al_p_al, if_neg (fun u => z ⟨u.1, u.2.1⟩)]
  refine ⟨⟨h1, h2, h3, h4⟩, hb, hP, ?_, hL, ?_, hA⟩
  · refine ⟨hC.1, fun k hk => ?_, hC.2.2⟩
    obtain ⟨z1, z2, z3⟩ := hC.2.1 k hk
    refine ⟨z1, z2, fun u => ⟨?_, (z3 u).2⟩⟩
    have e1 : m_first (p_al S 2 o 0 v) y k = m_first S y k := al 19 _ _ (by omega)
    rw [e1]
    refine (al 2 _ _ (fun w => hne w.2)).trans (z3 u).1
  · obtain ⟨d1, d2, d3, d4, d5, d6, d7, d8, d9⟩ := hD
    refine ⟨d1, d2, d3, fun hh q d e => ?_, d5, d6, d7, d8, d9⟩
    have e1 : m_memory (p_al S 2 o 0 v) y d = m_memory S y d := al 22 _ _ (by omega)
    rw [e1]
    exact (al 9 _ _ (by omega)).trans (d4 hh q d e)
theorem li_o (S : gs_S) (o : Nat) (v : Int64) (b : Option Nat) : ∀ (k : Nat) (a : Option Nat), f_li (p_al S 2 o 0 v) k a b = f_li S k a b := by
  intro k
  induction k with
  | zero => intro a; cases a <;> rfl
  | succ k ih =>
    intro a
    cases a with
    | none => rfl
    | some a => rw [f_li, f_li, ih]; rfl
theorem sees_o (S : gs_S) (o : Nat) (v : Int64) (a b : Nat) : f_sees (p_al S 2 o 0 v) a b = f_sees S a b := by
  unfold f_sees
  rw [li_o]
  rfl
theorem f_get_o (S : gs_S) (x o : Nat) (n : Int32) (v : Int64) : f_get (p_al S 2 o 0 v) x n = f_get S x n := by
  unfold f_get
  have e : f_holder (p_al S 2 o 0 v) x n = f_holder S x n := by
    unfold f_holder
    simp only [sees_o]
    rfl
  rw [e]
  cases f_holder S x n with
  | none => rfl
  | some b =>
    simp only []
    rw [x_g_al_p_al, if_neg (fun z => absurd z.1 (by decide))]
    rfl
