/-! enter: what the reference does -/
theorem kb_c {S T : gs_S} {y p : Nat} (e1 : m_arguments T y = m_arguments S y) (e2 : ∀ m : Nat, m_argument T y m = m_argument S y m) (e3 : m_how T y = m_how S y) : kb T y p = kb S y p := by
  funext m
  unfold kb
  rw [e1, e2, e3]
/-- after the first i arguments -/
def ev_ (B V : gs_S) (y p i : Nat) : Prop := w_t V ∧ m_t V ∧ (∀ a : Nat, g_sh V a = g_sh B a) ∧ (∀ c k a : Nat, g_r V c k a = g_r B c k a) ∧ (∀ c k a : Nat, g_l V c k a = g_l B c k a) ∧ (∀ c k a : Nat, ¬ (c = 3 ∧ k = 17) → g_i V c k a = g_i B c k a) ∧ (∀ r a j : Nat, ¬ (r = 26 ∧ 16 * m_active B y ≤ j) → g_ai V r a j = g_ai B r a j) ∧ (∀ r a j : Nat, g_ar V r a j = g_ar B r a j) ∧ (∀ r a j : Nat, ¬ (r = 22 ∧ m_used B y ≤ j) → g_al V r a j = g_al B r a j) ∧ m_used V y = m_used B y + nc_ (kb B y p) i ∧ (∀ m : Nat, m < i → m_placeOf V y (16 * m_active B y + m) = if kb B y p m = true then nI (m_used B y + nc_ (kb B y p) m) else if m < m_arguments B y then m_argument B y m else -1) ∧ ∀ m : Nat, m < i → kb B y p m = true → m_memory V y (m_used B y + nc_ (kb B y p) m) = m_memory B y (m_argument B y m).toNatClampNeg
theorem wt_cp {V : gs_S} {y : Nat} {v : Int64} (h : w_t V) : w_t (f_cp V y v) := wt_pi0 (wt_pal h) (by decide)
theorem wt_pl' {V : gs_S} {y i : Nat} {v : Int32} (h : w_t V) : w_t (e_pl V y i v) := wt_pai h (fun z => absurd z (by decide))
set_option maxHeartbeats 8000000 in
theorem ev_loop {B : gs_S} {y p mf : Nat} (hY : g_sh B y = some (.inl 3)) (hmf : mf ≤ 16) (hag : m_arguments B y ≤ 16) (hus : m_used B y + 16 ≤ 59800) (hhow : ∀ m : Nat, m < mf → ∃ w : Nat, w ≤ 3 ∧ m_how B y (16 * (p - 1) + m) = nI w) (hargs : ∀ m : Nat, m < m_arguments B y → ¬ m_argument B y m = -1 → ∃ d : Nat, m_argument B y m = nI d ∧ d < m_used B y) : ∀ (k i : Nat) (V : gs_S), i + k = mf → ev_ B V y p i → ev_ B (f_e1 y p k i V) y p (i + k) := by
  intro k
  induction k with
  | zero => intro i V _ h; exact h
  | succ k ih =>
    intro i V hik h
    rw [f_e1, show i + (k + 1) = i + 1 + k by omega]
    refine ih (i + 1) _ (by omega) ?_
    obtain ⟨g1, g2, g3, g4, g5, g6, g7, g8, g9, g10, g11, g12⟩ := id h
    have hnc := nc_le (kb B y p) i
    have hY2 : g_sh V y = some (.inl 3) := by rw [g3]; exact hY
    have hw2 : m_t (e_st V y p i) := mt_st g2 hY2 (by omega) (by omega)
    have eag : m_arguments V y = m_arguments B y := by unfold m_arguments; rw [g6 3 24 y (by omega)]
    have eac : m_active V y = m_active B y := by unfold m_active; rw [g6 3 22 y (by omega)]
    have qk : ∀ k : Nat, m_q V y k = m_q B y k := fun k => by unfold m_q; rw [g4]
    have earg : ∀ m : Nat, m_argument V y m = m_argument B y m := fun m => by unfold m_argument; rw [qk, g7 27 _ _ (by omega)]
    have ehow : m_how V y = m_how B y := by funext m; unfold m_how; rw [qk, g7 20 _ _ (by omega)]
    obtain ⟨w, w3, ew⟩ := hhow i (by omega)
    have eod : e_od V y p i = 1 ↔ ¬ m_how B y (16 * (p - 1) + i) &&& 1 = 0 := by
      unfold e_od
      rw [ehow, ew]
      exact odd2 w w3
    -- a step that only writes a place
    have put : ∀ (v : Int32), ¬ kb B y p i = true → v = (if i < m_arguments B y then m_argument B y i else -1) → m_t (e_pl V y i v) → ev_ B (e_pl V y i v) y p (i + 1) := fun v hk hv hmt => by
      have hnc1 : nc_ (kb B y p) (i + 1) = nc_ (kb B y p) i := by rw [nc_, if_neg hk, Nat.add_zero]
      unfold e_pl at hmt ⊢
      rw [eac] at hmt ⊢
      refine ⟨wt_pai g1 (fun z => absurd z (by decide)), hmt, fun a => g3 a, fun c k a => g4 c k a, fun c k a => g5 c k a, fun c k a z => g6 c k a z, fun r a j z => ?_, fun r a j => g8 r a j, fun r a j z => g9 r a j z, by rw [hnc1]; exact g10, fun m hm => ?_, fun m hm u => ?_⟩
      · rw [x_g_ai_p_ai, if_neg (fun u => z ⟨u.1, by omega⟩)]; exact g7 r a j z
      · show g_ai (p_ai V 26 (m_q V y 21) (16 * m_active B y + i) v) 26 (m_q V y 21) (16 * m_active B y + m) = _
        rw [rd_ai]
        by_cases z : m = i
        · subst z
          rw [if_pos rfl, if_neg hk, hv]
        · rw [if_neg (by omega)]
          exact g11 m (by omega)
      · by_cases z : m = i
        · rw [z] at u; exact absurd u hk
        · exact g12 m (by omega) u
    unfold e_st at hw2 ⊢
    rw [eag, earg] at hw2 ⊢
    by_cases c1 : i < m_arguments B y
    · rw [if_neg (fun z => by rw [nI_leI (by omega) (by omega)] at z; omega)] at hw2 ⊢
      by_cases c2 : m_argument B y i = -1
      · rw [if_pos c2] at hw2 ⊢
        exact put _ (fun z => (kb_t.mp z).1.2 c2) (by rw [if_pos c1, c2]) hw2
      · rw [if_neg c2] at hw2 ⊢
        by_cases c3 : m_how B y (16 * (p - 1) + i) &&& 1 = 0
        · rw [if_neg (fun z => (eod.mp z) c3)] at hw2 ⊢
          exact put _ (fun z => (kb_t.mp z).2 c3) (by rw [if_pos c1]) hw2
        · rw [if_pos (eod.mpr c3)] at hw2 ⊢
          have hk : kb B y p i = true := kb_t.mpr ⟨⟨c1, c2⟩, c3⟩
          have hnc1 : nc_ (kb B y p) (i + 1) = nc_ (kb B y p) i + 1 := by rw [nc_, if_pos hk]
          obtain ⟨d, ed, hd⟩ := hargs i c1 c2
          have hv : m_memory V y (m_argument B y i).toNatClampNeg = m_memory B y (m_argument B y i).toNatClampNeg := by
            rw [ed, nI_clamp (by omega)]
            unfold m_memory
            rw [qk, g9 22 _ _ (by omega)]
          rw [hv, g10] at hw2 ⊢
          have hfr : f_cp V y (m_memory B y (m_argument B y i).toNatClampNeg) = p_i (p_al V 22 (m_q V y 16) (m_used B y + nc_ (kb B y p) i) (m_memory B y (m_argument B y i).toNatClampNeg)) 3 17 y (nI (m_used B y + nc_ (kb B y p) i + 1)) := by unfold f_cp; rw [g10]
          have hac2 : m_active (f_cp V y (m_memory B y (m_argument B y i).toNatClampNeg)) y = m_active B y := by rw [hfr, ← eac]; simp [m_programs, m_cells, m_active, m_prepared, m_arguments, m_used, m_preparedAhead, m_within, m_names, m_marks, m_manyFormals, m_activeTimes, m_data, m_owner, m_rank, m_external, m_first, m_how, m_bytes, m_memory, m_callOf, m_baseOf, m_usedAhead, m_placeOf, m_argument, m_argumentBytes, m_q, x_gs]
          have hq2 : m_q (f_cp V y (m_memory B y (m_argument B y i).toNatClampNeg)) y 21 = m_q V y 21 := by rw [hfr]; simp [m_programs, m_cells, m_active, m_prepared, m_arguments, m_used, m_preparedAhead, m_within, m_names, m_marks, m_manyFormals, m_activeTimes, m_data, m_owner, m_rank, m_external, m_first, m_how, m_bytes, m_memory, m_callOf, m_baseOf, m_usedAhead, m_placeOf, m_argument, m_argumentBytes, m_q, x_gs]
          have hwc : w_t (f_cp V y (m_memory B y (m_argument B y i).toNatClampNeg)) := wt_cp g1
          unfold e_pl at hw2 ⊢
          rw [hac2, hq2] at hw2 ⊢
          rw [hfr] at hw2 hwc ⊢
          refine ⟨wt_pai hwc (fun z => absurd z (by decide)), hw2, fun a => g3 a, fun c k a => g4 c k a, fun c k a => g5 c k a, fun c k a z => ?_, fun r a j z => ?_, fun r a j => g8 r a j, fun r a j z => ?_, ?_, fun m hm => ?_, fun m hm u => ?_⟩
          · rw [x_g_i_p_ai, x_g_i_p_i, if_neg (fun u => z ⟨u.1, u.2.1⟩)]; exact g6 c k a z
          · rw [x_g_ai_p_ai, if_neg (fun u => z ⟨u.1, by omega⟩)]; exact g7 r a j z
          · rw [x_g_al_p_ai, x_g_al_p_i, x_g_al_p_al, if_neg (fun u => z ⟨u.1, by omega⟩)]; exact g9 r a j z
          · rw [hnc1]
            unfold m_used
            rw [x_g_i_p_ai, rd_i, nI_clamp (by show m_used B y + _ + 1 < _; omega)]
            rfl
          · show g_ai (p_ai _ 26 (m_q V y 21) (16 * m_active B y + i) _) 26 (m_q V y 21) (16 * m_active B y + m) = _
            rw [rd_ai]
            by_cases z : m = i
            · subst z
              rw [if_pos rfl, if_pos hk]
            · rw [if_neg (by omega)]
              exact g11 m (by omega)
          · show g_al (p_al V 22 (m_q V y 16) (m_used B y + nc_ (kb B y p) i) (m_memory B y (m_argument B y i).toNatClampNeg)) 22 (m_q V y 16) (m_used B y + nc_ (kb B y p) m) = _
            rw [rd_al]
            by_cases z : m = i
            · subst z; rw [if_pos rfl]
            · have := nc_lt (show m < i by omega) u
              rw [if_neg (by omega)]
              exact g12 m (by omega) u
    · rw [if_pos ((nI_leI (by omega) (by omega)).mpr (by omega))] at hw2 ⊢
      exact put _ (fun z => c1 (kb_t.mp z).1.1) (by rw [if_neg c1]) hw2
/-- the cells' first values: not of its own -/
theorem e2_0 {W : gs_S} {y p c : Nat} (hM : m_t W) (hY : g_sh W y = some (.inl 3)) (hc : c ≤ 200) (hp : p ≤ 60) (f0 : Nat → Nat → Nat → Int64) : ∀ (k i : Nat) (f : Nat → Nat → Nat → Int64), i + k = c → (∀ r a j : Nat, f r a j = if r = 22 ∧ a = m_q W y 16 ∧ j < i ∧ m_owner W y j = p ∧ ¬ m_marks W y p &&& 1 = 0 then f0 19 (m_q W y 12) j else f0 r a j) → (f_e2 W y p 0 k i 0 f).1 = 0 ∧ ∀ r a j : Nat, (f_e2 W y p 0 k i 0 f).2 r a j = if r = 22 ∧ a = m_q W y 16 ∧ j < c ∧ m_owner W y j = p ∧ ¬ m_marks W y p &&& 1 = 0 then f0 19 (m_q W y 12) j else f0 r a j := by
  intro k
  induction k with
  | zero => intro i f hi h; rw [show c = i by omega]; exact ⟨rfl, h⟩
  | succ k ih =>
    intro i f hik h
    rw [f_e2, if_pos (rfl : (0 : Int32) = 0)]
    have how := b_owner hM hY (i := i) (by omega)
    have hoq : nI (m_owner W y i) = nI p ↔ m_owner W y i = p := nI_eq (by omega) (by omega)
    have ext : ∀ r a j : Nat, ¬ (r = 22 ∧ a = m_q W y 16 ∧ j = i ∧ m_owner W y i = p ∧ ¬ m_marks W y p &&& 1 = 0) → f r a j = if r = 22 ∧ a = m_q W y 16 ∧ j < i + 1 ∧ m_owner W y j = p ∧ ¬ m_marks W y p &&& 1 = 0 then f0 19 (m_q W y 12) j else f0 r a j := fun r a j z => by
      rw [h]
      by_cases u : r = 22 ∧ a = m_q W y 16 ∧ j < i ∧ m_owner W y j = p ∧ ¬ m_marks W y p &&& 1 = 0
      · rw [if_pos u, if_pos ⟨u.1, u.2.1, by omega, u.2.2.2⟩]
      · rw [if_neg u, if_neg (fun v => by
          by_cases q : j = i
          · rw [q] at v; exact z ⟨v.1, v.2.1, q, v.2.2.2⟩
          · exact u ⟨v.1, v.2.1, by omega, v.2.2.2⟩)]
    by_cases c1 : m_owner W y i = p
    · rw [if_pos (hoq.mpr c1)]
      unfold f_is
      by_cases c2 : m_marks W y p &&& 1 = 0
      · rw [if_pos c2, if_pos rfl]
        exact ih (i + 1) f (by omega) (fun r a j => ext r a j (fun z => z.2.2.2.2 c2))
      · rw [if_neg c2, if_neg (by decide)]
        refine ih (i + 1) _ (by omega) (fun r a j => ?_)
        unfold u_3
        by_cases u : r = 22 ∧ a = m_q W y 16 ∧ j = i
        · rw [if_pos u, if_pos ⟨u.1, u.2.1, by omega, by rw [u.2.2]; exact c1, c2⟩, h, if_neg (fun z => absurd z.1 (by decide)), u.2.2]
        · rw [if_neg u]
          exact ext r a j (fun z => u ⟨z.1, z.2.1, z.2.2.1⟩)
    · rw [if_neg (fun z => c1 (hoq.mp z))]
      exact ih (i + 1) f (by omega) (fun r a j => ext r a j (fun z => c1 z.2.2.2.1))
/-- of its own -/
theorem e2_1 {W : gs_S} {y p c : Nat} {own : Int32} (hown : ¬ own = 0) (hM : m_t W) (hY : g_sh W y = some (.inl 3)) (hc : c ≤ 200) (hp : p ≤ 60) (f0 : Nat → Nat → Nat → Int64) : ∀ (k i : Nat) (f : Nat → Nat → Nat → Int64), i + k = c → (∀ r a j : Nat, ¬ (r = 22 ∧ a = m_q W y 16 ∧ m_used W y ≤ j) → f r a j = f0 r a j) → (∀ j : Nat, j < i → m_owner W y j = p → f 22 (m_q W y 16) (m_used W y + cn_ (m_owner W y) p j) = f0 19 (m_q W y 12) j) → (f_e2 W y p own k i (cn_ (m_owner W y) p i) f).1 = cn_ (m_owner W y) p c ∧ (∀ r a j : Nat, ¬ (r = 22 ∧ a = m_q W y 16 ∧ m_used W y ≤ j) → (f_e2 W y p own k i (cn_ (m_owner W y) p i) f).2 r a j = f0 r a j) ∧ ∀ j : Nat, j < c → m_owner W y j = p → (f_e2 W y p own k i (cn_ (m_owner W y) p i) f).2 22 (m_q W y 16) (m_used W y + cn_ (m_owner W y) p j) = f0 19 (m_q W y 12) j := by
  intro k
  induction k with
  | zero => intro i f hi h h'; rw [show c = i by omega]; exact ⟨rfl, h, h'⟩
  | succ k ih =>
    intro i f hik h h'
    rw [f_e2, if_neg hown]
    have how := b_owner hM hY (i := i) (by omega)
    have hoq : nI (m_owner W y i) = nI p ↔ m_owner W y i = p := nI_eq (by omega) (by omega)
    by_cases c1 : m_owner W y i = p
    · rw [if_pos (hoq.mpr c1)]
      have e1 : cn_ (m_owner W y) p i + 1 = cn_ (m_owner W y) p (i + 1) := by rw [cn_, if_pos c1]
      rw [e1]
      refine ih (i + 1) _ (by omega) (fun r a j z => ?_) (fun j hj ho => ?_)
      · unfold u_3
        rw [if_neg (fun u => z ⟨u.1, u.2.1, by omega⟩)]
        exact h r a j z
      · unfold u_3
        by_cases z : j = i
        · subst z
          rw [if_pos ⟨rfl, rfl, rfl⟩]
          exact h _ _ _ (fun z => absurd z.1 (by decide))
        · have := cn_lt (f := m_owner W y) (show j < i by omega) ho
          rw [if_neg (by omega)]
          exact h' j (by omega) ho
    · rw [if_neg (fun z => c1 (hoq.mp z))]
      have e1 : cn_ (m_owner W y) p i = cn_ (m_owner W y) p (i + 1) := by rw [cn_, if_neg c1, Nat.add_zero]
      rw [e1]
      refine ih (i + 1) f (by omega) h (fun j hj ho => ?_)
      by_cases z : j = i
      · subst z; exact absurd ho c1
      · exact h' j (by omega) ho
