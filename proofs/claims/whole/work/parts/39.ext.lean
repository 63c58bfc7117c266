/-! a state with more in it -/
def s_X (S T : gs_S) : Prop := (∀ (b : Nat) (z : Nat ⊕ (Nat × Nat)), g_sh S b = some z → g_sh T b = some z ∧ (∀ c k : Nat, g_i T c k b = g_i S c k b ∧ g_l T c k b = g_l S c k b ∧ g_r T c k b = g_r S c k b) ∧ ∀ r j : Nat, g_ai T r b j = g_ai S r b j ∧ g_al T r b j = g_al S r b j ∧ g_ar T r b j = g_ar S r b j) ∧ ∀ (b : Nat) (z : Nat ⊕ (Nat × Nat)), g_sh S b = none → g_sh T b = some z → (∃ c : Nat, z = .inl c ∧ c ≠ 3) ∨ ∃ r n : Nat, z = .inr (r, n) ∧ r < 10
theorem t_aX {S T : gs_S} (hx : s_X S T) {r n : Nat} {v : Option Nat} (h : t_a S r n v) : t_a T r n v := by
  obtain ⟨b, rfl, sb⟩ := h
  exact ⟨b, rfl, (hx.1 b _ sb).1⟩
theorem mt_ext {S T : gs_S} (h : m_t S) (hx : s_X S T) : m_t T := by
  refine ⟨fun y hy => ?_, fun a r n ha hr i hi => ?_⟩
  · have hy0 : g_sh S y = some (.inl 3) := by
      cases hs : g_sh S y with
      | none =>
        rcases hx.2 y _ hs hy with ⟨c, e, hc⟩ | ⟨r, n, e, -⟩
        · cases e; exact absurd rfl hc
        · cases e
      | some z => exact ((hx.1 y z hs).1.symm.trans hy).symm ▸ rfl
    obtain ⟨a0, a1, a2, a3, a4, a5, a6, a7, a8, a9, a10, a11, a12, a13, a14, a15, a16, a17, a18, a19, a20, a21, a22, a23, a24, a25⟩ := h.1 y hy0
    have gi : ∀ k : Nat, g_i T 3 k y = g_i S 3 k y := fun k => ((hx.1 y _ hy0).2.1 3 k).1
    have gr : ∀ k : Nat, g_r T 3 k y = g_r S 3 k y := fun k => ((hx.1 y _ hy0).2.1 3 k).2.2
    refine ⟨by rw [gr]; exact t_aX hx a0, by rw [gr]; exact t_aX hx a1, by rw [gr]; exact t_aX hx a2, by rw [gr]; exact t_aX hx a3, by rw [gr]; exact t_aX hx a4, by rw [gr]; exact t_aX hx a5, by rw [gr]; exact t_aX hx a6, by rw [gr]; exact t_aX hx a7, by rw [gr]; exact t_aX hx a8, by rw [gr]; exact t_aX hx a9, by rw [gr]; exact t_aX hx a10, by rw [gr]; exact t_aX hx a11, by rw [gr]; exact t_aX hx a12, by rw [gr]; exact t_aX hx a13, by rw [gr]; exact t_aX hx a14, by rw [gr]; exact t_aX hx a15, by rw [gr]; exact t_aX hx a16, by rw [gr]; exact t_aX hx a17, by rw [gr]; exact t_aX hx a18, by rw [gi]; exact a19, by rw [gi]; exact a20, by rw [gi]; exact a21, by rw [gi]; exact a22, by rw [gi]; exact a23, by rw [gi]; exact a24, by rw [gi]; exact a25⟩
  · cases hs : g_sh S a with
    | none =>
      rcases hx.2 a _ hs ha with ⟨c, e, -⟩ | ⟨r', n', e, hr'⟩
      · cases e
      · cases e; omega
    | some z =>
      have e := (hx.1 a z hs).1.symm.trans ha
      cases e
      rw [((hx.1 a _ hs).2.2 r i).1]
      exact h.2 a r n hs hr i hi
theorem q_programs {S T : gs_S} {y : Nat} (hx : s_X S T) (h4 : g_sh S y = some (.inl 3)) : m_programs T y = m_programs S y := by unfold m_programs; rw [((hx.1 y _ h4).2.1 3 8).1]
theorem q_cells {S T : gs_S} {y : Nat} (hx : s_X S T) (h4 : g_sh S y = some (.inl 3)) : m_cells T y = m_cells S y := by unfold m_cells; rw [((hx.1 y _ h4).2.1 3 13).1]
theorem q_active {S T : gs_S} {y : Nat} (hx : s_X S T) (h4 : g_sh S y = some (.inl 3)) : m_active T y = m_active S y := by unfold m_active; rw [((hx.1 y _ h4).2.1 3 22).1]
theorem q_prepared {S T : gs_S} {y : Nat} (hx : s_X S T) (h4 : g_sh S y = some (.inl 3)) : m_prepared T y = m_prepared S y := by unfold m_prepared; rw [((hx.1 y _ h4).2.1 3 23).1]
theorem q_arguments {S T : gs_S} {y : Nat} (hx : s_X S T) (h4 : g_sh S y = some (.inl 3)) : m_arguments T y = m_arguments S y := by unfold m_arguments; rw [((hx.1 y _ h4).2.1 3 24).1]
theorem q_used {S T : gs_S} {y : Nat} (hx : s_X S T) (h4 : g_sh S y = some (.inl 3)) : m_used T y = m_used S y := by unfold m_used; rw [((hx.1 y _ h4).2.1 3 17).1]
theorem q_preparedAhead {S T : gs_S} {y : Nat} (hx : s_X S T) (h4 : g_sh S y = some (.inl 3)) : m_preparedAhead T y = m_preparedAhead S y := by unfold m_preparedAhead; rw [((hx.1 y _ h4).2.1 3 25).1]
theorem q_within {S T : gs_S} {y : Nat} (hx : s_X S T) (h2 : m_t S) (h4 : g_sh S y = some (.inl 3)) : m_within T y = m_within S y := by
  funext j
  obtain ⟨a, ea, sa⟩ := w_m_within h2 h4
  unfold m_within m_q
  rw [((hx.1 y _ h4).2.1 3 2).2.2, ea, v_a_s, ((hx.1 a _ sa).2.2 10 j).1]
theorem q_names {S T : gs_S} {y : Nat} (hx : s_X S T) (h2 : m_t S) (h4 : g_sh S y = some (.inl 3)) : m_names T y = m_names S y := by
  funext j
  obtain ⟨a, ea, sa⟩ := w_m_names h2 h4
  unfold m_names m_q
  rw [((hx.1 y _ h4).2.1 3 3).2.2, ea, v_a_s, ((hx.1 a _ sa).2.2 11 j).1]
theorem q_marks {S T : gs_S} {y : Nat} (hx : s_X S T) (h2 : m_t S) (h4 : g_sh S y = some (.inl 3)) : m_marks T y = m_marks S y := by
  funext j
  obtain ⟨a, ea, sa⟩ := w_m_marks h2 h4
  unfold m_marks m_q
  rw [((hx.1 y _ h4).2.1 3 4).2.2, ea, v_a_s, ((hx.1 a _ sa).2.2 12 j).1]
theorem q_manyFormals {S T : gs_S} {y : Nat} (hx : s_X S T) (h2 : m_t S) (h4 : g_sh S y = some (.inl 3)) : m_manyFormals T y = m_manyFormals S y := by
  funext j
  obtain ⟨a, ea, sa⟩ := w_m_manyFormals h2 h4
  unfold m_manyFormals m_q
  rw [((hx.1 y _ h4).2.1 3 5).2.2, ea, v_a_s, ((hx.1 a _ sa).2.2 13 j).1]
theorem q_activeTimes {S T : gs_S} {y : Nat} (hx : s_X S T) (h2 : m_t S) (h4 : g_sh S y = some (.inl 3)) : m_activeTimes T y = m_activeTimes S y := by
  funext j
  obtain ⟨a, ea, sa⟩ := w_m_activeTimes h2 h4
  unfold m_activeTimes m_q
  rw [((hx.1 y _ h4).2.1 3 6).2.2, ea, v_a_s, ((hx.1 a _ sa).2.2 14 j).1]
theorem q_data {S T : gs_S} {y : Nat} (hx : s_X S T) (h2 : m_t S) (h4 : g_sh S y = some (.inl 3)) : m_data T y = m_data S y := by
  funext j
  obtain ⟨a, ea, sa⟩ := w_m_data h2 h4
  unfold m_data m_q
  rw [((hx.1 y _ h4).2.1 3 7).2.2, ea, v_a_s, ((hx.1 a _ sa).2.2 15 j).1]
theorem q_owner {S T : gs_S} {y : Nat} (hx : s_X S T) (h2 : m_t S) (h4 : g_sh S y = some (.inl 3)) : m_owner T y = m_owner S y := by
  funext j
  obtain ⟨a, ea, sa⟩ := w_m_owner h2 h4
  unfold m_owner m_q
  rw [((hx.1 y _ h4).2.1 3 9).2.2, ea, v_a_s, ((hx.1 a _ sa).2.2 16 j).1]
theorem q_rank {S T : gs_S} {y : Nat} (hx : s_X S T) (h2 : m_t S) (h4 : g_sh S y = some (.inl 3)) : m_rank T y = m_rank S y := by
  funext j
  obtain ⟨a, ea, sa⟩ := w_m_rank h2 h4
  unfold m_rank m_q
  rw [((hx.1 y _ h4).2.1 3 10).2.2, ea, v_a_s, ((hx.1 a _ sa).2.2 17 j).1]
theorem q_external {S T : gs_S} {y : Nat} (hx : s_X S T) (h2 : m_t S) (h4 : g_sh S y = some (.inl 3)) : m_external T y = m_external S y := by
  funext j
  obtain ⟨a, ea, sa⟩ := w_m_external h2 h4
  unfold m_external m_q
  rw [((hx.1 y _ h4).2.1 3 11).2.2, ea, v_a_s, ((hx.1 a _ sa).2.2 18 j).1]
theorem q_first {S T : gs_S} {y : Nat} (hx : s_X S T) (h2 : m_t S) (h4 : g_sh S y = some (.inl 3)) : m_first T y = m_first S y := by
  funext j
  obtain ⟨a, ea, sa⟩ := w_m_first h2 h4
  unfold m_first m_q
  rw [((hx.1 y _ h4).2.1 3 12).2.2, ea, v_a_s, ((hx.1 a _ sa).2.2 19 j).2.1]
theorem q_how {S T : gs_S} {y : Nat} (hx : s_X S T) (h2 : m_t S) (h4 : g_sh S y = some (.inl 3)) : m_how T y = m_how S y := by
  funext j
  obtain ⟨a, ea, sa⟩ := w_m_how h2 h4
  unfold m_how m_q
  rw [((hx.1 y _ h4).2.1 3 14).2.2, ea, v_a_s, ((hx.1 a _ sa).2.2 20 j).1]
theorem q_bytes {S T : gs_S} {y : Nat} (hx : s_X S T) (h2 : m_t S) (h4 : g_sh S y = some (.inl 3)) : m_bytes T y = m_bytes S y := by
  funext j
  obtain ⟨a, ea, sa⟩ := w_m_bytes h2 h4
  unfold m_bytes m_q
  rw [((hx.1 y _ h4).2.1 3 15).2.2, ea, v_a_s, ((hx.1 a _ sa).2.2 21 j).1]
theorem q_memory {S T : gs_S} {y : Nat} (hx : s_X S T) (h2 : m_t S) (h4 : g_sh S y = some (.inl 3)) : m_memory T y = m_memory S y := by
  funext j
  obtain ⟨a, ea, sa⟩ := w_m_memory h2 h4
  unfold m_memory m_q
  rw [((hx.1 y _ h4).2.1 3 16).2.2, ea, v_a_s, ((hx.1 a _ sa).2.2 22 j).2.1]
theorem q_callOf {S T : gs_S} {y : Nat} (hx : s_X S T) (h2 : m_t S) (h4 : g_sh S y = some (.inl 3)) : m_callOf T y = m_callOf S y := by
  funext j
  obtain ⟨a, ea, sa⟩ := w_m_callOf h2 h4
  unfold m_callOf m_q
  rw [((hx.1 y _ h4).2.1 3 18).2.2, ea, v_a_s, ((hx.1 a _ sa).2.2 23 j).1]
theorem q_baseOf {S T : gs_S} {y : Nat} (hx : s_X S T) (h2 : m_t S) (h4 : g_sh S y = some (.inl 3)) : m_baseOf T y = m_baseOf S y := by
  funext j
  obtain ⟨a, ea, sa⟩ := w_m_baseOf h2 h4
  unfold m_baseOf m_q
  rw [((hx.1 y _ h4).2.1 3 19).2.2, ea, v_a_s, ((hx.1 a _ sa).2.2 24 j).1]
theorem q_usedAhead {S T : gs_S} {y : Nat} (hx : s_X S T) (h2 : m_t S) (h4 : g_sh S y = some (.inl 3)) : m_usedAhead T y = m_usedAhead S y := by
  funext j
  obtain ⟨a, ea, sa⟩ := w_m_usedAhead h2 h4
  unfold m_usedAhead m_q
  rw [((hx.1 y _ h4).2.1 3 20).2.2, ea, v_a_s, ((hx.1 a _ sa).2.2 25 j).1]
theorem q_placeOf {S T : gs_S} {y : Nat} (hx : s_X S T) (h2 : m_t S) (h4 : g_sh S y = some (.inl 3)) : m_placeOf T y = m_placeOf S y := by
  funext j
  obtain ⟨a, ea, sa⟩ := w_m_placeOf h2 h4
  unfold m_placeOf m_q
  rw [((hx.1 y _ h4).2.1 3 21).2.2, ea, v_a_s, ((hx.1 a _ sa).2.2 26 j).1]
theorem q_argument {S T : gs_S} {y : Nat} (hx : s_X S T) (h2 : m_t S) (h4 : g_sh S y = some (.inl 3)) : m_argument T y = m_argument S y := by
  funext j
  obtain ⟨a, ea, sa⟩ := w_m_argument h2 h4
  unfold m_argument m_q
  rw [((hx.1 y _ h4).2.1 3 26).2.2, ea, v_a_s, ((hx.1 a _ sa).2.2 27 j).1]
theorem q_argumentBytes {S T : gs_S} {y : Nat} (hx : s_X S T) (h2 : m_t S) (h4 : g_sh S y = some (.inl 3)) : m_argumentBytes T y = m_argumentBytes S y := by
  funext j
  obtain ⟨a, ea, sa⟩ := w_m_argumentBytes h2 h4
  unfold m_argumentBytes m_q
  rw [((hx.1 y _ h4).2.1 3 27).2.2, ea, v_a_s, ((hx.1 a _ sa).2.2 28 j).1]
set_option maxHeartbeats 4000000 in
theorem r_ext {S T : gs_S} {x y t : Nat} {P L : Nat → Nat} {D : Nat → Nat → Option Nat} {N : Nat} (h : r_R S x y t P L D N) (hx : s_X S T) (hw : w_t T) : r_R T x y t P L D N := by
  have hr := h
  obtain ⟨⟨h1, h2, h3, h4⟩, hb, hP, hC, hL, hD, hA⟩ := h
  have gi : ∀ {c k b : Nat} {z : Nat ⊕ (Nat × Nat)}, g_sh S b = some z → g_i T c k b = g_i S c k b := fun h => ((hx.1 _ _ h).2.1 _ _).1
  have gl : ∀ {c k b : Nat} {z : Nat ⊕ (Nat × Nat)}, g_sh S b = some z → g_l T c k b = g_l S c k b := fun h => ((hx.1 _ _ h).2.1 _ _).2.1
  have gr : ∀ {c k b : Nat} {z : Nat ⊕ (Nat × Nat)}, g_sh S b = some z → g_r T c k b = g_r S c k b := fun h => ((hx.1 _ _ h).2.1 _ _).2.2
  have gA : ∀ {r n : Nat} {v : Option Nat}, t_a S r n v → ∀ r' j : Nat, g_ai T r' (v_a v) j = g_ai S r' (v_a v) j ∧ g_al T r' (v_a v) j = g_al S r' (v_a v) j ∧ g_ar T r' (v_a v) j = g_ar S r' (v_a v) j := fun h r' j => by
    obtain ⟨b, rfl, sb⟩ := h
    exact (hx.1 b _ sb).2.2 r' j
  have hPs : ∀ i : Nat, 1 ≤ i → i ≤ m_programs S y → g_sh S (P i) = some (.inl 1) := fun i i1 i2 => (hP.2.2 i i1 i2).2.1
  have hLs : ∀ j : Nat, j ≤ N → g_sh S (L j) = some (.inl 0) := hL.2.2.2.2.2.2.1
  have hLN := hL.2.2.2.1
  have eU : ∀ j : Nat, r_U T y j = r_U S y j := fun j => by
    unfold r_U
    rw [q_active hx h4, q_prepared hx h4, q_used hx h4, q_preparedAhead hx h4, q_usedAhead hx h2 h4]
  refine ⟨⟨hw, mt_ext h2 hx, (hx.1 x _ h3).1, (hx.1 y _ h4).1⟩, ?_, ?_, ?_, ?_, ?_, ?_⟩
  · rw [q_active hx h4, q_prepared hx h4, q_cells hx h4]; exact hb
  · unfold r_P
    rw [q_programs hx h4, q_within hx h2 h4, q_names hx h2 h4, q_marks hx h2 h4, q_manyFormals hx h2 h4, q_how hx h2 h4, q_bytes hx h2 h4, gi h3, gr h3]
    refine ⟨hP.1, fun i j i1 i2 j1 j2 w => ?_, fun i i1 i2 => ?_⟩
    · refine hP.2.1 i j i1 i2 j1 j2 ?_
      rcases w with w | ⟨k, k1, k2, w⟩
      · exact Or.inl w
      · rw [gr (hPs i i1 i2), gr (hPs j j1 j2)] at w
        exact Or.inr ⟨k, k1, k2, w⟩
    · obtain ⟨u1, u2, u3, u4, u5, u6, u7, u8, u9⟩ := hP.2.2 i i1 i2
      rw [(gA (w_programs h1 h3) 0 i).2.2, gi u2, gi u2, gi u2, gi u2, gr u2, gr u2, gr u2]
      refine ⟨u1, (hx.1 _ _ u2).1, u3, u4, u5, u6, u7, u8, fun j hj => ?_⟩
      rw [(gA (w_formalHow h1 u2) 4 j).1, (gA (w_formalBytes h1 u2) 5 j).1]
      exact u9 j hj
  · unfold r_C
    rw [q_programs hx h4, q_cells hx h4, q_owner hx h2 h4, q_rank hx h2 h4, q_first hx h2 h4, q_external hx h2 h4, q_activeTimes hx h2 h4, q_data hx h2 h4, q_manyFormals hx h2 h4, gi h3, gr h3, gr h3, gr h3]
    refine ⟨hC.1, fun k hk => ?_, fun nm hnm => ?_, hC.2.2.2⟩
    · rw [(gA (w_owners h1 h3) 1 k).2.2, (gA (w_firstValues h1 h3) 2 k).2.1]
      exact hC.2.1 k hk
    · rw [(gA (w_externals h1 h3) 3 nm).1]
      exact hC.2.2.1 nm hnm
  · unfold r_L
    rw [q_active hx h4, q_programs hx h4, q_callOf hx h2 h4, q_activeTimes hx h2 h4, q_data hx h2 h4, q_marks hx h2 h4, gi h3, gi h3, gr h3, gr h3, gi h4, gl h3, gl h4]
    obtain ⟨l1, l2, l3, l4, l5, l5', l6, l7, l8, l9, l10, l11, l12⟩ := id hL
    refine ⟨l1, l2, l3, l4, l5, l5', fun j hj => (hx.1 _ _ (l6 j hj)).1, fun i j hi hj w => ?_, fun j hj => ?_, ?_, ?_, fun j hj => ?_, fun i i1 i2 => ?_⟩
    · refine l7 i j hi hj ?_
      rcases w with w | ⟨k, k1, k2, w⟩
      · exact Or.inl w
      · rw [gr (hLs i hi), gr (hLs j hj)] at w
        exact Or.inr ⟨k, k1, k2, w⟩
    · rw [gr (hLs j (by omega)), gr (hLs (j + 1) (by omega))]; exact l8 j hj
    · rw [gr (hLs N (by omega))]; exact l9
    · rw [gr (hLs 0 (by omega))]; exact l10
    · rw [gr (hLs (j + 1) (by omega)), gr (hLs (j + 1) (by omega))]; exact l11 j hj
    · rw [gr (hPs i i1 i2), gi (hPs i i1 i2)]; exact l12 i i1 i2
  · obtain ⟨k1, k2, k3, k4, k5, k6, k7, k8, k9⟩ := id hD
    refine ⟨fun q => by rw [q_cells hx h4]; exact k1 q, fun h q d w1 w2 => by rw [q_active hx h4, q_prepared hx h4, eU, eU]; exact k2 h q d w1 w2, k3, fun h q d e => ?_, by rw [eU]; exact k5, fun j hj => by rw [eU, eU, q_cells hx h4]; rw [q_active hx h4] at hj; exact k6 j hj, by rw [eU, q_used hx h4, q_active hx h4, q_arguments hx h4]; exact k7, fun j hj i hi => ?_, fun j hj w k hk ho => ?_⟩
    · have hs := hLs h (D_N hL hD hA e)
      rw [gr hs, (gA (w_values h1 hs) 9 q).2.1, q_memory hx h2 h4]
      exact k4 h q d e
    · rw [q_active hx h4] at hj
      rw [q_callOf hx h2 h4, q_manyFormals hx h2 h4] at hi
      have hs := hLs (j + 1) (by omega)
      rw [gr hs, gr hs, gr hs, (gA (w_holders h1 hs) 6 i).2.2, (gA (w_places h1 hs) 7 i).1, (gA (w_bytes h1 hs) 8 i).1, q_placeOf hx h2 h4, q_bytes hx h2 h4, q_callOf hx h2 h4]
      exact k8 j hj i hi
    · rw [q_active hx h4] at hj
      rw [q_callOf hx h2 h4, q_marks hx h2 h4] at w
      rw [q_cells hx h4] at hk
      rw [q_owner hx h2 h4, q_callOf hx h2 h4] at ho
      rw [q_baseOf hx h2 h4, q_rank hx h2 h4]
      exact k9 j hj w k hk ho
  · unfold r_A
    rw [q_active hx h4, q_prepared hx h4, q_arguments hx h4, q_programs hx h4, q_marks hx h2 h4, q_callOf hx h2 h4, q_argument hx h2 h4, q_argumentBytes hx h2 h4, gr h3]
    rcases hA with hA | ⟨a1, a2, a3, a4, a5, a6, a7, a8⟩
    · exact Or.inl hA
    · have hs := hLs (m_active S y + 1) a3
      refine Or.inr ⟨a1, a2, a3, a4, ?_, ?_, a7, fun i hi => ?_⟩
      · rw [gr hs]; exact a5
      · rw [gi hs]; exact a6
      · rw [gr hs, gr hs, gr hs, (gA (w_holders h1 hs) 6 i).2.2, (gA (w_places h1 hs) 7 i).1, (gA (w_bytes h1 hs) 8 i).1]
        exact a8 i hi
theorem sX_nP {S : gs_S} {q : Nat} {o : Option Nat} {n nm mk : Int32} {h b : Nat} (hq : g_sh S q = none) (hf : i_Pf (p_new S 1 q) q h b) : s_X S (n_P S q o n nm mk h b) := by
  obtain ⟨⟨a1, a2⟩, b1, b2, b3⟩ := n_Pne hf
  have ne : ∀ {b z : Nat} {y : Nat ⊕ (Nat × Nat)}, g_sh S b = some y → g_sh S z = none → b ≠ z := fun h1 h2 e => by rw [e, h2] at h1; cases h1
  refine ⟨fun c z hc => ⟨?_, fun c' k => ⟨n_P_i c' k (ne hc hq), n_P_l c' k (ne hc hq), n_P_r c' k (ne hc hq)⟩, fun r j => ⟨n_P_ai r j (ne hc a2) (ne hc b3), n_P_al r j (ne hc a2) (ne hc b3), n_P_ar r j (ne hc a2) (ne hc b3)⟩⟩, fun c z h0 h1 => ?_⟩
  · rw [n_P_sh, if_neg (ne hc b3), if_neg (ne hc a2), if_neg (ne hc hq)]; exact hc
  · rw [n_P_sh] at h1
    split at h1
    · cases h1; exact Or.inr ⟨5, 16, rfl, by omega⟩
    · split at h1
      · cases h1; exact Or.inr ⟨4, 16, rfl, by omega⟩
      · split at h1
        · cases h1; exact Or.inl ⟨1, rfl, by omega⟩
        · rw [h0] at h1; cases h1
theorem sX_nL {S : gs_S} {q : Nat} {be : Option Nat} {h pl bb va : Nat} (hq : g_sh S q = none) (hf : i_Lf (p_new S 0 q) q h pl bb va) : s_X S (n_L S q be h pl bb va) := by
  obtain ⟨⟨a1, a2⟩, ⟨b1, b2, b3⟩, ⟨c1, c2, c3, c4⟩, d1, d2, d3, d4, d5⟩ := n_Lne hf
  have ne : ∀ {b z : Nat} {y : Nat ⊕ (Nat × Nat)}, g_sh S b = some y → g_sh S z = none → b ≠ z := fun h1 h2 e => by rw [e, h2] at h1; cases h1
  refine ⟨fun c z hc => ⟨?_, fun c' k => ⟨n_L_i c' k (ne hc hq), n_L_l c' k (ne hc hq), n_L_r c' k (ne hc hq)⟩, fun r j => ⟨n_L_ai r j (ne hc a2) (ne hc b3) (ne hc c4) (ne hc d5), n_L_al r j (ne hc a2) (ne hc b3) (ne hc c4) (ne hc d5), n_L_ar r j (ne hc a2) (ne hc b3) (ne hc c4) (ne hc d5)⟩⟩, fun c z h0 h1 => ?_⟩
  · rw [n_L_sh, if_neg (ne hc d5), if_neg (ne hc c4), if_neg (ne hc b3), if_neg (ne hc a2), if_neg (ne hc hq)]; exact hc
  · rw [n_L_sh] at h1
    split at h1
    · cases h1; exact Or.inr ⟨9, 216, rfl, by omega⟩
    · split at h1
      · cases h1; exact Or.inr ⟨8, 16, rfl, by omega⟩
      · split at h1
        · cases h1; exact Or.inr ⟨7, 16, rfl, by omega⟩
        · split at h1
          · cases h1; exact Or.inr ⟨6, 16, rfl, by omega⟩
          · split at h1
            · cases h1; exact Or.inl ⟨0, rfl, by omega⟩
            · rw [h0] at h1; cases h1
theorem nP_pi {S : gs_S} {q x : Nat} {o : Option Nat} {n nm mk v : Int32} {h b : Nat} (hxq : x ≠ q) : n_P (p_i S 2 2 x v) q o n nm mk h b = p_i (n_P S q o n nm mk h b) 2 2 x v := by
  refine Prod.ext rfl (Prod.ext ?_ rfl)
  funext c k a
  show u_3 (u_3 (u_3 (fun c' k' b' => if b' = q then 0 else u_3 S.2.1 2 2 x v c' k' b') 1 1 q n) 1 2 q nm) 1 3 q mk c k a = u_3 (u_3 (u_3 (u_3 (fun c' k' b' => if b' = q then 0 else S.2.1 c' k' b') 1 1 q n) 1 2 q nm) 1 3 q mk) 2 2 x v c k a
  simp only [u_3]
  by_cases z : c = 2 ∧ k = 2 ∧ a = x
  · obtain ⟨rfl, rfl, rfl⟩ := z
    simp [hxq]
  · simp only [if_neg z]
