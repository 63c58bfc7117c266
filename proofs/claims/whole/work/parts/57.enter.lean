/-! enter -/
theorem p_rid (S : gs_S) (c k a : Nat) (v : Option Nat) (h : g_r S c k a = v) : p_r S c k a v = S := by
  have : (fun c' k' a' => if c' = c ∧ k' = k ∧ a' = a then v else g_r S c' k' a') = fun c' k' a' => g_r S c' k' a' := by
    funext c' k' a'
    split
    · rename_i z; rw [z.1, z.2.1, z.2.2]; exact h.symm
    · rfl
  have e : p_r S c k a v = p_r S c k a (g_r S c k a) := by rw [h]
  rw [e]
  unfold p_r u_3
  show (S.1, S.2.1, S.2.2.1, (fun c' k' a' => if c' = c ∧ k' = k ∧ a' = a then g_r S c k a else g_r S c' k' a'), S.2.2.2.2) = S
  rw [h, this]
  rfl
theorem re_c {S T : gs_S} {y : Nat} (e1 : m_prepared T y = m_prepared S y) (e2 : m_arguments T y = m_arguments S y) (e3 : m_manyFormals T y = m_manyFormals S y) (e4 : m_how T y = m_how S y) (e5 : m_argument T y = m_argument S y) (e6 : m_bytes T y = m_bytes S y) (e7 : m_argumentBytes T y = m_argumentBytes S y) : f_reM T y = f_reM S y := by
  have r1 : ∀ (p k i : Nat) (bd : Int32), f_r1 T y p k i bd = f_r1 S y p k i bd := by
    intro p k
    induction k with
    | zero => intro i bd; rfl
    | succ k ih => intro i bd; rw [f_r1, f_r1, ih, f_hw, f_hw, e2, e4, e5]
  have r2 : ∀ (p k i : Nat), f_r2 T y p k i = f_r2 S y p k i := by
    intro p k
    induction k with
    | zero => intro i; rfl
    | succ k ih => intro i; rw [f_r2, f_r2, ih, e5, e6, e7]
  unfold f_reM f_reP
  rw [e1, e2, e3, r1, r2]
theorem fit_p (S : gs_S) (x lv a : Nat) : f_fit (p_r S 2 10 x none) lv a = f_fit S lv a := by
  have : ∀ (h fh k i : Nat), f_af (p_r S 2 10 x none) h fh k i = f_af S h fh k i := by
    intro h fh k
    induction k with
    | zero => intro i; rfl
    | succ k ih => intro i; rw [f_af, f_af, ih]; rfl
  unfold f_fit
  rw [this]
  simp [x_gs]
theorem suf_p (S : gs_S) (x lv a : Nat) : f_suf (p_r S 2 10 x none) lv a = f_suf S lv a := by
  have : ∀ (h b fb k i : Nat), f_bs (p_r S 2 10 x none) h b fb k i = f_bs S h b fb k i := by
    intro h b fb k
    induction k with
    | zero => intro i; rfl
    | succ k ih => intro i; rw [f_bs, f_bs, ih]; rfl
  unfold f_suf
  rw [this]
  simp [x_gs]
theorem AL_sh (S : gs_S) (f : Nat → Nat → Nat → Int64) (a : Nat) : g_sh (p_AL S f) a = g_sh S a := rfl
theorem AL_i (S : gs_S) (f : Nat → Nat → Nat → Int64) (c k a : Nat) : g_i (p_AL S f) c k a = g_i S c k a := rfl
theorem AL_l (S : gs_S) (f : Nat → Nat → Nat → Int64) (c k a : Nat) : g_l (p_AL S f) c k a = g_l S c k a := rfl
theorem AL_r (S : gs_S) (f : Nat → Nat → Nat → Int64) (c k a : Nat) : g_r (p_AL S f) c k a = g_r S c k a := rfl
theorem AL_ai (S : gs_S) (f : Nat → Nat → Nat → Int64) (r a j : Nat) : g_ai (p_AL S f) r a j = g_ai S r a j := rfl
theorem AL_ar (S : gs_S) (f : Nat → Nat → Nat → Int64) (r a j : Nat) : g_ar (p_AL S f) r a j = g_ar S r a j := rfl
theorem AL_al (S : gs_S) (f : Nat → Nat → Nat → Int64) (r a j : Nat) : g_al (p_AL S f) r a j = f r a j := rfl
set_option maxHeartbeats 16000000 in
theorem z_en2 {S C : gs_S} {x y t : Nat} {P L : Nat → Nat} {D : Nat → Nat → Option Nat} {N p : Nat} (h : r_R S x y t P L D N) (ht : t < 512) (hp : m_prepared S y = p) (hpr : ¬ p = 0) (ham : m_arguments S y ≤ m_manyFormals S y p) (hw : w_t C) (h0 : ec_0 S C x y p P L) (h1c : ec_1 S C x y p P L) : r_R (e_en (f_e1 y p (m_manyFormals S y p) 0 (e_T1 (m_0 C y) y)) y p).2 x y (t + 1) P L (D_e S y p D) N := by
  have hr := h
  have hub := U_bd h (by omega)
  obtain ⟨⟨h1, h2, h3, h4⟩, hb, hP, hC, hL, hD, hA⟩ := h
  have hprS : ¬ m_prepared S y = 0 := by rw [hp]; exact hpr
  have hn := b_programs h2 h4
  have hcl := b_cells h2 h4
  have hag := b_arguments h2 h4
  have hpa := b_preparedAhead h2 h4
  obtain ⟨p1, p2, hN⟩ : 1 ≤ p ∧ p ≤ m_programs S y ∧ m_active S y + 1 ≤ N := by
    rcases id hA with ⟨z, -⟩ | ⟨a1, a2, a3, -⟩
    · exact absurd z hprS
    · rw [hp] at a1 a2; exact ⟨a1, a2, a3⟩
  have hmf := b_manyFormals h2 h4 (i := p) (by omega)
  have hac : m_active S y < 256 := by
    rw [if_neg hprS] at hb
    omega
  obtain ⟨g1, g2, g3, g4, g5, g6, g7, g8, g9, g10, g11, g12, g13, g14, g15, g16, g17⟩ := id h0
  have hmC : m_t C := mt_fr h2 g1 (fun k a => g2 3 k a (by omega) (by omega) (by omega)) (fun k a => g7 3 k a (by omega)) (fun r a j hr => g10 r a j (by omega))
  have hYC : g_sh C y = some (.inl 3) := by rw [g1]; exact h4
  have hT : e_T1 (m_0 C y) y = p_ai (p_ai (m_0 C y) 23 (m_q S y 18) (m_active S y) (nI p)) 25 (m_q S y 20) (m_active S y) (nI (m_preparedAhead S y)) := by
    have q1 : ∀ k : Nat, m_q (m_0 C y) y k = m_q S y k := fun k => by
      have := g2 3 k y (by omega) (by omega) (by omega)
      simp [m_q, m_0, x_gs, this]
    have a1 : m_active (m_0 C y) y = m_active S y := by
      have := g7 3 22 y (by omega)
      simp [m_active, m_0, x_gs, this]
    have a2 : m_prepared (m_0 C y) y = p := by
      have := g7 3 23 y (by omega)
      rw [← hp]
      simp [m_prepared, m_0, x_gs, this]
    have a3 : m_preparedAhead (m_0 C y) y = m_preparedAhead S y := by
      have := g7 3 25 y (by omega)
      simp [m_preparedAhead, m_0, x_gs, this]
    unfold e_T1
    rw [q1, q1, a1, a2, a3]
  rw [hT]
  -- the base
  generalize hBe : p_ai (p_ai (m_0 C y) 23 (m_q S y 18) (m_active S y) (nI p)) 25 (m_q S y 20) (m_active S y) (nI (m_preparedAhead S y)) = B
  have b_sh : ∀ a : Nat, g_sh B a = g_sh S a := fun a => by rw [← hBe, ← g1 a]; simp [m_0, x_gs]
  have b_r : ∀ c k a : Nat, g_r B c k a = g_r C c k a := fun c k a => by rw [← hBe]; simp [m_0, x_gs]
  have b_l : ∀ c k a : Nat, g_l B c k a = g_l C c k a := fun c k a => by rw [← hBe]; simp [m_0, x_gs]
  have b_i : ∀ c k a : Nat, ¬ (c = 3 ∧ k = 0) → g_i B c k a = g_i C c k a := fun c k a z => by
    have u : ¬ (c = 3 ∧ k = 0 ∧ a = y) := fun u => z ⟨u.1, u.2.1⟩
    rw [← hBe]; simp [m_0, x_gs, u]
  have b_ai : ∀ r a j : Nat, ¬ r = 23 → ¬ r = 25 → g_ai B r a j = g_ai C r a j := fun r a j z1 z2 => by rw [← hBe]; simp [m_0, x_gs, z1, z2]
  have b_ar : ∀ r a j : Nat, g_ar B r a j = g_ar C r a j := fun r a j => by rw [← hBe]; simp [m_0, x_gs]
  have b_al : ∀ r a j : Nat, g_al B r a j = g_al C r a j := fun r a j => by rw [← hBe]; simp [m_0, x_gs]
  have b_23 : ∀ j : Nat, g_ai B 23 (m_q S y 18) j = if j = m_active S y then nI p else g_ai S 23 (m_q S y 18) j := fun j => by
    have := g10 23 (m_q S y 18) j (by omega)
    rw [← hBe]; simp [m_0, x_gs, this]
  have b_25 : ∀ j : Nat, g_ai B 25 (m_q S y 20) j = if j = m_active S y then nI (m_preparedAhead S y) else g_ai S 25 (m_q S y 20) j := fun j => by
    have := g10 25 (m_q S y 20) j (by omega)
    rw [← hBe]; simp [m_0, x_gs, this]
  have wB : w_t B := by rw [← hBe]; exact wt_pai (wt_pai (wt_pi0 hw (by decide)) (fun z => absurd z (by decide))) (fun z => absurd z (by decide))
  have mB : m_t B := by rw [← hBe]; exact mt_pai (mt_pai (mt_pi0 hmC (by decide)) (fun _ => ⟨p, rfl, by omega⟩)) (fun _ => ⟨_, rfl, hpa⟩)
  have qB : ∀ k : Nat, m_q B y k = m_q S y k := fun k => by unfold m_q; rw [b_r, g2 3 k y (by omega) (by omega) (by omega)]
  have B_ac : m_active B y = m_active S y := by unfold m_active; rw [b_i 3 22 y (by omega), g7 3 22 y (by omega)]
  have B_us : m_used B y = m_used S y := by unfold m_used; rw [b_i 3 17 y (by omega), g7 3 17 y (by omega)]
  have B_ag : m_arguments B y = m_arguments S y := by unfold m_arguments; rw [b_i 3 24 y (by omega), g7 3 24 y (by omega)]
  have B_ar : ∀ m : Nat, m_argument B y m = m_argument S y m := fun m => by unfold m_argument; rw [qB, b_ai 27 _ _ (by omega) (by omega), g10 27 _ _ (by omega)]
  have B_ho : m_how B y = m_how S y := by funext m; unfold m_how; rw [qB, b_ai 20 _ _ (by omega) (by omega), g10 20 _ _ (by omega)]
  have B_me : m_memory B y = m_memory S y := by funext m; unfold m_memory; rw [qB, b_al, g12 22 _ _ (by omega)]
  have B_kb : kb B y p = kb S y p := kb_c B_ag B_ar B_ho
  have hE := ev_loop (B := B) (y := y) (p := p) (mf := m_manyFormals S y p) (by rw [b_sh]; exact h4) hmf (by rw [B_ag]; exact hag) (by rw [B_us]; exact hub.1) (fun m hm => by
      rw [B_ho]
      exact ((hP.2.2 p p1 p2).2.2.2.2.2.2.2.2 m hm).2.2.1) (fun m hm hne => by
      rw [B_ag] at hm
      rw [B_ar] at hne ⊢
      rw [B_us]
      rcases r_here hA hprS h2 h4 hD (i := m) (by omega) with ⟨u1, u2⟩ | ⟨u1, u2, u3, hh, q, d, u4, u5, u6, u7, -⟩
      · rcases u2 with u2 | u2
        · omega
        · exact absurd u2 hne
      · have := D_lt hD hcl u6
        rw [U_s] at this
        exact ⟨d, u7, this⟩) (m_manyFormals S y p) 0 B (by omega) ⟨wB, mB, fun _ => rfl, fun _ _ _ => rfl, fun _ _ _ => rfl, fun _ _ _ _ => rfl, fun _ _ _ _ => rfl, fun _ _ _ => rfl, fun _ _ _ _ => rfl, rfl, fun m hm => by omega, fun m hm => by omega⟩
  rw [Nat.zero_add] at hE
  generalize f_e1 y p (m_manyFormals S y p) 0 B = V at hE
  obtain ⟨v1, v2, v3, v4, v5, v6, v7, v8, v9, v10, v11, v12⟩ := hE
  rw [B_kb, B_us] at v10
  rw [B_kb, B_us, B_ac, B_ag] at v11
  rw [B_kb, B_us, B_me] at v12
  simp only [B_ar] at v11 v12
  rw [B_ac] at v7
  rw [B_us] at v9
  have hncb := nc_le (kb S y p) (m_manyFormals S y p)
  -- then the cells
  have qV : ∀ k : Nat, m_q V y k = m_q S y k := fun k => by unfold m_q; rw [v4, b_r, g2 3 k y (by omega) (by omega) (by omega)]
  have V_ac : m_active V y = m_active S y := by unfold m_active; rw [v6 3 22 y (by omega), b_i 3 22 y (by omega), g7 3 22 y (by omega)]
  have V_cl : m_cells V y = m_cells S y := by unfold m_cells; rw [v6 3 13 y (by omega), b_i 3 13 y (by omega), g7 3 13 y (by omega)]
  have V_al : ∀ r a j : Nat, ¬ r = 9 → ¬ r = 22 → g_al V r a j = g_al S r a j := fun r a j z1 z2 => by rw [v9 r a j (by omega), b_al, g12 r a j z1]
  have V_9 : ∀ a j : Nat, g_al V 9 a j = g_al C 9 a j := fun a j => by rw [v9 9 a j (by omega), b_al]
  have V_me : ∀ d : Nat, d < m_used S y → g_al V 22 (m_q S y 16) d = m_memory S y d := fun d hd => by rw [v9 22 _ _ (by omega), b_al, g12 22 _ _ (by omega)]; rfl
  have V_ai : ∀ r a j : Nat, ¬ ((r = 7 ∧ a = v_a (g_r S 0 6 (L (m_active S y + 1)))) ∨ (r = 8 ∧ a = v_a (g_r S 0 7 (L (m_active S y + 1))))) → ¬ (r = 26 ∧ 16 * m_active S y ≤ j) → ¬ r = 23 → ¬ r = 25 → g_ai V r a j = g_ai S r a j := fun r a j z1 z2 z3 z4 => by rw [v7 r a j z2, b_ai r a j z3 z4, g10 r a j z1]
  have hYV : g_sh V y = some (.inl 3) := by rw [v3, b_sh]; exact h4
  have hW : e_b V y = p_ai V 24 (m_q S y 19) (m_active S y) (nI (m_used V y)) := by unfold e_b; rw [qV, V_ac]
  unfold e_en
  rw [hW, V_cl]
  simp only []
  generalize hWe : p_ai V 24 (m_q S y 19) (m_active S y) (nI (m_used V y)) = W
  have w_i : ∀ c k a : Nat, g_i W c k a = g_i V c k a := fun c k a => by rw [← hWe]; simp [x_gs]
  have w_r : ∀ c k a : Nat, g_r W c k a = g_r V c k a := fun c k a => by rw [← hWe]; simp [x_gs]
  have w_ai : ∀ r a j : Nat, ¬ r = 24 → g_ai W r a j = g_ai V r a j := fun r a j z => by rw [← hWe]; simp [x_gs, z]
  have qW : ∀ k : Nat, m_q W y k = m_q S y k := fun k => by rw [← qV]; unfold m_q; rw [w_r]
  have W_us : m_used W y = m_used S y + nc_ (kb S y p) (m_manyFormals S y p) := by rw [← v10]; unfold m_used; rw [w_i]
  have W_ow : m_owner W y = m_owner S y := by funext j; unfold m_owner; rw [qW, w_ai 16 _ _ (by omega), V_ai 16 _ _ (by omega) (by omega) (by omega) (by omega)]
  have W_mk : m_marks W y = m_marks S y := by funext j; unfold m_marks; rw [qW, w_ai 12 _ _ (by omega), V_ai 12 _ _ (by omega) (by omega) (by omega) (by omega)]
  have mW : m_t W := by rw [← hWe]; exact mt_pai v2 (fun _ => ⟨_, rfl, by rw [v10]; omega⟩)
  have wW : w_t W := by rw [← hWe]; exact wt_pai v1 (fun z => absurd z (by decide))
  have hYW : g_sh W y = some (.inl 3) := by rw [← hWe]; simpa [x_gs] using hYV
  have hres : (f_e2 W y p (f_is W y p 4) (m_cells S y) 0 0 (g_AL V)).1 = (if m_marks S y p &&& 4 = 0 then 0 else cn_ (m_owner S y) p (m_cells S y)) ∧ (∀ r a j : Nat, ¬ r = 22 → (f_e2 W y p (f_is W y p 4) (m_cells S y) 0 0 (g_AL V)).2 r a j = g_al V r a j) ∧ (∀ d : Nat, d < m_used S y → (f_e2 W y p (f_is W y p 4) (m_cells S y) 0 0 (g_AL V)).2 22 (m_q S y 16) d = if m_marks S y p &&& 4 = 0 ∧ ¬ m_marks S y p &&& 1 = 0 ∧ d < m_cells S y ∧ m_owner S y d = p then m_first S y d else m_memory S y d) ∧ (∀ m : Nat, kb S y p m = true → (f_e2 W y p (f_is W y p 4) (m_cells S y) 0 0 (g_AL V)).2 22 (m_q S y 16) (m_used S y + nc_ (kb S y p) m) = m_memory S y (m_argument S y m).toNatClampNeg) ∧ ∀ k : Nat, ¬ m_marks S y p &&& 4 = 0 → k < m_cells S y → m_owner S y k = p → (f_e2 W y p (f_is W y p 4) (m_cells S y) 0 0 (g_AL V)).2 22 (m_q S y 16) (m_used S y + nc_ (kb S y p) (m_manyFormals S y p) + cn_ (m_owner S y) p k) = m_first S y k := by
    have hfi : ∀ k : Nat, g_AL V 19 (m_q S y 12) k = m_first S y k := fun k => V_al 19 _ k (by omega) (by omega)
    have hU0 : 200 ≤ m_used S y := by
      have h5 := hD.2.2.2.2.1
      have := U_mono (fun j hj => (hD.2.2.2.2.2.1 j hj).1) (m_active S y + 1) 0 (by omega)
      rw [Nat.zero_add, U_s] at this
      omega
    have hkm : ∀ m : Nat, kb S y p m = true → m < m_manyFormals S y p := fun m z => by have := (kb_t.mp z).1.1; omega
    by_cases c4 : m_marks S y p &&& 4 = 0
    · rw [show f_is W y p 4 = 0 from by rw [f_is, W_mk, if_pos c4]]
      obtain ⟨z1, z2⟩ := e2_0 mW hYW hcl (show p ≤ 60 by omega) (g_AL V) (m_cells S y) 0 (g_AL V) (by omega) (fun r a j => by rw [if_neg (by omega)])
      rw [qW, qW, W_ow, W_mk] at z2
      generalize f_e2 W y p 0 (m_cells S y) 0 0 (g_AL V) = R at *
      refine ⟨by rw [z1, if_pos c4], fun r a j z => ?_, fun d hd => ?_, fun m hm => ?_, fun k z => absurd c4 z⟩
      · rw [z2, if_neg (fun u => z u.1)]; rfl
      · rw [z2, hfi]
        by_cases u : d < m_cells S y ∧ m_owner S y d = p ∧ ¬ m_marks S y p &&& 1 = 0
        · rw [if_pos ⟨rfl, rfl, u⟩, if_pos ⟨c4, u.2.2, u.1, u.2.1⟩]
        · rw [if_neg (fun w => u w.2.2), if_neg (fun w => u ⟨w.2.2.1, w.2.2.2, w.2.1⟩)]
          exact V_me d hd
      · rw [z2, if_neg (by omega)]
        have := v12 m (hkm m hm) hm
        rw [← this]
        unfold m_memory
        rw [qV]; rfl
    · have hown : ¬ f_is W y p 4 = 0 := by rw [f_is, W_mk, if_neg c4]; decide
      obtain ⟨z1, z2, z3⟩ := e2_1 hown mW hYW hcl (show p ≤ 60 by omega) (g_AL V) (m_cells S y) 0 (g_AL V) (by omega) (fun r a j _ => rfl) (fun j hj => by omega)
      rw [qW, W_us] at z2
      rw [qW, qW, W_us] at z3
      rw [W_ow] at z1 z2 z3
      rw [show cn_ (m_owner S y) p 0 = 0 from rfl] at z1 z2 z3
      generalize f_e2 W y p (f_is W y p 4) (m_cells S y) 0 0 (g_AL V) = R at *
      refine ⟨by rw [z1, if_neg c4], fun r a j z => ?_, fun d hd => ?_, fun m hm => ?_, fun k _ hk ho => ?_⟩
      · rw [z2 r a j (fun u => z u.1)]; rfl
      · rw [if_neg (fun u => c4 u.1), z2 22 _ d (by omega)]
        exact V_me d hd
      · have hlt := nc_lt (hkm m hm) hm
        rw [z2 22 _ _ (by omega)]
        have := v12 m (hkm m hm) hm
        rw [← this]
        unfold m_memory
        rw [qV]; rfl
      · rw [z3 k hk ho, hfi]
  generalize f_e2 W y p (f_is W y p 4) (m_cells S y) 0 0 (g_AL V) = R at hres
  obtain ⟨r1, r2, r3, r4, r5⟩ := hres
  have hcnb := cn_le (m_owner S y) p (m_cells S y)
  have hR1 : R.1 ≤ 200 := by rw [r1]; split <;> omega
  have W_ac : m_active W y = m_active S y := by rw [← V_ac]; unfold m_active; rw [w_i]
  have W_at : ∀ i : Nat, m_activeTimes W y i = m_activeTimes S y i := fun i => by unfold m_activeTimes; rw [qW, w_ai 14 _ _ (by omega), V_ai 14 _ _ (by omega) (by omega) (by omega) (by omega)]
  have W_da : ∀ i : Nat, g_ai W 15 (m_q S y 7) i = m_data S y i := fun i => by rw [w_ai 15 _ _ (by omega), V_ai 15 _ _ (by omega) (by omega) (by omega) (by omega)]; rfl
  have hF : e_fin W y p R = p_i (p_i (p_i (p_ai (p_ai (p_i (p_AL W R.2) 3 17 y (nI (m_used S y + nc_ (kb S y p) (m_manyFormals S y p) + R.1))) 14 (m_q S y 6) p (m_activeTimes S y p + 1)) 15 (m_q S y 7) p 1) 3 22 y (nI (m_active S y + 1))) 3 23 y 0) 3 24 y 0 := by
    unfold e_fin
    rw [W_us, qW, qW, W_at, W_ac]
  rw [hF]
  have hwF : w_t (p_i (p_i (p_i (p_ai (p_ai (p_i (p_AL W R.2) 3 17 y (nI (m_used S y + nc_ (kb S y p) (m_manyFormals S y p) + R.1))) 14 (m_q S y 6) p (m_activeTimes S y p + 1)) 15 (m_q S y 7) p 1) 3 22 y (nI (m_active S y + 1))) 3 23 y 0) 3 24 y 0) := wt_pi0 (wt_pi0 (wt_pi0 (wt_pai (wt_pai (wt_pi0 (show w_t (p_AL W R.2) from wW) (by decide)) (fun z => absurd z (by decide))) (fun z => absurd z (by decide))) (by decide)) (by decide)) (by decide)
  have hmF : m_t (p_i (p_i (p_i (p_ai (p_ai (p_i (p_AL W R.2) 3 17 y (nI (m_used S y + nc_ (kb S y p) (m_manyFormals S y p) + R.1))) 14 (m_q S y 6) p (m_activeTimes S y p + 1)) 15 (m_q S y 7) p 1) 3 22 y (nI (m_active S y + 1))) 3 23 y 0) 3 24 y 0) := mt_arguments (n := 0) (mt_prepared (n := 0) (mt_active (mt_pai (mt_pai (mt_used (mt_AL mW) (by omega)) (fun _ => True.intro)) (fun _ => True.intro)) (by omega)) (by omega)) (by omega)
  generalize h2S : p_i (p_i (p_i (p_ai (p_ai (p_i (p_AL W R.2) 3 17 y (nI (m_used S y + nc_ (kb S y p) (m_manyFormals S y p) + R.1))) 14 (m_q S y 6) p (m_activeTimes S y p + 1)) 15 (m_q S y 7) p 1) 3 22 y (nI (m_active S y + 1))) 3 23 y 0) 3 24 y 0 = S2 at hwF hmF
  have f_sh : ∀ a : Nat, g_sh S2 a = g_sh S a := fun a => by rw [← b_sh, ← v3, ← h2S, ← hWe]; simp [x_gs, AL_sh]
  have f_r : ∀ c k a : Nat, g_r S2 c k a = g_r C c k a := fun c k a => by rw [← b_r, ← v4, ← w_r, ← h2S]; simp [x_gs, AL_r]
  have f_l : ∀ c k a : Nat, g_l S2 c k a = g_l S c k a := fun c k a => by rw [← g9, ← b_l, ← v5, ← h2S, ← hWe]; simp [x_gs, AL_l]
  have f_i : ∀ c k a : Nat, ¬ (c = 3 ∧ (k = 0 ∨ k = 17 ∨ k = 22 ∨ k = 23 ∨ k = 24)) → g_i S2 c k a = g_i C c k a := fun c k a z => by
    rw [← b_i c k a (by omega), ← v6 c k a (by omega), ← w_i, ← h2S]
    have u1 : ¬ (c = 3 ∧ k = 17 ∧ a = y) := by omega
    have u2 : ¬ (c = 3 ∧ k = 22 ∧ a = y) := by omega
    have u3 : ¬ (c = 3 ∧ k = 23 ∧ a = y) := by omega
    have u4 : ¬ (c = 3 ∧ k = 24 ∧ a = y) := by omega
    simp [x_gs, AL_i, u1, u2, u3, u4]
  have f_ai : ∀ r a j : Nat, ¬ r = 14 → ¬ r = 15 → g_ai S2 r a j = g_ai W r a j := fun r a j z1 z2 => by rw [← h2S]; simp [x_gs, AL_ai, z1, z2]
  have f_ar : ∀ r a j : Nat, g_ar S2 r a j = g_ar C r a j := fun r a j => by rw [← b_ar, ← v8, ← h2S, ← hWe]; simp [x_gs, AL_ar]
  have f_al : ∀ r a j : Nat, g_al S2 r a j = R.2 r a j := fun r a j => by rw [← h2S]; simp [x_gs, AL_al]
  have f_9 : ∀ a j : Nat, g_al S2 9 a j = g_al C 9 a j := fun a j => by rw [f_al, r2 9 a j (by omega), V_9]
  have qF : ∀ k : Nat, m_q S2 y k = m_q S y k := fun k => by unfold m_q; rw [f_r, g2 3 k y (by omega) (by omega) (by omega)]
  refine z_en1 hr hp hpr ham hwF hmF f_sh (fun c k a z1 z2 z3 => by rw [f_r]; exact g2 c k a z1 z2 z3) (by rw [f_r]; exact g3) (by rw [f_r]; exact g4) (fun a => by rw [f_r]; exact g5 a) (fun a => by rw [f_r]; exact g6 a) (fun c k a z1 z2 => by rw [f_i c k a z2]; exact g7 c k a z1) (by rw [f_i 2 9 x (by omega)]; exact g8) f_l (fun r a j z1 z2 z3 => by rw [f_ai r a j (by omega) (by omega), w_ai r a j (by omega)]; exact V_ai r a j z1 (by omega) (by omega) (by omega)) (fun r a j z => by rw [f_ar]; exact g11 r a j z) (fun r a j z1 z2 => by rw [f_al, r2 r a j z2]; exact V_al r a j z1 z2) (fun m hm => by rw [f_ar]; exact g13 m hm) (fun m hm => by rw [f_ai 7 _ _ (by omega) (by omega), w_ai 7 _ _ (by omega), v7 7 _ _ (by omega), b_ai 7 _ _ (by omega) (by omega)]; exact g14 m hm) (fun m hm => by rw [f_ai 8 _ _ (by omega) (by omega), w_ai 8 _ _ (by omega), v7 8 _ _ (by omega), b_ai 8 _ _ (by omega) (by omega)]; exact g17 m hm) (fun m hm => by rw [f_9]; exact g15 m hm) (fun k z1 z2 z3 => by rw [f_9]; exact h1c.1 k z1 z2 z3) (fun k hk => by rw [f_9]; exact h1c.2 k hk) (fun a j z1 z2 => by rw [f_9]; exact g16 a j z1 z2) ?_ ?_ ?_ ?_ (fun j => ?_) (fun j => ?_) (fun j => ?_) (fun i hi => ?_) (fun m hm => ?_) (fun i => ?_) (fun i => ?_) (fun d hd => ?_) (fun m hm => ?_) (fun k z hk ho => ?_)
  · unfold m_active; rw [← h2S]
    simp only [x_gs]
    simp [nI_clamp (show m_active S y + 1 < 2 ^ 31 by omega)]
    rfl
  · unfold m_prepared; rw [← h2S]; simp [x_gs]
  · unfold m_arguments; rw [← h2S]; simp [x_gs]
  · rw [← r1]
    have hc := nI_clamp (show m_used S y + nc_ (kb S y p) (m_manyFormals S y p) + R.1 < 2 ^ 31 by omega)
    generalize m_used S y + nc_ (kb S y p) (m_manyFormals S y p) + R.1 = w at *
    unfold m_used; rw [← h2S]; simp [x_gs, hc]
  · unfold m_usedAhead
    rw [qF, f_ai 25 _ _ (by omega) (by omega), w_ai 25 _ _ (by omega), v7 25 _ _ (by omega), b_25]
    split
    · rw [nI_clamp (by omega)]
    · rfl
  · unfold m_callOf
    rw [qF, f_ai 23 _ _ (by omega) (by omega), w_ai 23 _ _ (by omega), v7 23 _ _ (by omega), b_23]
    split
    · rw [nI_clamp (by omega)]
    · rfl
  · unfold m_baseOf
    rw [qF, f_ai 24 _ _ (by omega) (by omega), ← hWe, rd_ai]
    split
    · rw [v10, nI_clamp (by omega)]
    · rw [V_ai 24 _ _ (by omega) (by omega) (by omega) (by omega)]
  · unfold m_placeOf
    rw [qF, f_ai 26 _ _ (by omega) (by omega), w_ai 26 _ _ (by omega), V_ai 26 _ _ (by omega) (by omega) (by omega) (by omega)]
  · rw [← v11 m hm]
    unfold m_placeOf
    rw [qF, qV, f_ai 26 _ _ (by omega) (by omega), w_ai 26 _ _ (by omega)]
  · rw [← W_at i]
    unfold m_activeTimes
    rw [qF, qW, ← h2S]
    by_cases z : i = p
    · subst z; simp [x_gs, m_activeTimes]
    · simp [x_gs, AL_ai, z]
  · unfold m_data
    rw [qF, ← h2S]
    by_cases z : i = p
    · subst z; simp [x_gs]
    · have := W_da i
      unfold m_data at this
      simp [x_gs, AL_ai, z, this]
  · unfold m_memory; rw [qF, f_al, r3 d hd]; rfl
  · unfold m_memory; rw [qF, f_al, r4 m hm]; rfl
  · unfold m_memory; rw [qF, f_al, r5 k z hk ho]
