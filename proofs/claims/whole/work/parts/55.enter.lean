/-! enter: what the class does -/
theorem mt_fr {S T : gs_S} (h : m_t S) (gs : ∀ a : Nat, g_sh T a = g_sh S a) (gr : ∀ k a : Nat, g_r T 3 k a = g_r S 3 k a) (gi : ∀ k a : Nat, g_i T 3 k a = g_i S 3 k a) (gai : ∀ r a j : Nat, 10 ≤ r → g_ai T r a j = g_ai S r a j) : m_t T := by
  refine ⟨fun y hy => ?_, fun a r n ha hr i hi => ?_⟩
  · have := h.1 y (by rw [← gs]; exact hy)
    simp only [t_a, gs, gr, gi] at *
    exact this
  · rw [gai r a i hr]
    exact h.2 a r n (by rw [← gs]; exact ha) hr i hi
/-- all but the cells' first values -/
def ec_0 (S C : gs_S) (x y p : Nat) (P L : Nat → Nat) : Prop := (∀ a : Nat, g_sh C a = g_sh S a) ∧ (∀ c k a : Nat, ¬ (c = 2 ∧ (k = 10 ∨ k = 8)) → ¬ (c = 1 ∧ k = 8) → ¬ (c = 0 ∧ k = 3) → g_r C c k a = g_r S c k a) ∧ g_r C 2 10 x = none ∧ g_r C 2 8 x = some (L (m_active S y + 1)) ∧ (∀ a : Nat, g_r C 1 8 a = if a = P p then some (L (m_active S y + 1)) else g_r S 1 8 a) ∧ (∀ a : Nat, g_r C 0 3 a = if a = L (m_active S y + 1) then g_r S 1 8 (P p) else g_r S 0 3 a) ∧ (∀ c k a : Nat, ¬ (c = 2 ∧ k = 9) → g_i C c k a = g_i S c k a) ∧ g_i C 2 9 x = nI (m_active S y + 1) ∧ (∀ c k a : Nat, g_l C c k a = g_l S c k a) ∧ (∀ r a j : Nat, ¬ ((r = 7 ∧ a = (v_a (g_r S 0 6 (L (m_active S y + 1))))) ∨ (r = 8 ∧ a = (v_a (g_r S 0 7 (L (m_active S y + 1)))))) → g_ai C r a j = g_ai S r a j) ∧ (∀ r a j : Nat, ¬ (r = 6 ∧ a = (v_a (g_r S 0 5 (L (m_active S y + 1))))) → g_ar C r a j = g_ar S r a j) ∧ (∀ r a j : Nat, ¬ r = 9 → g_al C r a j = g_al S r a j) ∧ (∀ m : Nat, m < 16 → g_ar C 6 (v_a (g_r S 0 5 (L (m_active S y + 1)))) m = if kb S y p m = true then some (L (m_active S y + 1)) else g_ar S 6 (v_a (g_r S 0 5 (L (m_active S y + 1)))) m) ∧ (∀ m : Nat, m < 16 → g_ai C 7 (v_a (g_r S 0 6 (L (m_active S y + 1)))) m = if kb S y p m = true then nI m else g_ai S 7 (v_a (g_r S 0 6 (L (m_active S y + 1)))) m) ∧ (∀ m : Nat, m < 16 → g_al C 9 (v_a (g_r S 0 8 (L (m_active S y + 1)))) m = if kb S y p m = true then m_memory S y (m_argument S y m).toNatClampNeg else g_al S 9 (v_a (g_r S 0 8 (L (m_active S y + 1)))) m) ∧ (∀ a j : Nat, ¬ a = (v_a (g_r S 0 8 (L (m_active S y + 1)))) → ¬ a = v_a (g_r S 0 8 (L 0)) → g_al C 9 a j = g_al S 9 a j) ∧ ∀ m : Nat, m < m_manyFormals S y p → g_ai C 8 (v_a (g_r S 0 7 (L (m_active S y + 1)))) m = m_bytes S y (16 * (p - 1) + m)
def ec_1 (S C : gs_S) (x y p : Nat) (P L : Nat → Nat) : Prop := (∀ k : Nat, ¬ m_marks S y p &&& 4 = 0 → k < m_cells S y → m_owner S y k = p → g_al C 9 (v_a (g_r S 0 8 (L (m_active S y + 1)))) (16 + k) = m_first S y k) ∧ ∀ k : Nat, k < m_cells S y → g_al C 9 (v_a (g_r S 0 8 (L 0))) (16 + k) = if m_marks S y p &&& 4 = 0 ∧ ¬ m_marks S y p &&& 1 = 0 ∧ m_owner S y k = p then m_first S y k else g_al S 9 (v_a (g_r S 0 8 (L 0))) (16 + k)
set_option maxHeartbeats 8000000 in
theorem ec_e6 {S : gs_S} {x y t : Nat} {P L : Nat → Nat} {D : Nat → Nat → Option Nat} {N p : Nat} (h : r_R S x y t P L D N) (hp : m_prepared S y = p) (hpr : ¬ p = 0) (ham : m_arguments S y ≤ m_manyFormals S y p) : ec_0 S (e_6 S x (L (m_active S y + 1)) (P p)) x y p P L ∧ ∀ a j : Nat, ¬ (a = (v_a (g_r S 0 8 (L (m_active S y + 1)))) ∧ j < 16) → g_al (e_6 S x (L (m_active S y + 1)) (P p)) 9 a j = g_al S 9 a j := by
  obtain ⟨⟨h1, h2, h3, h4⟩, hb, hP, hC, hL, hD, hA⟩ := h
  have hprS : ¬ m_prepared S y = 0 := by rw [hp]; exact hpr
  have hn := b_programs h2 h4
  obtain ⟨p1, p2⟩ : 1 ≤ p ∧ p ≤ m_programs S y := by
    rcases id hA with ⟨z, -⟩ | ⟨a1, a2, -⟩
    · exact absurd z hprS
    · rw [hp] at a1 a2; exact ⟨a1, a2⟩
  have hmf := b_manyFormals h2 h4 (i := p) (by omega)
  have emf := (hP.2.2 p p1 p2).2.2.2.2.2.2.2.1
  have K := cv_loop hA hprS h2 h4 hL hD hP p1 p2 (m_manyFormals S y p) 0 (p_r S 2 10 x none) (by omega) (by
    refine ⟨fun _ => rfl, fun c k a z => ?_, fun _ _ _ => rfl, fun _ _ _ => rfl, fun _ _ _ _ => rfl, fun _ _ _ _ => rfl, fun _ _ _ _ => rfl, fun m _ => ?_, fun m _ => ?_, fun m _ => ?_, fun m hm => by omega⟩
    · rw [x_g_r_p_r, if_neg (fun u => z ⟨u.1, u.2.1⟩)]
    · rw [if_neg (by omega)]; rfl
    · rw [if_neg (by omega)]; rfl
    · rw [if_neg (by omega)]; rfl)
  have eK : f_cv (L (m_active S y + 1)) (v_a (g_r S 1 4 (P p))) (v_a (g_r S 0 7 (L (m_active S y + 1)))) (v_a (g_r S 1 5 (P p))) (m_manyFormals S y p) 0 (p_r S 2 10 x none) = e_2 S x (L (m_active S y + 1)) (P p) := by
    unfold e_2 f_cvs
    rw [show g_r (p_r S 2 10 x none) 1 4 (P p) = g_r S 1 4 (P p) from by simp [x_gs], show g_r (p_r S 2 10 x none) 1 5 (P p) = g_r S 1 5 (P p) from by simp [x_gs], show g_r (p_r S 2 10 x none) 0 7 (L (m_active S y + 1)) = g_r S 0 7 (L (m_active S y + 1)) from by simp [x_gs], show g_i (p_r S 2 10 x none) 1 6 (P p) = g_i S 1 6 (P p) from rfl, emf, nI_clamp (by omega)]
  rw [eK, Nat.zero_add] at K
  have k10 : g_r (e_2 S x (L (m_active S y + 1)) (P p)) 2 10 x = none := by
    unfold e_2
    rw [f_cvs_r]; simp [x_gs]
  unfold e_6
  generalize e_2 S x (L (m_active S y + 1)) (P p) = K at *
  obtain ⟨g1, g2, g3, g4, g5, g6, g7, g8, g9, g10, g11⟩ := K
  have hk : ∀ m : Nat, (m < m_manyFormals S y p ∧ kb S y p m = true) ↔ kb S y p m = true := fun m => ⟨fun z => z.2, fun z => ⟨by have := (kb_t.mp z).1.1; omega, z⟩⟩
  simp only [hk] at g8 g9 g10
  refine ⟨⟨fun a => ?_, fun c k a z1 z2 z3 => ?_, ?_, ?_, fun a => ?_, fun a => ?_, fun c k a z => ?_, ?_, fun c k a => ?_, fun r a j z => ?_, fun r a j z => ?_, fun r a j z => ?_, fun m hm => ?_, fun m hm => ?_, fun m hm => ?_, fun a j z1 z2 => ?_, fun m hm => ?_⟩, fun a j z => ?_⟩
  · simp only [x_gs]; exact g1 a
  · have u1 : ¬ (c = 0 ∧ k = 3 ∧ a = L (m_active S y + 1)) := fun u => z3 ⟨u.1, u.2.1⟩
    have u2 : ¬ (c = 1 ∧ k = 8 ∧ a = P p) := fun u => z2 ⟨u.1, u.2.1⟩
    have u3 : ¬ (c = 2 ∧ k = 8 ∧ a = x) := fun u => z1 ⟨u.1, Or.inr u.2.1⟩
    simp only [x_gs, if_neg u1, if_neg u2, if_neg u3]
    exact g2 c k a (fun u => z1 ⟨u.1, Or.inl u.2⟩)
  · simp [x_gs, k10]
  · simp [x_gs]
  · have := g2 1 8 a (by omega)
    simp [x_gs, this]
  · have := g2 0 3 a (by omega)
    have w := g2 1 8 (P p) (by omega)
    simp [x_gs, this, w]
  · have u : ¬ (c = 2 ∧ k = 9 ∧ a = x) := fun u => z ⟨u.1, u.2.1⟩
    simp only [x_gs, if_neg u]
    exact g4 c k a
  · have u := g4 2 9 x
    rw [hL.2.2.1] at u
    rw [rd_i, u, nI_succ]
  · simp only [x_gs]; exact g3 c k a
  · simp only [x_gs]; exact g5 r a j z
  · simp only [x_gs]; exact g6 r a j z
  · simp only [x_gs]; exact g7 r a j (fun u => z u.1)
  · simp only [x_gs]; exact g8 m hm
  · simp only [x_gs]; exact g9 m hm
  · simp only [x_gs]; exact g10 m hm
  · simp only [x_gs]; exact g7 9 a j (fun u => z1 u.2.1)
  · simp only [x_gs]
    rw [g11 m hm]
    exact ((hP.2.2 p p1 p2).2.2.2.2.2.2.2.2 m hm).2.1
  · simp only [x_gs]; exact g7 9 a j (fun u => z u.2)
theorem gv_al (S : gs_S) (vd ow fv a n r b j : Nat) : g_al (f_gv S vd ow fv a n) r b j = if r = 9 ∧ b = vd ∧ 16 ≤ j ∧ j < 16 + n ∧ g_ar S 1 ow (j - 16) = some a then g_al S 2 fv (j - 16) else g_al S r b j := rfl
theorem ec_gv {S C : gs_S} {x y p : Nat} {P L : Nat → Nat} {vd ow fv a n : Nat} (h : ec_0 S C x y p P L) (hv : vd = (v_a (g_r S 0 8 (L (m_active S y + 1)))) ∨ vd = v_a (g_r S 0 8 (L 0))) : ec_0 S (f_gv C vd ow fv a n) x y p P L := by
  obtain ⟨g1, g2, g3, g4, g5, g6, g7, g8, g9, g10, g11, g12, g13, g14, g15, g16, g17⟩ := h
  refine ⟨g1, g2, g3, g4, g5, g6, g7, g8, g9, g10, g11, fun r b j z => ?_, g13, g14, fun m hm => ?_, fun b j z1 z2 => ?_, g17⟩
  · rw [gv_al, if_neg (fun u => z u.1)]; exact g12 r b j z
  · rw [gv_al, if_neg (by omega)]; exact g15 m hm
  · rw [gv_al, if_neg (fun u => by
      rcases hv with hv | hv
      · exact z1 (u.2.1.trans hv)
      · exact z2 (u.2.1.trans hv))]; exact g16 b j z1 z2
set_option maxHeartbeats 8000000 in
theorem ec_en {S : gs_S} {x y t : Nat} {P L : Nat → Nat} {D : Nat → Nat → Option Nat} {N p : Nat} (h : r_R S x y t P L D N) (hp : m_prepared S y = p) (hpr : ¬ p = 0) (ham : m_arguments S y ≤ m_manyFormals S y p) : ∃ C : gs_S, (if f_keeps (e_6 S x (L (m_active S y + 1)) (P p)) (P p) = 0 then ((1 : Int32), f_give (e_6 S x (L (m_active S y + 1)) (P p)) x (P p)) else (1, e_6 S x (L (m_active S y + 1)) (P p))) = (1, C) ∧ w_t C ∧ ec_0 S C x y p P L ∧ ec_1 S C x y p P L := by
  obtain ⟨he, ho⟩ := ec_e6 h hp hpr ham
  obtain ⟨⟨h1, h2, h3, h4⟩, hb, hP, hC, hL, hD, hA⟩ := h
  have hprS : ¬ m_prepared S y = 0 := by rw [hp]; exact hpr
  have hn := b_programs h2 h4
  have hcl := b_cells h2 h4
  obtain ⟨p1, p2, hN⟩ : 1 ≤ p ∧ p ≤ m_programs S y ∧ m_active S y + 1 ≤ N := by
    rcases id hA with ⟨z, -⟩ | ⟨a1, a2, a3, -⟩
    · exact absurd z hprS
    · rw [hp] at a1 a2; exact ⟨a1, a2, a3⟩
  have hlv := hL.2.2.2.2.2.2.1 _ hN
  have hpP := (hP.2.2 p p1 p2).2.1
  have hw := wt_e6 (x := x) h1 hlv hpP
  generalize e_6 S x (L (m_active S y + 1)) (P p) = E at *
  have g2 := he.2.1
  have hmk : g_i E 1 3 (P p) = m_marks S y p := by rw [he.2.2.2.2.2.2.1 1 3 _ (by omega)]; exact (hP.2.2 p p1 p2).2.2.2.2.2.2.1
  have hh : ∀ k : Int32, f_has E (P p) k = if m_marks S y p &&& k = 0 then 0 else 1 := fun k => by unfold f_has; rw [hmk]
  have ecl : (g_i E 2 5 x).toNatClampNeg = m_cells S y := by rw [he.2.2.2.2.2.2.1 2 5 _ (by omega), hC.1, nI_clamp (by omega)]
  have eow : ∀ k : Nat, k < m_cells S y → (g_ar E 1 (v_a (g_r E 2 3 x)) k = some (P p) ↔ m_owner S y k = p) := fun k hk => by
    rw [g2 2 3 x (by omega) (by omega) (by omega), he.2.2.2.2.2.2.2.2.2.2.1 1 _ _ (by omega), (hC.2.1 k hk).2.1, ← p_f1 P p1]
    exact ⟨fun z => r_injf hP hn (hC.2.1 k hk).1 p2 z, fun z => by rw [z]⟩
  have efi : ∀ k : Nat, k < m_cells S y → m_owner S y k = p → g_al E 2 (v_a (g_r E 2 4 x)) k = m_first S y k := fun k hk ho => by
    rw [g2 2 4 x (by omega) (by omega) (by omega), he.2.2.2.2.2.2.2.2.2.2.2.1 2 _ _ (by omega)]
    exact ((hC.2.1 k hk).2.2 (by omega)).1
  have hv0 : ¬ v_a (g_r S 0 8 (L 0)) = (v_a (g_r S 0 8 (L (m_active S y + 1)))) := fun z => by have := hL.2.2.2.2.2.2.2.1 0 _ (by omega) hN (Or.inr ⟨8, by omega, by omega, z⟩); omega
  unfold f_keeps
  rw [hh 1, hh 4]
  by_cases c4 : m_marks S y p &&& 4 = 0
  · by_cases c1 : m_marks S y p &&& 1 = 0
    · rw [if_pos c1, if_pos c4, if_pos rfl, if_pos rfl, if_neg (by decide)]
      refine ⟨E, rfl, hw, he, fun k z => absurd c4 z, fun k hk => ?_⟩
      rw [if_neg (fun u => u.2.1 c1)]
      exact ho _ _ (fun u => hv0 u.1)
    · rw [if_neg c1, if_neg (show ¬ (1 : Int32) = 0 by decide), if_pos rfl]
      refine ⟨_, rfl, wt_give hw, ?_⟩
      have ed : v_a (g_r E 0 8 (v_a (f_data E x (P p)))) = v_a (g_r S 0 8 (L 0)) := by
        unfold f_data
        rw [hh 4, if_pos c4, if_pos rfl, g2 2 7 x (by omega) (by omega) (by omega), hL.1]
        rw [show v_a (some (L 0)) = L 0 from rfl, g2 0 8 _ (by omega) (by omega) (by omega)]
      unfold f_give
      rw [ed, ecl]
      refine ⟨ec_gv he (Or.inr rfl), fun k z => absurd c4 z, fun k hk => ?_⟩
      rw [gv_al, show 16 + k - 16 = k by omega]
      by_cases u : m_owner S y k = p
      · rw [if_pos ⟨rfl, rfl, by omega, by omega, (eow k hk).mpr u⟩, if_pos ⟨c4, c1, u⟩, efi k hk u]
      · rw [if_neg (fun z => u ((eow k hk).mp z.2.2.2.2)), if_neg (fun z => u z.2.2)]
        exact ho _ _ (fun u => hv0 u.1)
  · rw [if_neg c4, if_neg (show ¬ (1 : Int32) = 0 by decide), if_pos (show (if (if m_marks S y p &&& 1 = 0 then (0 : Int32) else 1) = 0 then (0 : Int32) else 0) = 0 by split <;> rfl)]
    refine ⟨_, rfl, wt_give hw, ?_⟩
    have ed : v_a (g_r E 0 8 (v_a (f_data E x (P p)))) = (v_a (g_r S 0 8 (L (m_active S y + 1)))) := by
      unfold f_data
      rw [hh 4, if_neg c4, if_neg (by decide), he.2.2.2.2.1, if_pos rfl]
      rw [show v_a (some (L (m_active S y + 1))) = L (m_active S y + 1) from rfl, g2 0 8 _ (by omega) (by omega) (by omega)]
    unfold f_give
    rw [ed, ecl]
    refine ⟨ec_gv he (Or.inl rfl), fun k _ hk u => ?_, fun k hk => ?_⟩
    · rw [gv_al, show 16 + k - 16 = k by omega, if_pos ⟨rfl, rfl, by omega, by omega, (eow k hk).mpr u⟩, efi k hk u]
    · rw [gv_al, if_neg (fun z => hv0 z.2.1), if_neg (fun z => c4 z.1)]
      exact ho _ _ (fun u => hv0 u.1)
