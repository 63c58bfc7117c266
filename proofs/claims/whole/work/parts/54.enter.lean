/-! enter: what the two together are afterwards -/
/-- how many below k -/
def nc_ (f : Nat → Bool) : Nat → Nat
  | 0 => 0
  | k + 1 => nc_ f k + (if f k = true then 1 else 0)
theorem nc_le (f : Nat → Bool) : ∀ k, nc_ f k ≤ k := by
  intro k
  induction k with
  | zero => exact Nat.le_refl _
  | succ k ih => unfold nc_; split <;> omega
theorem nc_mo (f : Nat → Bool) : ∀ k i, i ≤ k → nc_ f i ≤ nc_ f k := by
  intro k
  induction k with
  | zero => intro i h; rw [show i = 0 by omega]; exact Nat.le_refl _
  | succ k ih =>
    intro i h
    by_cases z : i = k + 1
    · rw [z]; exact Nat.le_refl _
    · have := ih i (by omega)
      show nc_ f i ≤ nc_ f k + _
      omega
theorem nc_lt {f : Nat → Bool} {i k : Nat} (h : i < k) (hi : f i = true) : nc_ f i < nc_ f k := by
  have := nc_mo f k (i + 1) (by omega)
  rw [nc_, if_pos hi] at this
  omega
theorem cn_mo (f : Nat → Nat) (p : Nat) : ∀ k i, i ≤ k → cn_ f p i ≤ cn_ f p k := by
  intro k
  induction k with
  | zero => intro i h; rw [show i = 0 by omega]; exact Nat.le_refl _
  | succ k ih =>
    intro i h
    by_cases z : i = k + 1
    · rw [z]; exact Nat.le_refl _
    · have := ih i (by omega)
      show cn_ f p i ≤ cn_ f p k + _
      omega
theorem cn_lt {f : Nat → Nat} {p i k : Nat} (h : i < k) (hi : f i = p) : cn_ f p i < cn_ f p k := by
  have := cn_mo f p k (i + 1) (by omega)
  rw [cn_, if_pos hi] at this
  omega
/-- where the values lie after enter -/
def D_e (S : gs_S) (y p : Nat) (D : Nat → Nat → Option Nat) (h q : Nat) : Option Nat := if h = m_active S y + 1 then (if q < 16 then (if kb S y p q = true then some (m_used S y + nc_ (kb S y p) q) else D h q) else if ¬ m_marks S y p &&& 4 = 0 ∧ q < 16 + m_cells S y ∧ m_owner S y (q - 16) = p then some ((m_used S y + nc_ (kb S y p) (m_manyFormals S y p)) + cn_ (m_owner S y) p (q - 16)) else none) else D h q
theorem D_el {S : gs_S} {y p : Nat} {D : Nat → Nat → Option Nat} {h q : Nat} (e : ¬ h = m_active S y + 1) : D_e S y p D h q = D h q := if_neg e
theorem D_ea {S : gs_S} {y p : Nat} {D : Nat → Nat → Option Nat} {q : Nat} (e : q < 16) : D_e S y p D (m_active S y + 1) q = if kb S y p q = true then some (m_used S y + nc_ (kb S y p) q) else D (m_active S y + 1) q := by unfold D_e; rw [if_pos rfl, if_pos e]
theorem D_ec {S : gs_S} {y p : Nat} {D : Nat → Nat → Option Nat} {q : Nat} (e : ¬ q < 16) : D_e S y p D (m_active S y + 1) q = if ¬ m_marks S y p &&& 4 = 0 ∧ q < 16 + m_cells S y ∧ m_owner S y (q - 16) = p then some ((m_used S y + nc_ (kb S y p) (m_manyFormals S y p)) + cn_ (m_owner S y) p (q - 16)) else none := by unfold D_e; rw [if_pos rfl, if_neg e]
set_option maxHeartbeats 8000000 in
theorem z_en1 {S S2 : gs_S} {x y t : Nat} {P L : Nat → Nat} {D : Nat → Nat → Option Nat} {N p : Nat} (h : r_R S x y t P L D N) (hp : m_prepared S y = p) (hpr : ¬ p = 0) (ham : m_arguments S y ≤ m_manyFormals S y p)
    (w1 : w_t S2) (w2 : m_t S2) (gs : ∀ a : Nat, g_sh S2 a = g_sh S a)
    (gr : ∀ c k a : Nat, ¬ (c = 2 ∧ (k = 10 ∨ k = 8)) → ¬ (c = 1 ∧ k = 8) → ¬ (c = 0 ∧ k = 3) → g_r S2 c k a = g_r S c k a)
    (gr10 : g_r S2 2 10 x = none) (gr8 : g_r S2 2 8 x = some (L (m_active S y + 1))) (gr18 : ∀ a : Nat, g_r S2 1 8 a = if a = P p then some (L (m_active S y + 1)) else g_r S 1 8 a) (gr03 : ∀ a : Nat, g_r S2 0 3 a = if a = L (m_active S y + 1) then g_r S 1 8 (P p) else g_r S 0 3 a)
    (gi : ∀ c k a : Nat, ¬ (c = 2 ∧ k = 9) → ¬ (c = 3 ∧ (k = 0 ∨ k = 17 ∨ k = 22 ∨ k = 23 ∨ k = 24)) → g_i S2 c k a = g_i S c k a) (gi9 : g_i S2 2 9 x = nI (m_active S y + 1)) (gl : ∀ c k a : Nat, g_l S2 c k a = g_l S c k a)
    (gai : ∀ r a j : Nat, ¬ ((r = 7 ∧ a = (v_a (g_r S 0 6 (L (m_active S y + 1))))) ∨ (r = 8 ∧ a = (v_a (g_r S 0 7 (L (m_active S y + 1)))))) → ¬ (14 ≤ r ∧ r ≤ 15) → ¬ (23 ≤ r ∧ r ≤ 26) → g_ai S2 r a j = g_ai S r a j) (gar : ∀ r a j : Nat, ¬ (r = 6 ∧ a = (v_a (g_r S 0 5 (L (m_active S y + 1))))) → g_ar S2 r a j = g_ar S r a j) (gal : ∀ r a j : Nat, ¬ r = 9 → ¬ r = 22 → g_al S2 r a j = g_al S r a j)
    (c6 : ∀ m : Nat, m < 16 → g_ar S2 6 (v_a (g_r S 0 5 (L (m_active S y + 1)))) m = if kb S y p m = true then some (L (m_active S y + 1)) else g_ar S 6 (v_a (g_r S 0 5 (L (m_active S y + 1)))) m) (c7 : ∀ m : Nat, m < 16 → g_ai S2 7 (v_a (g_r S 0 6 (L (m_active S y + 1)))) m = if kb S y p m = true then nI m else g_ai S 7 (v_a (g_r S 0 6 (L (m_active S y + 1)))) m) (c8 : ∀ m : Nat, m < m_manyFormals S y p → g_ai S2 8 (v_a (g_r S 0 7 (L (m_active S y + 1)))) m = m_bytes S y (16 * (p - 1) + m)) (c9 : ∀ m : Nat, m < 16 → g_al S2 9 (v_a (g_r S 0 8 (L (m_active S y + 1)))) m = if kb S y p m = true then m_memory S y (m_argument S y m).toNatClampNeg else g_al S 9 (v_a (g_r S 0 8 (L (m_active S y + 1)))) m)
    (c9r : ∀ k : Nat, ¬ m_marks S y p &&& 4 = 0 → k < m_cells S y → m_owner S y k = p → g_al S2 9 (v_a (g_r S 0 8 (L (m_active S y + 1)))) (16 + k) = m_first S y k) (c90 : ∀ k : Nat, k < m_cells S y → g_al S2 9 (v_a (g_r S 0 8 (L 0))) (16 + k) = if m_marks S y p &&& 4 = 0 ∧ ¬ m_marks S y p &&& 1 = 0 ∧ m_owner S y k = p then m_first S y k else g_al S 9 (v_a (g_r S 0 8 (L 0))) (16 + k)) (c9o : ∀ a j : Nat, ¬ a = (v_a (g_r S 0 8 (L (m_active S y + 1)))) → ¬ a = v_a (g_r S 0 8 (L 0)) → g_al S2 9 a j = g_al S 9 a j)
    (eac : m_active S2 y = m_active S y + 1) (epr : m_prepared S2 y = 0) (ear : m_arguments S2 y = 0) (eus : m_used S2 y = (m_used S y + nc_ (kb S y p) (m_manyFormals S y p)) + (if m_marks S y p &&& 4 = 0 then 0 else cn_ (m_owner S y) p (m_cells S y))) (eua : ∀ j : Nat, m_usedAhead S2 y j = if j = m_active S y then m_preparedAhead S y else m_usedAhead S y j) (eco : ∀ j : Nat, m_callOf S2 y j = if j = m_active S y then p else m_callOf S y j) (eba : ∀ j : Nat, m_baseOf S2 y j = if j = m_active S y then (m_used S y + nc_ (kb S y p) (m_manyFormals S y p)) else m_baseOf S y j)
    (epl : ∀ i : Nat, i < 16 * m_active S y → m_placeOf S2 y i = m_placeOf S y i) (epa : ∀ m : Nat, m < m_manyFormals S y p → m_placeOf S2 y (16 * m_active S y + m) = if kb S y p m = true then nI (m_used S y + nc_ (kb S y p) m) else if m < m_arguments S y then m_argument S y m else -1)
    (eat : ∀ i : Nat, m_activeTimes S2 y i = if i = p then m_activeTimes S y p + 1 else m_activeTimes S y i) (eda : ∀ i : Nat, m_data S2 y i = if i = p then 1 else m_data S y i)
    (em0 : ∀ d : Nat, d < m_used S y → m_memory S2 y d = if m_marks S y p &&& 4 = 0 ∧ ¬ m_marks S y p &&& 1 = 0 ∧ d < m_cells S y ∧ m_owner S y d = p then m_first S y d else m_memory S y d) (em1 : ∀ m : Nat, kb S y p m = true → m_memory S2 y (m_used S y + nc_ (kb S y p) m) = m_memory S y (m_argument S y m).toNatClampNeg) (em2 : ∀ k : Nat, ¬ m_marks S y p &&& 4 = 0 → k < m_cells S y → m_owner S y k = p → m_memory S2 y ((m_used S y + nc_ (kb S y p) (m_manyFormals S y p)) + cn_ (m_owner S y) p k) = m_first S y k) : r_R S2 x y (t + 1) P L (D_e S y p D) N := by
  have hr := h
  obtain ⟨⟨h1, h2, h3, h4⟩, hb, hP, hC, hL, hD, hA⟩ := h
  have hcl := b_cells h2 h4
  have hn := b_programs h2 h4
  have hag := b_arguments h2 h4
  obtain ⟨l1, l2, l3, l4, l5, l5', l6, l7, l8, l9, l10, l11, l12⟩ := id hL
  have hprS : ¬ m_prepared S y = 0 := by rw [hp]; exact hpr
  obtain ⟨p1, p2, hN, a4, a5, a6, a7, a8⟩ : 1 ≤ p ∧ p ≤ m_programs S y ∧ m_active S y + 1 ≤ N ∧ g_r S 2 10 x = some (L (m_active S y + 1)) ∧ g_r S 0 2 (L (m_active S y + 1)) = some (P p) ∧ g_i S 0 4 (L (m_active S y + 1)) = nI (m_arguments S y) ∧ (m_marks S y p &&& 4 = 0 → cn_ (m_callOf S y) p (m_active S y) = 0) ∧ True := by
    rcases id hA with ⟨z, -⟩ | ⟨a1, a2, a3, a4, a5, a6, a7, -⟩
    · exact absurd z hprS
    · rw [hp] at a1 a2 a5 a7
      exact ⟨a1, a2, a3, a4, a5, a6, a7, True.intro⟩
  have hmf := b_manyFormals h2 h4 (i := p) (by omega)
  have hne : ∀ j : Nat, j ≤ N → ¬ j = m_active S y + 1 → ∀ k : Nat, 5 ≤ k → k ≤ 8 → ¬ v_a (g_r S 0 k (L j)) = v_a (g_r S 0 k (L (m_active S y + 1))) := fun j hj w k k1 k2 z => w (l7 j _ hj hN (Or.inr ⟨k, k1, k2, z⟩))
  have hU1 := fun j hj => (hD.2.2.2.2.2.1 j hj).1
  have hUm := U_mono hU1
  have hU0 := hD.2.2.2.2.1
  have hUa := hUm (m_active S y) 0 (by omega)
  rw [Nat.zero_add] at hUa
  have hUs := hU1 (m_active S y) (Nat.le_refl _)
  rw [U_s] at hUs
  have qk : ∀ k : Nat, m_q S2 y k = m_q S y k := fun k => by unfold m_q; rw [gr 3 k y (by omega) (by omega) (by omega)]
  have epg : m_programs S2 y = m_programs S y := by unfold m_programs; rw [gi 3 8 y (by omega) (by omega)]
  have ecl : m_cells S2 y = m_cells S y := by unfold m_cells; rw [gi 3 13 y (by omega) (by omega)]
  have ewi : m_within S2 y = m_within S y := by funext j; unfold m_within; rw [gai 10 _ j (by omega) (by omega) (by omega), qk]
  have enm : m_names S2 y = m_names S y := by funext j; unfold m_names; rw [gai 11 _ j (by omega) (by omega) (by omega), qk]
  have emk : m_marks S2 y = m_marks S y := by funext j; unfold m_marks; rw [gai 12 _ j (by omega) (by omega) (by omega), qk]
  have emf : m_manyFormals S2 y = m_manyFormals S y := by funext j; unfold m_manyFormals; rw [gai 13 _ j (by omega) (by omega) (by omega), qk]
  have eow : m_owner S2 y = m_owner S y := by funext j; unfold m_owner; rw [gai 16 _ j (by omega) (by omega) (by omega), qk]
  have erk : m_rank S2 y = m_rank S y := by funext j; unfold m_rank; rw [gai 17 _ j (by omega) (by omega) (by omega), qk]
  have eex : m_external S2 y = m_external S y := by funext j; unfold m_external; rw [gai 18 _ j (by omega) (by omega) (by omega), qk]
  have efi : m_first S2 y = m_first S y := by funext j; unfold m_first; rw [gal 19 _ j (by omega) (by omega), qk]
  have eho : m_how S2 y = m_how S y := by funext j; unfold m_how; rw [gai 20 _ j (by omega) (by omega) (by omega), qk]
  have eby : m_bytes S2 y = m_bytes S y := by funext j; unfold m_bytes; rw [gai 21 _ j (by omega) (by omega) (by omega), qk]
  have hkb : ∀ m : Nat, kb S y p m = true → m < m_manyFormals S y p := fun m z => by have := (kb_t.mp z).1.1; omega
  have hncb := nc_le (kb S y p) (m_manyFormals S y p)
  have hcnb := cn_le (m_owner S y) p (m_cells S y)
  have eU : ∀ j : Nat, j ≤ m_active S y → r_U S2 y j = r_U S y j := fun j hj => by
    rw [U_l (S := S2) (by rw [eac]; omega), eua]
    by_cases z : j = m_active S y
    · rw [if_pos z, z, U_a, if_neg hprS]
    · rw [if_neg z, U_l (S := S) (by omega)]
  have eU1 : ∀ j : Nat, m_active S y < j → r_U S2 y j = m_used S2 y := fun j hj => by
    unfold r_U
    rw [eac, epr, if_neg (by omega)]
    split <;> rfl
  refine ⟨⟨w1, w2, by rw [gs]; exact h3, by rw [gs]; exact h4⟩, ?_, ?_, ?_, ?_, ?_, ?_⟩
  · rw [eac, epr, ecl, if_pos rfl]
    rw [if_neg hprS] at hb
    omega
  · exact rP_fr hP (gi 2 2 x (by omega) (by omega)) epg ewi enm emk emf eho eby (fun k a hk => gr 1 k a (by omega) (by omega) (by omega)) (gr 2 1 x (by omega) (by omega) (by omega)) (fun a i => gar 0 a i (by omega)) (fun k a hk => gi 1 k a (by omega) (by omega)) gs (fun a i => gai 4 a i (by omega) (by omega) (by omega)) (fun a i => gai 5 a i (by omega) (by omega) (by omega))
  · unfold r_C
    rw [gi 2 5 x (by omega) (by omega), ecl, eow, epg, gr 2 3 x (by omega) (by omega) (by omega), gr 2 4 x (by omega) (by omega) (by omega), gr 2 6 x (by omega) (by omega) (by omega), efi, erk, eex, emf]
    refine ⟨hC.1, fun k hk => ?_, fun nm hnm => ?_, fun k k1 k2 => ?_⟩
    · rw [gar 1 _ _ (by omega), gal 2 _ _ (by omega) (by omega)]; exact hC.2.1 k hk
    · rw [gai 3 _ _ (by omega) (by omega) (by omega)]; exact hC.2.2.1 nm hnm
    · rw [eat, eda, if_neg (by omega), if_neg (by omega)]; exact hC.2.2.2 k k1 k2
  · unfold r_L
    rw [eac, emk, epg, gr 2 7 x (by omega) (by omega) (by omega), gr8, gi9, gi 2 0 x (by omega) (by omega), gi 3 1 y (by omega) (by omega), gl, gl, gr 0 1 (L N) (by omega) (by omega) (by omega), gr 0 2 (L 0) (by omega) (by omega) (by omega)]
    have ecb : ∀ j : Nat, j < m_active S y → m_callOf S2 y j = m_callOf S y j := fun j hj => by rw [eco, if_neg (by omega)]
    refine ⟨l1, rfl, rfl, hN, l5, l5', fun j hj => by rw [gs]; exact l6 j hj, fun i j hi hj z => l7 i j hi hj ?_, fun j hj => by rw [gr 0 1 _ (by omega) (by omega) (by omega), gr 0 0 _ (by omega) (by omega) (by omega)]; exact l8 j hj, l9, l10, fun j hj => ?_, fun i i1 i2 => ?_⟩
    · rcases z with z | ⟨k, k1, k2, z⟩
      · exact Or.inl z
      · rw [gr 0 k _ (by omega) (by omega) (by omega), gr 0 k _ (by omega) (by omega) (by omega)] at z; exact Or.inr ⟨k, k1, k2, z⟩
    · rw [gr 0 2 _ (by omega) (by omega) (by omega), gr03, eco]
      by_cases z : j = m_active S y
      · subst z
        rw [if_pos rfl, if_pos rfl, la_cg (fun k hk => ecb k hk)]
        exact ⟨p1, p2, a5, (l12 p p1 p2).1⟩
      · rw [if_neg z, if_neg (fun w => by have := l7 (j + 1) _ (by omega) hN (Or.inl w); omega), la_cg (fun k hk => ecb k (by omega))]
        exact l11 j (by omega)
    · obtain ⟨b1, b2, b3, b4⟩ := l12 i i1 i2
      have hPi : P i = P p ↔ i = p := ⟨fun w => r_inj hP hn i1 i2 p1 p2 w, fun w => by rw [w]⟩
      rw [gr18, eat, eda, gi 1 7 _ (by omega) (by omega), la_, cn_, eco, if_pos rfl, la_cg (fun k hk => ecb k hk), cn_cg (fun k hk => ecb k hk)]
      by_cases z : i = p
      · subst z
        rw [if_pos rfl, if_pos rfl, if_pos rfl, if_pos rfl, if_pos rfl, p_f1 L (by omega), b2]
        refine ⟨rfl, ?_, fun w => by omega, fun w => ⟨by have := a7 w; omega, fun _ => rfl⟩⟩
        exact (nI_succ _).symm
      · rw [if_neg (fun w => z (hPi.mp w)), if_neg z, if_neg z, if_neg (fun w => z w.symm), if_neg (fun w => z w.symm), Nat.add_zero]
        exact ⟨b1, b2, b3, b4⟩
  · obtain ⟨d1, d2, d3, d4, d5, d6, d7, d8, d9⟩ := id hD
    have hD0 : ∀ q : Nat, D_e S y p D 0 q = D 0 q := fun q => D_el (by omega)
    have hb8 : ∀ j : Nat, j < m_active S y + 1 → ∀ i : Nat, i < m_manyFormals S y (if j = m_active S y then p else m_callOf S y j) → g_ai S2 8 (v_a (g_r S2 0 7 (L (j + 1)))) i = m_bytes S2 y (16 * (m_callOf S2 y j - 1) + i) := fun j hj i hi => by
      rw [gr 0 7 _ (by omega) (by omega) (by omega), eby, eco]
      by_cases z : j = m_active S y
      · subst z
        rw [if_pos rfl] at hi ⊢
        exact c8 i hi
      · rw [if_neg z] at hi ⊢
        rw [gai 8 _ _ (fun u => u.elim (fun u => absurd u.1 (by decide)) (fun u => hne (j + 1) (by omega) (by omega) 7 (by omega) (by omega) u.2)) (by omega) (by omega)]
        exact (d8 j (by omega) i hi).2
    have hdl : ∀ {h q d : Nat}, D h q = some d → d < m_used S y := fun e => by have := D_lt hD hcl e; rw [U_s] at this; exact this
    have hd200 : ∀ {h q d : Nat}, 1 ≤ h → D h q = some d → 200 ≤ d := fun {h q d} h0 e => by
      obtain ⟨z1, z2, z3, z4⟩ := d2 h q d h0 e
      have : r_U S y 0 ≤ r_U S y (0 + (h - 1)) := hUm (h - 1) 0 (by rw [if_neg hprS] at z1; omega)
      rw [Nat.zero_add] at this
      omega
    have hmem : ∀ {h q d : Nat}, 1 ≤ h → D h q = some d → m_memory S2 y d = m_memory S y d := fun h0 e => by
      rw [em0 _ (hdl e), if_neg (fun z => by have := hd200 h0 e; omega)]
    have hv0 : ∀ j : Nat, ¬ (v_a (g_r S 0 8 (L (m_active S y + 1)))) = v_a (g_r S 0 8 (L 0)) := fun j z => hne 0 (by omega) (by omega) 8 (by omega) (by omega) z.symm
    have mono : ∀ j : Nat, j < m_active S y → ∀ h q d : Nat, h ≤ j + 1 → D h q = some d → D_e S y p D h q = some d := fun j hj h q d hh e => by rw [D_el (by omega)]; exact e
    refine ⟨fun q => by rw [hD0, ecl]; exact d1 q, fun h q d hh e => ?_, fun h q q' d e e' => ?_, fun h q d e => ?_, by rw [eU 0 (by omega)]; exact d5, fun j hj => ?_, ?_, fun j hj i hi => ?_, fun j hj hm k hk ho => ?_⟩
    · rw [eac, epr, if_pos rfl]
      by_cases z : h = m_active S y + 1
      · subst z
        rw [show m_active S y + 1 - 1 = m_active S y by omega, eU _ (Nat.le_refl _), eU1 _ (by omega), eus]
        by_cases q16 : q < 16
        · rw [D_ea q16] at e
          by_cases k : kb S y p q = true
          · rw [if_pos k] at e
            cases e
            have := nc_lt (hkb q k) k
            exact ⟨by omega, by omega, by omega, by omega⟩
          · rw [if_neg k] at e
            obtain ⟨z1, z2, z3, z4⟩ := d2 _ _ _ (by omega) e
            rw [U_s] at z4
            rw [show m_active S y + 1 - 1 = m_active S y by omega] at z3
            exact ⟨by omega, z2, z3, by omega⟩
        · rw [D_ec q16] at e
          by_cases k : ¬ m_marks S y p &&& 4 = 0 ∧ q < 16 + m_cells S y ∧ m_owner S y (q - 16) = p
          · rw [if_pos k] at e
            cases e
            have := cn_lt (f := m_owner S y) (i := q - 16) (k := m_cells S y) (by omega) k.2.2
            rw [if_neg k.1]
            exact ⟨by omega, by omega, by omega, by omega⟩
          · rw [if_neg k] at e; cases e
      · rw [D_el z] at e
        obtain ⟨z1, z2, z3, z4⟩ := d2 _ _ _ hh e
        rw [if_neg hprS] at z1
        rw [eU _ (by omega), eU _ (by omega)]
        exact ⟨by omega, z2, z3, z4⟩
    · by_cases z : h = m_active S y + 1
      · subst z
        by_cases q16 : q < 16
        · rw [D_ea q16] at e
          by_cases k : kb S y p q = true
          · rw [if_pos k] at e
            cases e
            have hq := nc_lt (hkb q k) k
            by_cases q16' : q' < 16
            · rw [D_ea q16'] at e'
              by_cases k' : kb S y p q' = true
              · rw [if_pos k'] at e'
                have e' := Option.some.inj e'
                rcases Nat.lt_trichotomy q q' with u | u | u
                · have := nc_lt u k; omega
                · exact u
                · have := nc_lt u k'; omega
              · rw [if_neg k'] at e'
                have := hdl e'
                omega
            · rw [D_ec q16'] at e'
              split at e'
              · have e' := Option.some.inj e'
                omega
              · cases e'
          · rw [if_neg k] at e
            have hq := hdl e
            by_cases q16' : q' < 16
            · rw [D_ea q16'] at e'
              by_cases k' : kb S y p q' = true
              · rw [if_pos k'] at e'
                have e' := Option.some.inj e'
                omega
              · rw [if_neg k'] at e'
                exact d3 _ _ _ _ e e'
            · rw [D_ec q16'] at e'
              split at e'
              · have e' := Option.some.inj e'
                omega
              · cases e'
        · rw [D_ec q16] at e
          by_cases k : ¬ m_marks S y p &&& 4 = 0 ∧ q < 16 + m_cells S y ∧ m_owner S y (q - 16) = p
          · rw [if_pos k] at e
            have e := Option.some.inj e
            by_cases q16' : q' < 16
            · rw [D_ea q16'] at e'
              by_cases k' : kb S y p q' = true
              · rw [if_pos k'] at e'
                have e' := Option.some.inj e'
                have := nc_lt (hkb q' k') k'
                omega
              · rw [if_neg k'] at e'
                have := hdl e'
                omega
            · rw [D_ec q16'] at e'
              by_cases k' : ¬ m_marks S y p &&& 4 = 0 ∧ q' < 16 + m_cells S y ∧ m_owner S y (q' - 16) = p
              · rw [if_pos k'] at e'
                have e' := Option.some.inj e'
                rcases Nat.lt_trichotomy (q - 16) (q' - 16) with u | u | u
                · have := cn_lt (f := m_owner S y) u k.2.2; omega
                · omega
                · have := cn_lt (f := m_owner S y) u k'.2.2; omega
              · rw [if_neg k'] at e'; cases e'
          · rw [if_neg k] at e; cases e
      · rw [D_el z] at e e'
        exact d3 _ _ _ _ e e'
    · rw [gr 0 8 _ (by omega) (by omega) (by omega)]
      by_cases z : h = m_active S y + 1
      · subst z
        by_cases q16 : q < 16
        · rw [D_ea q16] at e
          rw [c9 q q16]
          by_cases k : kb S y p q = true
          · rw [if_pos k] at e
            cases e
            rw [if_pos k, em1 q k]
          · rw [if_neg k] at e
            rw [if_neg k, hmem (by omega) e]
            exact d4 _ _ _ e
        · rw [D_ec q16] at e
          by_cases k : ¬ m_marks S y p &&& 4 = 0 ∧ q < 16 + m_cells S y ∧ m_owner S y (q - 16) = p
          · rw [if_pos k] at e
            cases e
            rw [em2 (q - 16) k.1 (by omega) k.2.2, ← c9r (q - 16) k.1 (by omega) k.2.2, show 16 + (q - 16) = q by omega]
          · rw [if_neg k] at e; cases e
      · rw [D_el z] at e
        by_cases z0 : h = 0
        · subst z0
          have e0 := e
          rw [d1] at e0
          by_cases k : 16 ≤ q ∧ q < 16 + m_cells S y
          · rw [if_pos k] at e0
            cases e0
            have e9 := c90 (q - 16) (by omega)
            rw [show 16 + (q - 16) = q by omega] at e9
            rw [e9, em0 _ (hdl e), ← d4 _ _ _ e]
            by_cases u : m_marks S y p &&& 4 = 0 ∧ ¬ m_marks S y p &&& 1 = 0 ∧ m_owner S y (q - 16) = p
            · rw [if_pos u, if_pos ⟨u.1, u.2.1, by omega, u.2.2⟩]
            · rw [if_neg u, if_neg (fun w => u ⟨w.1, w.2.1, w.2.2.2⟩)]
          · rw [if_neg k] at e0; cases e0
        · have hhN := D_N hL hD hA e
          rw [hmem (by omega) e, c9o _ _ (hne h hhN z 8 (by omega) (by omega)) (fun w => z0 (l7 h 0 hhN (by omega) (Or.inr ⟨8, by omega, by omega, w⟩)))]
          exact d4 _ _ _ e
    · rw [eac] at hj
      rw [ecl]
      by_cases z : j ≤ m_active S y
      · rw [eU j z]
        refine ⟨?_, (d6 j z).2⟩
        by_cases z2 : j = m_active S y
        · subst z2
          rw [eU1 _ (by omega), eus]
          omega
        · rw [eU _ (by omega)]; exact (d6 j z).1
      · rw [eU1 j (by omega), eU1 (j + 1) (by omega), eus, show j = m_active S y + 1 by omega, Nat.succ_mul]
        have := (d6 _ (Nat.le_refl _)).2
        refine ⟨Nat.le_refl _, ?_⟩
        split <;> omega
    · rw [eac, eU1 _ (by omega)]; omega
    · rw [eco, emf] at hi
      rw [eac] at hj
      refine And.intro ?_ (hb8 j hj i hi)
      rw [gr 0 5 _ (by omega) (by omega) (by omega), gr 0 6 _ (by omega) (by omega) (by omega)]
      by_cases z : j = m_active S y
      · subst z
        rw [if_pos rfl] at hi
        rw [c6 i (by omega), c7 i (by omega), epa i hi]
        by_cases k : kb S y p i = true
        · rw [if_pos k, if_pos k, if_pos k]
          exact Or.inr ⟨m_active S y + 1, i, _, rfl, rfl, by rw [D_ea (by omega), if_pos k], rfl, Nat.le_refl _, fun i z => by cases z⟩
        · rw [if_neg k, if_neg k, if_neg k]
          rcases r_here hA hprS h2 h4 hD (i := i) (by omega) with ⟨u1, u2⟩ | ⟨u1, u2, u3, hh, q, d, u4, u5, u6, u7, u8, u9, u10, u11⟩
          · refine Or.inl ⟨u1, ?_⟩
            rcases u2 with u2 | u2
            · rw [if_neg (by omega)]
            · rw [u2]; split <;> rfl
          · rw [if_pos u1]
            refine Or.inr ⟨hh, q, d, u4, u5, ?_, u7, u8, fun i z => by cases z⟩
            by_cases v : hh = m_active S y + 1
            · have hqi := u9 v
              subst hqi
              subst v
              rw [D_ea (by omega), if_neg k]; exact u6
            · rw [D_el v]; exact u6
      · rw [if_neg z] at hi
        rw [gar 6 _ _ (fun u => hne (j + 1) (by omega) (by omega) 5 (by omega) (by omega) u.2), gai 7 _ _ (fun u => u.elim (fun u => hne (j + 1) (by omega) (by omega) 6 (by omega) (by omega) u.2) (fun u => absurd u.1 (by decide))) (by omega) (by omega), epl _ (by
          have := b_manyFormals h2 h4 (i := m_callOf S y j) (by have := l11 j (by omega); omega)
          omega)]
        rcases (d8 j (by omega) i hi).1 with u | ⟨hh, q, d, u1, u2, u3, u4, u5, u6⟩
        · exact Or.inl u
        · exact Or.inr ⟨hh, q, d, u1, u2, mono j (by omega) hh q d u5 u3, u4, u5, u6⟩
    · rw [eco, emk] at hm
      rw [eco, eow] at ho
      rw [eac] at hj
      rw [ecl] at hk
      rw [eba, erk]
      by_cases z : j = m_active S y
      · subst z
        rw [if_pos rfl] at hm ho ⊢
        rw [D_ec (by omega), show 16 + k - 16 = k by omega, if_pos ⟨hm, by omega, ho⟩, ((hC.2.1 k hk).2.2 (by omega)).2, ho]
      · rw [if_neg z] at hm ho ⊢
        rw [D_el (by omega)]
        exact d9 j (by omega) hm k hk ho
  · exact Or.inl ⟨epr, gr10, ear⟩
