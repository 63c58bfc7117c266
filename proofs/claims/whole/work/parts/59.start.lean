/-! THE START: both just made -/
def s_0 : gs_S := (fun _ => none, fun _ _ _ => 0, fun _ _ _ => 0, fun _ _ _ => none, fun _ _ _ => 0, fun _ _ _ => 0, fun _ _ _ => none)
theorem f_dep (d : Int32) : f_depth d = f_depthM d := by
  unfold f_depth f_depthM
  by_cases c1 : 65536 < d
  · rw [if_pos c1, if_pos (by decide), if_pos (by rw [Int32.lt_iff_toInt_lt] at c1; rw [Int32.le_iff_toInt_le]; simp at *; omega), if_neg (by rw [Int32.lt_iff_toInt_lt] at c1; rw [Int32.le_iff_toInt_le]; omega)]
  · rw [if_neg c1]
    by_cases c2 : 0 < d
    · rw [if_pos c2, if_pos (by rw [Int32.lt_iff_toInt_lt] at c2; rw [Int32.le_iff_toInt_le]; omega), if_pos (by rw [Int32.lt_iff_toInt_lt] at c1; rw [Int32.le_iff_toInt_le]; omega)]
    · rw [if_neg c2]
      by_cases c3 : 0 ≤ d
      · have e : d = 0 := by
          rw [Int32.lt_iff_toInt_lt] at c2
          rw [Int32.le_iff_toInt_le] at c3
          exact Int32.toInt_inj.mp (by omega)
        rw [if_pos c3, e, if_pos (by decide)]
      · rw [if_neg c3]
/-- the class's own, just made -/
def st_R (S : gs_S) (x q : Nat) (d : Int32) : Prop := w_t S ∧ g_sh S x = some (.inl 2) ∧ (∀ a c : Nat, g_sh S a = some (.inl c) → c = 0 ∨ c = 2) ∧ (∀ a r n : Nat, g_sh S a = some (.inr (r, n)) → r < 10) ∧ g_sh S q = some (.inl 0) ∧ g_r S 2 7 x = some q ∧ g_r S 2 8 x = some q ∧ g_r S 2 10 x = none ∧ g_i S 2 2 x = 0 ∧ g_i S 2 5 x = 0 ∧ g_i S 2 9 x = 0 ∧ g_i S 2 0 x = f_depth d ∧ g_l S 2 11 x = 0 ∧ g_r S 0 1 q = none ∧ g_r S 0 2 q = none ∧ ∃ ex : Nat, g_r S 2 6 x = some ex ∧ g_sh S ex ≠ none ∧ ∀ nm : Nat, nm < 100 → g_ai S 3 ex nm = -1
theorem fill_ai (S : gs_S) (ex : Nat) : ∀ k r b j : Nat, g_ai (f_fill S ex k) r b j = if r = 3 ∧ b = ex ∧ j < k then -1 else g_ai S r b j := by
  intro k
  induction k with
  | zero => intro r b j; rw [if_neg (by omega)]; rfl
  | succ k ih =>
    intro r b j
    rw [f_fill, x_g_ai_p_ai, ih]
    by_cases z : r = 3 ∧ b = ex ∧ j = k
    · rw [if_pos z, if_pos ⟨z.1, z.2.1, by omega⟩]
    · rw [if_neg z]
      by_cases u : r = 3 ∧ b = ex ∧ j < k
      · rw [if_pos u, if_pos ⟨u.1, u.2.1, by omega⟩]
      · rw [if_neg u, if_neg (fun w => by
          by_cases v : j = k
          · exact z ⟨w.1, w.2.1, v⟩
          · exact u ⟨w.1, w.2.1, by omega⟩)]
theorem fill_i (S : gs_S) (ex k c j b : Nat) : g_i (f_fill S ex k) c j b = g_i S c j b := by
  induction k with
  | zero => rfl
  | succ k ih => exact ih
theorem fill_l (S : gs_S) (ex k c j b : Nat) : g_l (f_fill S ex k) c j b = g_l S c j b := by
  induction k with
  | zero => rfl
  | succ k ih => exact ih
theorem fill_ar (S : gs_S) (ex k c j b : Nat) : g_ar (f_fill S ex k) c j b = g_ar S c j b := by
  induction k with
  | zero => rfl
  | succ k ih => exact ih
theorem if_no {α : Type} {c : Prop} [Decidable c] {a : α} {u : Option α} (h : (if c then some a else u) = none) : ¬ c ∧ u = none := by
  by_cases z : c
  · rw [if_pos z] at h; cases h
  · rw [if_neg z] at h; exact ⟨z, h⟩
set_option maxHeartbeats 8000000 in
theorem st_1 {x pa ow fv ex q h pl bb va : Nat} {d : Int32} (hf : i_Rf (p_new s_0 2 x) x pa ow fv ex q h pl bb va) : st_R (i_R (p_new s_0 2 x) x pa ow fv ex q h pl bb va d) x q d := by
  obtain ⟨f1, f2, f3, f4, f5, f6⟩ := hf
  obtain ⟨⟨a1, a2⟩, ⟨b1, b2, b3⟩, ⟨c1, c2, c3, c4⟩, d1, d2, d3, d4, d5⟩ := n_Lne f6
  simp only [i_R4, i_R3, i_R2, i_R1, x_gs] at f1 f2 f3 f4 f5 a2 b3 c4 d5
  have n0 : ∀ b : Nat, g_sh s_0 b = none := fun _ => rfl
  simp only [n0] at f1 f2 f3 f4 f5 a2 b3 c4 d5
  have e1 : ¬ pa = x := (if_no f1).1
  obtain ⟨e21, f2⟩ := if_no f2
  have e2 : ¬ ow = pa ∧ ¬ ow = x := ⟨e21, (if_no f2).1⟩
  obtain ⟨e31, f3⟩ := if_no f3
  obtain ⟨e32, f3⟩ := if_no f3
  have e3 : ¬ fv = ow ∧ ¬ fv = pa ∧ ¬ fv = x := ⟨e31, e32, (if_no f3).1⟩
  obtain ⟨e41, f4⟩ := if_no f4
  obtain ⟨e42, f4⟩ := if_no f4
  obtain ⟨e43, f4⟩ := if_no f4
  have e4 : ¬ ex = fv ∧ ¬ ex = ow ∧ ¬ ex = pa ∧ ¬ ex = x := ⟨e41, e42, e43, (if_no f4).1⟩
  have five : ∀ w : Nat, (if w = ex then some (Sum.inr (3, 100)) else if w = fv then some (Sum.inr (2, 200)) else if w = ow then some (Sum.inr (1, 200)) else if w = pa then some (Sum.inr (0, 61)) else if w = x then some (Sum.inl 2) else none : Option (Nat ⊕ (Nat × Nat))) = none → ¬ w = ex ∧ ¬ w = fv ∧ ¬ w = ow ∧ ¬ w = pa ∧ ¬ w = x := fun w z => by
    obtain ⟨z1, z⟩ := if_no z
    obtain ⟨z2, z⟩ := if_no z
    obtain ⟨z3, z⟩ := if_no z
    obtain ⟨z4, z⟩ := if_no z
    exact ⟨z1, z2, z3, z4, (if_no z).1⟩
  have e5 := five q f5
  have e6 := five h a2
  have e7 := five pl b3
  have e8 := five bb c4
  have e9 := five va d5
  generalize hS : i_R (p_new s_0 2 x) x pa ow fv ex q h pl bb va d = S
  have hsh : ∀ b : Nat, g_sh S b = if b = va then some (.inr (9, 216)) else if b = bb then some (.inr (8, 16)) else if b = pl then some (.inr (7, 16)) else if b = h then some (.inr (6, 16)) else if b = q then some (.inl 0) else if b = ex then some (.inr (3, 100)) else if b = fv then some (.inr (2, 200)) else if b = ow then some (.inr (1, 200)) else if b = pa then some (.inr (0, 61)) else if b = x then some (.inl 2) else none := fun b => by
    rw [← hS, i_R, f_fill_sh, i_R6]
    simp only [x_gs, n_L_sh, i_R4, i_R3, i_R2, i_R1, n0]
  have hrx : ∀ k : Nat, g_r S 2 k x = if k = 8 then some q else if k = 7 then some q else if k = 6 then some ex else if k = 4 then some fv else if k = 3 then some ow else if k = 1 then some pa else none := fun k => by
    rw [← hS, i_R, f_fill_r, i_R6]
    simp only [x_gs]
    rw [n_L_r 2 k (fun z => e5.2.2.2.2 z.symm)]
    simp [i_R4, i_R3, i_R2, i_R1, x_gs]
  have hrq : ∀ k : Nat, g_r S 0 k q = g_r (n_L (i_R4 (p_new s_0 2 x) x pa ow fv ex) q none h pl bb va) 0 k q := fun k => by
    rw [← hS, i_R, f_fill_r, i_R6]
    simp [x_gs]
  obtain ⟨q1, q2, q3, q4, q5, q6, q7, q8, q9⟩ := n_L_q (S := i_R4 (p_new s_0 2 x) x pa ow fv ex) (q := q) (be := none) (h := h) (pl := pl) (bb := bb) (va := va)
  have hix : ∀ k : Nat, g_i S 2 k x = if k = 0 then f_depth d else 0 := fun k => by
    rw [← hS, i_R, fill_i, i_R6]
    simp only [x_gs]
    rw [n_L_i 2 k (fun z => e5.2.2.2.2 z.symm)]
    simp [i_R4, i_R3, i_R2, i_R1, x_gs]
  have hiq : g_i S 0 4 q = 0 := by
    rw [← hS, i_R, fill_i, i_R6]
    simp [x_gs, q9]
  have hlx : g_l S 2 11 x = 0 := by
    rw [← hS, i_R, fill_l, i_R6]
    simp only [x_gs]
    rw [n_L_l 2 11 (fun z => e5.2.2.2.2 z.symm)]
    simp [i_R4, i_R3, i_R2, i_R1, x_gs]
  have har : ∀ r b j : Nat, g_ar S r b j = none := fun r b j => by
    rw [← hS, i_R, fill_ar, i_R6]
    simp only [x_gs]
    by_cases z : b = h ∨ b = pl ∨ b = bb ∨ b = va
    · exact (n_L_a r j z).1
    · rw [n_L_ar r j (fun u => z (Or.inl u)) (fun u => z (Or.inr (Or.inl u))) (fun u => z (Or.inr (Or.inr (Or.inl u)))) (fun u => z (Or.inr (Or.inr (Or.inr u))))]
      simp only [i_R4, i_R3, i_R2, i_R1, x_gs]
      repeat' split
      all_goals rfl
  have hpl : ∀ j : Nat, g_ai S 7 pl j = 0 := fun j => by
    rw [← hS, i_R, fill_ai, if_neg (by omega), i_R6]
    simp only [x_gs]
    exact (n_L_a 7 j (Or.inr (Or.inl rfl))).2.1
  have hex : ∀ j : Nat, j < 100 → g_ai S 3 ex j = -1 := fun j hj => by
    rw [← hS, i_R, fill_ai, if_pos ⟨rfl, rfl, hj⟩]
  have inl_ : ∀ a c : Nat, g_sh S a = some (.inl c) → (a = q ∧ c = 0) ∨ (a = x ∧ c = 2) := fun a c z => by
    rw [hsh] at z
    repeat' split at z
    all_goals simp at z
    · rename_i u; exact Or.inl ⟨u, z.symm⟩
    · rename_i u; exact Or.inr ⟨u, z.symm⟩
  have inr_ : ∀ a r n : Nat, g_sh S a = some (.inr (r, n)) → r < 10 ∧ (r = 7 → a = pl) := fun a r n z => by
    rw [hsh] at z
    repeat' split at z
    all_goals simp at z
    all_goals (obtain ⟨z1, z2⟩ := z; subst z1; refine ⟨by decide, fun u => ?_⟩)
    all_goals first | (exact absurd u (by decide)) | assumption
  have tq : g_sh S q = some (.inl 0) := by
    rw [hsh, if_neg (fun z => d4 z.symm), if_neg (fun z => c3 z.symm), if_neg (fun z => b2 z.symm), if_neg (fun z => a1 z.symm), if_pos rfl]
  have tx : g_sh S x = some (.inl 2) := by
    rw [hsh, if_neg (fun z => e9.2.2.2.2 z.symm), if_neg (fun z => e8.2.2.2.2 z.symm), if_neg (fun z => e7.2.2.2.2 z.symm), if_neg (fun z => e6.2.2.2.2 z.symm), if_neg (fun z => e5.2.2.2.2 z.symm), if_neg (fun z => e4.2.2.2 z.symm), if_neg (fun z => e3.2.2 z.symm), if_neg (fun z => e2.2 z.symm), if_neg (fun z => e1 z.symm), if_pos rfl]
  have tex : g_sh S ex = some (.inr (3, 100)) := by
    rw [hsh, if_neg (fun z => e9.1 z.symm), if_neg (fun z => e8.1 z.symm), if_neg (fun z => e7.1 z.symm), if_neg (fun z => e6.1 z.symm), if_neg (fun z => e5.1 z.symm), if_pos rfl]
  have tfv : g_sh S fv = some (.inr (2, 200)) := by
    rw [hsh, if_neg (fun z => e9.2.1 z.symm), if_neg (fun z => e8.2.1 z.symm), if_neg (fun z => e7.2.1 z.symm), if_neg (fun z => e6.2.1 z.symm), if_neg (fun z => e5.2.1 z.symm), if_neg (fun z => e4.1 z.symm), if_pos rfl]
  have tow : g_sh S ow = some (.inr (1, 200)) := by
    rw [hsh, if_neg (fun z => e9.2.2.1 z.symm), if_neg (fun z => e8.2.2.1 z.symm), if_neg (fun z => e7.2.2.1 z.symm), if_neg (fun z => e6.2.2.1 z.symm), if_neg (fun z => e5.2.2.1 z.symm), if_neg (fun z => e4.2.1 z.symm), if_neg (fun z => e3.1 z.symm), if_pos rfl]
  have tpa : g_sh S pa = some (.inr (0, 61)) := by
    rw [hsh, if_neg (fun z => e9.2.2.2.1 z.symm), if_neg (fun z => e8.2.2.2.1 z.symm), if_neg (fun z => e7.2.2.2.1 z.symm), if_neg (fun z => e6.2.2.2.1 z.symm), if_neg (fun z => e5.2.2.2.1 z.symm), if_neg (fun z => e4.2.2.1 z.symm), if_neg (fun z => e3.2.1 z.symm), if_neg (fun z => e2.1 z.symm), if_pos rfl]
  have th : g_sh S h = some (.inr (6, 16)) := by
    rw [hsh, if_neg (fun z => d3 z.symm), if_neg (fun z => c2 z.symm), if_neg (fun z => b1 z.symm), if_pos rfl]
  have tpl : g_sh S pl = some (.inr (7, 16)) := by
    rw [hsh, if_neg (fun z => d2 z.symm), if_neg (fun z => c1 z.symm), if_pos rfl]
  have tbb : g_sh S bb = some (.inr (8, 16)) := by rw [hsh, if_neg (fun z => d1 z.symm), if_pos rfl]
  have tva : g_sh S va = some (.inr (9, 216)) := by rw [hsh, if_pos rfl]
  refine ⟨⟨fun a ha => ?_, fun a _ i _ => ?_, fun a ha i _ => ?_, fun a ha => ?_, ⟨fun a _ i _ => ?_, fun a _ i _ => ?_⟩, fun a ha => ?_⟩, tx, fun a c z => ?_, fun a r n z => (inr_ a r n z).1, tq, by rw [hrx]; simp, by rw [hrx]; simp, by rw [hrx]; simp, by rw [hix]; simp, by rw [hix]; simp, by rw [hix]; simp, by rw [hix]; simp, hlx, by rw [hrq]; exact q2, by rw [hrq]; exact q3, ex, by rw [hrx]; simp, by rw [tex]; simp, hex⟩
  · rcases inl_ a 0 ha with ⟨rfl, -⟩ | ⟨-, z⟩
    · rw [hrq, hrq, hrq, hrq, hrq, hrq, hrq, hrq, q1, q2, q3, q4, q5, q6, q7, q8, hiq]
      exact ⟨t_oN, t_oN, t_oN, t_oN, ⟨h, rfl, th⟩, ⟨pl, rfl, tpl⟩, ⟨bb, rfl, tbb⟩, ⟨va, rfl, tva⟩, 0, by omega, rfl⟩
    · omega
  · rw [har]; exact t_oN
  · rw [(inr_ a 7 16 ha).2 rfl, hpl]; exact ⟨0, by omega, rfl⟩
  · rcases inl_ a 1 ha with ⟨-, z⟩ | ⟨-, z⟩ <;> omega
  · rw [har]; exact t_oN
  · rw [har]; exact t_oN
  · rcases inl_ a 2 ha with ⟨-, z⟩ | ⟨rfl, -⟩
    · omega
    · simp only [hrx, hix]
      exact ⟨⟨pa, rfl, tpa⟩, ⟨ow, rfl, tow⟩, ⟨fv, rfl, tfv⟩, ⟨ex, rfl, tex⟩, ⟨q, rfl, tq⟩, ⟨q, rfl, tq⟩, t_oN, ⟨0, by omega, rfl⟩, 0, by omega, rfl⟩
  · rcases inl_ a c z with ⟨-, z⟩ | ⟨-, z⟩
    · exact Or.inl z
    · exact Or.inr z
