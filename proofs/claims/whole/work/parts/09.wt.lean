/-! WELL-TYPED: what every object and array of the class holds, at any time between its calls -/
theorem g_ft {n : String} (r : Option Nat) : fits (.object n) (va_rf r) = true := by cases r <;> rfl
theorem g_fta {t : FieldType} (r : Option Nat) : fits (.array t) (va_rf r) = true := by cases r <;> rfl
/-- null or an object of class ci -/
def t_o (S : gs_S) (ci : Nat) (r : Option Nat) : Prop := ∀ b : Nat, r = some b → g_sh S b = some (.inl ci)
/-- an object of class ci -/
def t_n (S : gs_S) (ci : Nat) (r : Option Nat) : Prop := ∃ b : Nat, r = some b ∧ g_sh S b = some (.inl ci)
/-- an array of that role and length -/
def t_a (S : gs_S) (role n : Nat) (r : Option Nat) : Prop := ∃ b : Nat, r = some b ∧ g_sh S b = some (.inr (role, n))
def wt_L (S : gs_S) : Prop := ∀ a : Nat, g_sh S a = some (.inl 0) → t_o S 0 (g_r S 0 0 a) ∧ t_o S 0 (g_r S 0 1 a) ∧ t_o S 1 (g_r S 0 2 a) ∧ t_o S 0 (g_r S 0 3 a) ∧ t_a S 6 16 (g_r S 0 5 a) ∧ t_a S 7 16 (g_r S 0 6 a) ∧ t_a S 8 16 (g_r S 0 7 a) ∧ t_a S 9 216 (g_r S 0 8 a) ∧ ∃ n : Nat, n ≤ 16 ∧ g_i S 0 4 a = nI n
def wt_H (S : gs_S) : Prop := ∀ a : Nat, g_sh S a = some (.inr (6, 16)) → ∀ i : Nat, i < 16 → t_o S 0 (g_ar S 6 a i)
def wt_Q (S : gs_S) : Prop := ∀ a : Nat, g_sh S a = some (.inr (7, 16)) → ∀ i : Nat, i < 16 → ∃ q : Nat, q < 216 ∧ g_ai S 7 a i = nI q
def wt_P (S : gs_S) : Prop := ∀ a : Nat, g_sh S a = some (.inl 1) → t_o S 1 (g_r S 1 0 a) ∧ t_a S 4 16 (g_r S 1 4 a) ∧ t_a S 5 16 (g_r S 1 5 a) ∧ t_o S 0 (g_r S 1 8 a) ∧ (∃ n : Nat, n ≤ 16 ∧ g_i S 1 6 a = nI n) ∧ ∃ k : Nat, 1 ≤ k ∧ k ≤ 60 ∧ g_i S 1 1 a = nI k ∧ ∀ b : Nat, g_r S 1 0 a = some b → ∃ j : Nat, j < k ∧ g_i S 1 1 b = nI j
def wt_A (S : gs_S) : Prop := (∀ a : Nat, g_sh S a = some (.inr (0, 61)) → ∀ i : Nat, i < 61 → t_o S 1 (g_ar S 0 a i)) ∧ ∀ a : Nat, g_sh S a = some (.inr (1, 200)) → ∀ i : Nat, i < 200 → t_o S 1 (g_ar S 1 a i)
def wt_R (S : gs_S) : Prop := ∀ x : Nat, g_sh S x = some (.inl 2) → t_a S 0 61 (g_r S 2 1 x) ∧ t_a S 1 200 (g_r S 2 3 x) ∧ t_a S 2 200 (g_r S 2 4 x) ∧ t_a S 3 100 (g_r S 2 6 x) ∧ t_n S 0 (g_r S 2 7 x) ∧ t_n S 0 (g_r S 2 8 x) ∧ t_o S 0 (g_r S 2 10 x) ∧ (∃ n : Nat, n ≤ 60 ∧ g_i S 2 2 x = nI n) ∧ ∃ n : Nat, n ≤ 200 ∧ g_i S 2 5 x = nI n
def w_t (S : gs_S) : Prop := wt_L S ∧ wt_H S ∧ wt_Q S ∧ wt_P S ∧ wt_A S ∧ wt_R S
section WT
variable {S : gs_S} {a : Nat}
theorem w_below (h : w_t S) (ha : g_sh S a = some (.inl 0)) : t_o S 0 (g_r S 0 0 a) := (h.1 a ha).1
theorem w_above (h : w_t S) (ha : g_sh S a = some (.inl 0)) : t_o S 0 (g_r S 0 1 a) := (h.1 a ha).2.1
theorem w_program (h : w_t S) (ha : g_sh S a = some (.inl 0)) : t_o S 1 (g_r S 0 2 a) := (h.1 a ha).2.2.1
theorem w_earlier (h : w_t S) (ha : g_sh S a = some (.inl 0)) : t_o S 0 (g_r S 0 3 a) := (h.1 a ha).2.2.2.1
theorem w_holders (h : w_t S) (ha : g_sh S a = some (.inl 0)) : t_a S 6 16 (g_r S 0 5 a) := (h.1 a ha).2.2.2.2.1
theorem w_places (h : w_t S) (ha : g_sh S a = some (.inl 0)) : t_a S 7 16 (g_r S 0 6 a) := (h.1 a ha).2.2.2.2.2.1
theorem w_bytes (h : w_t S) (ha : g_sh S a = some (.inl 0)) : t_a S 8 16 (g_r S 0 7 a) := (h.1 a ha).2.2.2.2.2.2.1
theorem w_values (h : w_t S) (ha : g_sh S a = some (.inl 0)) : t_a S 9 216 (g_r S 0 8 a) := (h.1 a ha).2.2.2.2.2.2.2.1
theorem w_arguments (h : w_t S) (ha : g_sh S a = some (.inl 0)) : ∃ n : Nat, n ≤ 16 ∧ g_i S 0 4 a = nI n := (h.1 a ha).2.2.2.2.2.2.2.2
theorem w_outer (h : w_t S) (ha : g_sh S a = some (.inl 1)) : t_o S 1 (g_r S 1 0 a) := (h.2.2.2.1 a ha).1
theorem w_formalHow (h : w_t S) (ha : g_sh S a = some (.inl 1)) : t_a S 4 16 (g_r S 1 4 a) := (h.2.2.2.1 a ha).2.1
theorem w_formalBytes (h : w_t S) (ha : g_sh S a = some (.inl 1)) : t_a S 5 16 (g_r S 1 5 a) := (h.2.2.2.1 a ha).2.2.1
theorem w_latest (h : w_t S) (ha : g_sh S a = some (.inl 1)) : t_o S 0 (g_r S 1 8 a) := (h.2.2.2.1 a ha).2.2.2.1
theorem w_formals (h : w_t S) (ha : g_sh S a = some (.inl 1)) : ∃ n : Nat, n ≤ 16 ∧ g_i S 1 6 a = nI n := (h.2.2.2.1 a ha).2.2.2.2.1
theorem w_number (h : w_t S) (ha : g_sh S a = some (.inl 1)) : ∃ k : Nat, 1 ≤ k ∧ k ≤ 60 ∧ g_i S 1 1 a = nI k ∧ ∀ b : Nat, g_r S 1 0 a = some b → ∃ j : Nat, j < k ∧ g_i S 1 1 b = nI j := (h.2.2.2.1 a ha).2.2.2.2.2
theorem w_programs (h : w_t S) (ha : g_sh S a = some (.inl 2)) : t_a S 0 61 (g_r S 2 1 a) := (h.2.2.2.2.2 a ha).1
theorem w_owners (h : w_t S) (ha : g_sh S a = some (.inl 2)) : t_a S 1 200 (g_r S 2 3 a) := (h.2.2.2.2.2 a ha).2.1
theorem w_firstValues (h : w_t S) (ha : g_sh S a = some (.inl 2)) : t_a S 2 200 (g_r S 2 4 a) := (h.2.2.2.2.2 a ha).2.2.1
theorem w_externals (h : w_t S) (ha : g_sh S a = some (.inl 2)) : t_a S 3 100 (g_r S 2 6 a) := (h.2.2.2.2.2 a ha).2.2.2.1
theorem w_bottom (h : w_t S) (ha : g_sh S a = some (.inl 2)) : t_n S 0 (g_r S 2 7 a) := (h.2.2.2.2.2 a ha).2.2.2.2.1
theorem w_top (h : w_t S) (ha : g_sh S a = some (.inl 2)) : t_n S 0 (g_r S 2 8 a) := (h.2.2.2.2.2 a ha).2.2.2.2.2.1
theorem w_prepared (h : w_t S) (ha : g_sh S a = some (.inl 2)) : t_o S 0 (g_r S 2 10 a) := (h.2.2.2.2.2 a ha).2.2.2.2.2.2.1
theorem w_programCount (h : w_t S) (ha : g_sh S a = some (.inl 2)) : ∃ n : Nat, n ≤ 60 ∧ g_i S 2 2 a = nI n := (h.2.2.2.2.2 a ha).2.2.2.2.2.2.2.1
theorem w_cellCount (h : w_t S) (ha : g_sh S a = some (.inl 2)) : ∃ n : Nat, n ≤ 200 ∧ g_i S 2 5 a = nI n := (h.2.2.2.2.2 a ha).2.2.2.2.2.2.2.2
end WT
