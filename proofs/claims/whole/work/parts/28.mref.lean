/-! M.refusal -/
def f_hw (S : gs_S) (y p i : Nat) : Int32 := if 2 ≤ m_how S y (16 * (p - 1) + i) then 0 else 1
def f_r1 (S : gs_S) (y p : Nat) : Nat → Nat → Int32 → Int32
  | 0, _, bd => bd
  | k + 1, i, bd => f_r1 S y p k (i + 1) (if bd = 0 then (if nI (m_arguments S y) ≤ nI i then f_hw S y p i else if m_argument S y i = -1 then f_hw S y p i else 0) else 1)
def f_r2 (S : gs_S) (y p : Nat) : Nat → Nat → Int32
  | 0, _ => 1
  | k + 1, i => if m_argument S y i = -1 then f_r2 S y p k (i + 1) else if m_bytes S y (16 * (p - 1) + i) ≤ m_argumentBytes S y i then f_r2 S y p k (i + 1) else -8
def f_reP (S : gs_S) (y p : Nat) : Int32 := if f_r1 S y p (m_manyFormals S y p) 0 (if nI (m_arguments S y) ≤ nI (m_manyFormals S y p) then 0 else 1) = 0 then f_r2 S y p (m_arguments S y) 0 else -7
def f_reM (S : gs_S) (y : Nat) : Int32 := if m_prepared S y = 0 then -4 else f_reP S y (m_prepared S y)

set_option maxHeartbeats 4000000 in
set_option maxRecDepth 100000 in
theorem lp_r2 (l : Launch) (G : gs_G) (S : gs_S) (y : Nat) (hM : m_t S) (hY : g_sh S y = some (.inl 3)) (hg : m_arguments S y ≤ 16) (hp1 : 1 ≤ m_prepared S y) (hp60 : m_prepared S y ≤ 60) (hmf : m_manyFormals S y (m_prepared S y) ≤ 16) {p : Program} {e : Env} {s : State} {m : MethodId} {below : List Frame} {meth : Method} {c : Code} (hC : CallFix p m c cM_refusal 4 s #[va_rf (some y)] gU yM_refusal.cls) (hr : meth.sig.returnType = some .int) (hlocks : meth.locks = false) (hW : g_W G (g_A S s.heap.size) s S s.heap []) :
    ∀ (k : Nat) (i : Nat) (bd : Int32), i + k = m_arguments S y → f_reM S y = f_r2 S y (m_prepared S y) k i → ∀ (ls : Array Slot), lv_has ls 4 [(3, .int (nI i)), (2, .int bd), (1, .int (nI (m_prepared S y))), (0, va_rf (some y))] → W p l e { frames := 0, cells := 0, slots := 0, locals := 0 } s m #[va_rf (some y)] below meth c s.heap [] 0 0 (MQ below (g_Qi G S s.heap.size (fun r S' => S' = S ∧ r = f_reM S y)) #[va_rf (some y)] s 0 0 (g_A S s.heap.size)) (F0 m 103 ls []) := by
  obtain ⟨hx, hb, hml, hown, hts⟩ := id hC
  intro k
  induction k with
  | zero =>
    intro i  bd  hi hf ls hl
    refine lv_iload_n hx hb dM_refusal_103 rfl (lv_at hl 0 rfl) ?_
    refine s_aload_n (x := some y) hx hb dM_refusal_104 rfl (lv_at hl 3 rfl) ?_
    refine s_geti hC hW gc_M iw_M 24 (by decide) uw_414 rfl hY (v := nI (m_arguments S y)) (e_arguments (S := S) hM hY) dM_refusal_105 ?_
    refine lv_icmp_ge (tgt := 152) hx hb dM_refusal_108 (by decide) (fun c_108 => ?_) (fun c => absurd ((nI_leI (by omega) (by omega)).mpr (by omega)) c)
    refine lv_iconst (v := 1) hx hb dM_refusal_152 (by decide) ?_
    exact s_iret hC hr hlocks rfl hW dM_refusal_153 ⟨rfl, by rw [hf]; rfl⟩
  | succ k ih =>
    intro i  bd  hi hf ls hl
    refine lv_iload_n hx hb dM_refusal_103 rfl (lv_at hl 0 rfl) ?_
    refine s_aload_n (x := some y) hx hb dM_refusal_104 rfl (lv_at hl 3 rfl) ?_
    refine s_geti hC hW gc_M iw_M 24 (by decide) uw_414 rfl hY (v := nI (m_arguments S y)) (e_arguments (S := S) hM hY) dM_refusal_105 ?_
    refine lv_icmp_ge (tgt := 152) hx hb dM_refusal_108 (by decide) (fun c => absurd ((nI_leI (by omega) (by omega)).mp c) (by omega)) (fun c_108 => ?_)
    refine s_aload_n (x := some y) hx hb dM_refusal_111 rfl (lv_at hl 3 rfl) ?_
    obtain ⟨a_argument, ea_argument, sa_argument⟩ := w_m_argument hM hY
    refine s_getr hC hW gc_M iw_M 26 (by decide) uw_416 rfl hY (v := some a_argument) ea_argument dM_refusal_112 ?_
    refine lv_iload_n hx hb dM_refusal_115 rfl (lv_at hl 0 rfl) ?_
    refine k_iald hC hW sa_argument rfl rfl (by decide) i rfl (by omega) (v := m_argument S y i) (e_argument (S := S) ea_argument) dM_refusal_116 ?_
    refine lv_iconst (v := (-1)) hx hb dM_refusal_117 (by decide) ?_
    refine lv_icmp_eq (tgt := 146) hx hb dM_refusal_118 (by decide) (fun c_118 => ?_) (fun c_118 => ?_)
    · skip
      refine lv_iinc (v := nI (i + 1)) (lv' := [(3, .int (nI (i + 1))), (2, .int bd), (1, .int (nI (m_prepared S y))), (0, va_rf (some y))]) hx hb dM_refusal_146 hl (k := 0) rfl (nI_1 _) (by decide) rfl (fun ls hl => ?_)
      refine lv_goto (tgt := 103) hx hb dM_refusal_149 (by decide) ?_
      exact ih (i + 1) bd (by omega) (by rw [hf, f_r2, if_pos c_118]) ls (lv_sub hl [0, 1, 2, 3] rfl)
    · skip
      refine s_aload_n (x := some y) hx hb dM_refusal_121 rfl (lv_at hl 3 rfl) ?_
      obtain ⟨a_argumentBytes, ea_argumentBytes, sa_argumentBytes⟩ := w_m_argumentBytes hM hY
      refine s_getr hC hW gc_M iw_M 27 (by decide) uw_417 rfl hY (v := some a_argumentBytes) ea_argumentBytes dM_refusal_122 ?_
      refine lv_iload_n hx hb dM_refusal_125 rfl (lv_at hl 0 rfl) ?_
      refine k_iald hC hW sa_argumentBytes rfl rfl (by decide) i rfl (by omega) (v := m_argumentBytes S y i) (e_argumentBytes (S := S) ea_argumentBytes) dM_refusal_126 ?_
      refine s_aload_n (x := some y) hx hb dM_refusal_127 rfl (lv_at hl 3 rfl) ?_
      obtain ⟨a_bytes, ea_bytes, sa_bytes⟩ := w_m_bytes hM hY
      refine s_getr hC hW gc_M iw_M 15 (by decide) uw_405 rfl hY (v := some a_bytes) ea_bytes dM_refusal_128 ?_
      refine lv_bipush (v := 16) hx hb dM_refusal_131 (by decide) ?_
      refine lv_iload_n hx hb dM_refusal_133 rfl (lv_at hl 2 rfl) ?_
      refine lv_iconst (v := 1) hx hb dM_refusal_134 (by decide) ?_
      refine lv_isub hx hb dM_refusal_135 ?_
      refine s_topi (x_sub1 (by omega)) ?_
      refine lv_imul hx hb dM_refusal_136 ?_
      refine s_topi (x_mul16 _) ?_
      refine lv_iload_n hx hb dM_refusal_137 rfl (lv_at hl 0 rfl) ?_
      refine lv_iadd hx hb dM_refusal_138 ?_
      refine s_topi (nI_add _ _) ?_
      refine k_iald hC hW sa_bytes rfl rfl (by decide) ((16 * ((m_prepared S y) - 1)) + i) rfl (by omega) (v := m_bytes S y ((16 * ((m_prepared S y) - 1)) + i)) (e_bytes (S := S) ea_bytes) dM_refusal_139 ?_
      refine lv_icmp_ge (tgt := 146) hx hb dM_refusal_140 (by decide) (fun c_140 => ?_) (fun c_140 => ?_)
      · skip
        refine lv_iinc (v := nI (i + 1)) (lv' := [(3, .int (nI (i + 1))), (2, .int bd), (1, .int (nI (m_prepared S y))), (0, va_rf (some y))]) hx hb dM_refusal_146 hl (k := 0) rfl (nI_1 _) (by decide) rfl (fun ls hl => ?_)
        refine lv_goto (tgt := 103) hx hb dM_refusal_149 (by decide) ?_
        exact ih (i + 1) bd (by omega) (by rw [hf, f_r2, if_neg c_118, if_pos c_140]) ls (lv_sub hl [0, 1, 2, 3] rfl)
      · skip
        refine lv_bipush (v := (-8)) hx hb dM_refusal_143 (by decide) ?_
        exact s_iret hC hr hlocks rfl hW dM_refusal_145 ⟨rfl, by rw [hf, f_r2, if_neg c_118, if_neg c_140]⟩

set_option maxHeartbeats 4000000 in
set_option maxRecDepth 100000 in
theorem lp_r1 (l : Launch) (G : gs_G) (S : gs_S) (y : Nat) (hM : m_t S) (hY : g_sh S y = some (.inl 3)) (hg : m_arguments S y ≤ 16) (hp1 : 1 ≤ m_prepared S y) (hp60 : m_prepared S y ≤ 60) (hmf : m_manyFormals S y (m_prepared S y) ≤ 16) {p : Program} {e : Env} {s : State} {m : MethodId} {below : List Frame} {meth : Method} {c : Code} (hC : CallFix p m c cM_refusal 4 s #[va_rf (some y)] gU yM_refusal.cls) (hr : meth.sig.returnType = some .int) (hlocks : meth.locks = false) (hW : g_W G (g_A S s.heap.size) s S s.heap []) :
    ∀ (k : Nat) (i : Nat) (bd : Int32), i + k = m_manyFormals S y (m_prepared S y) → f_r1 S y (m_prepared S y) (m_manyFormals S y (m_prepared S y)) 0 (if nI (m_arguments S y) ≤ nI (m_manyFormals S y (m_prepared S y)) then 0 else 1) = f_r1 S y (m_prepared S y) k i bd → ∀ (ls : Array Slot), lv_has ls 4 [(3, .int (nI i)), (2, .int bd), (1, .int (nI (m_prepared S y))), (0, va_rf (some y))] → W p l e { frames := 0, cells := 0, slots := 0, locals := 0 } s m #[va_rf (some y)] below meth c s.heap [] 0 0 (MQ below (g_Qi G S s.heap.size (fun r S' => S' = S ∧ r = f_reM S y)) #[va_rf (some y)] s 0 0 (g_A S s.heap.size)) (F0 m 33 ls []) := by
  obtain ⟨hx, hb, hml, hown, hts⟩ := id hC
  intro k
  induction k with
  | zero =>
    intro i  bd  hi hf ls hl
    refine lv_iload_n hx hb dM_refusal_33 rfl (lv_at hl 0 rfl) ?_
    refine s_aload_n (x := some y) hx hb dM_refusal_34 rfl (lv_at hl 3 rfl) ?_
    obtain ⟨a_manyFormals, ea_manyFormals, sa_manyFormals⟩ := w_m_manyFormals hM hY
    refine s_getr hC hW gc_M iw_M 5 (by decide) uw_395 rfl hY (v := some a_manyFormals) ea_manyFormals dM_refusal_35 ?_
    refine lv_iload_n hx hb dM_refusal_38 rfl (lv_at hl 2 rfl) ?_
    refine k_iald hC hW sa_manyFormals rfl rfl (by decide) (m_prepared S y) rfl (by omega) (v := nI (m_manyFormals S y (m_prepared S y))) (e_manyFormals (S := S) hM hY ea_manyFormals (by omega)) dM_refusal_39 ?_
    have h39 := b_manyFormals hM hY (i := m_prepared S y) (by omega)
    refine lv_icmp_ge (tgt := 94) hx hb dM_refusal_40 (by decide) (fun c_40 => ?_) (fun c => absurd ((nI_leI (by omega) (by omega)).mpr (by omega)) c)
    refine lv_iload_n hx hb dM_refusal_94 rfl (lv_at hl 1 rfl) ?_
    refine lv_if_eq (tgt := 101) hx hb dM_refusal_95 (by decide) (fun c_95 => ?_) (fun c_95 => ?_)
    · skip
      refine lv_iconst (v := 0) hx hb dM_refusal_101 (by decide) ?_
      refine lv_istore_n (lv' := [(3, .int 0), (2, .int bd), (1, .int (nI (m_prepared S y))), (0, va_rf (some y))]) hx hb dM_refusal_102 rfl hl (by decide) rfl (fun ls hl => ?_)
      exact lp_r2 l G S y hM hY hg hp1 hp60 hmf hC hr hlocks hW (m_arguments S y) 0 bd (by omega) (by rw [f_reM, if_neg (by omega), f_reP, hf, show f_r1 S y (m_prepared S y) 0 i bd = bd from rfl, if_pos c_95]) ls (lv_sub hl [0, 1, 2, 3] rfl)
    · skip
      refine lv_bipush (v := (-7)) hx hb dM_refusal_98 (by decide) ?_
      exact s_iret hC hr hlocks rfl hW dM_refusal_100 ⟨rfl, by rw [f_reM, if_neg (by omega), f_reP, hf, show f_r1 S y (m_prepared S y) 0 i bd = bd from rfl, if_neg c_95]⟩
  | succ k ih =>
    intro i  bd  hi hf ls hl
    refine lv_iload_n hx hb dM_refusal_33 rfl (lv_at hl 0 rfl) ?_
    refine s_aload_n (x := some y) hx hb dM_refusal_34 rfl (lv_at hl 3 rfl) ?_
    obtain ⟨a_manyFormals, ea_manyFormals, sa_manyFormals⟩ := w_m_manyFormals hM hY
    refine s_getr hC hW gc_M iw_M 5 (by decide) uw_395 rfl hY (v := some a_manyFormals) ea_manyFormals dM_refusal_35 ?_
    refine lv_iload_n hx hb dM_refusal_38 rfl (lv_at hl 2 rfl) ?_
    refine k_iald hC hW sa_manyFormals rfl rfl (by decide) (m_prepared S y) rfl (by omega) (v := nI (m_manyFormals S y (m_prepared S y))) (e_manyFormals (S := S) hM hY ea_manyFormals (by omega)) dM_refusal_39 ?_
    have h39 := b_manyFormals hM hY (i := m_prepared S y) (by omega)
    refine lv_icmp_ge (tgt := 94) hx hb dM_refusal_40 (by decide) (fun c => absurd ((nI_leI (by omega) (by omega)).mp c) (by omega)) (fun c_40 => ?_)
    refine lv_iload_n hx hb dM_refusal_43 rfl (lv_at hl 1 rfl) ?_
    refine lv_if_ne (tgt := 82) hx hb dM_refusal_44 (by decide) (fun c_44 => ?_) (fun c_44 => ?_)
    · skip
      refine lv_iconst (v := 1) hx hb dM_refusal_82 (by decide) ?_
      refine lv_goto (tgt := 87) hx hb dM_refusal_83 (by decide) ?_
      refine lv_istore_n (lv' := [(2, .int 1), (3, .int (nI i)), (1, .int (nI (m_prepared S y))), (0, va_rf (some y))]) hx hb dM_refusal_87 rfl hl (by decide) rfl (fun ls hl => ?_)
      refine lv_iinc (v := nI (i + 1)) (lv' := [(3, .int (nI (i + 1))), (2, .int 1), (1, .int (nI (m_prepared S y))), (0, va_rf (some y))]) hx hb dM_refusal_88 hl (k := 1) rfl (nI_1 _) (by decide) rfl (fun ls hl => ?_)
      refine lv_goto (tgt := 33) hx hb dM_refusal_91 (by decide) ?_
      exact ih (i + 1) 1 (by omega) (by rw [hf, f_r1, if_neg c_44]) ls (lv_sub hl [0, 1, 2, 3] rfl)
    · skip
      refine lv_iload_n hx hb dM_refusal_47 rfl (lv_at hl 0 rfl) ?_
      refine s_aload_n (x := some y) hx hb dM_refusal_48 rfl (lv_at hl 3 rfl) ?_
      refine s_geti hC hW gc_M iw_M 24 (by decide) uw_414 rfl hY (v := nI (m_arguments S y)) (e_arguments (S := S) hM hY) dM_refusal_49 ?_
      refine lv_icmp_ge (tgt := 65) hx hb dM_refusal_52 (by decide) (fun c_52 => ?_) (fun c_52 => ?_)
      · skip
        refine s_aload_n (x := some y) hx hb dM_refusal_65 rfl (lv_at hl 3 rfl) ?_
        obtain ⟨a_how, ea_how, sa_how⟩ := w_m_how hM hY
        refine s_getr hC hW gc_M iw_M 14 (by decide) uw_404 rfl hY (v := some a_how) ea_how dM_refusal_66 ?_
        refine lv_bipush (v := 16) hx hb dM_refusal_69 (by decide) ?_
        refine lv_iload_n hx hb dM_refusal_71 rfl (lv_at hl 2 rfl) ?_
        refine lv_iconst (v := 1) hx hb dM_refusal_72 (by decide) ?_
        refine lv_isub hx hb dM_refusal_73 ?_
        refine s_topi (x_sub1 (by omega)) ?_
        refine lv_imul hx hb dM_refusal_74 ?_
        refine s_topi (x_mul16 _) ?_
        refine lv_iload_n hx hb dM_refusal_75 rfl (lv_at hl 0 rfl) ?_
        refine lv_iadd hx hb dM_refusal_76 ?_
        refine s_topi (nI_add _ _) ?_
        refine k_iald hC hW sa_how rfl rfl (by decide) ((16 * ((m_prepared S y) - 1)) + i) rfl (by omega) (v := m_how S y ((16 * ((m_prepared S y) - 1)) + i)) (e_how (S := S) ea_how) dM_refusal_77 ?_
        refine lv_iconst (v := 2) hx hb dM_refusal_78 (by decide) ?_
        refine lv_icmp_ge (tgt := 86) hx hb dM_refusal_79 (by decide) (fun c_79 => ?_) (fun c_79 => ?_)
        · skip
          refine lv_iconst (v := 0) hx hb dM_refusal_86 (by decide) ?_
          refine lv_istore_n (lv' := [(2, .int 0), (3, .int (nI i)), (1, .int (nI (m_prepared S y))), (0, va_rf (some y))]) hx hb dM_refusal_87 rfl hl (by decide) rfl (fun ls hl => ?_)
          refine lv_iinc (v := nI (i + 1)) (lv' := [(3, .int (nI (i + 1))), (2, .int 0), (1, .int (nI (m_prepared S y))), (0, va_rf (some y))]) hx hb dM_refusal_88 hl (k := 1) rfl (nI_1 _) (by decide) rfl (fun ls hl => ?_)
          refine lv_goto (tgt := 33) hx hb dM_refusal_91 (by decide) ?_
          exact ih (i + 1) 0 (by omega) (by rw [hf, f_r1, if_pos c_44, if_pos c_52, f_hw, if_pos c_79]) ls (lv_sub hl [0, 1, 2, 3] rfl)
        · skip
          refine lv_iconst (v := 1) hx hb dM_refusal_82 (by decide) ?_
          refine lv_goto (tgt := 87) hx hb dM_refusal_83 (by decide) ?_
          refine lv_istore_n (lv' := [(2, .int 1), (3, .int (nI i)), (1, .int (nI (m_prepared S y))), (0, va_rf (some y))]) hx hb dM_refusal_87 rfl hl (by decide) rfl (fun ls hl => ?_)
          refine lv_iinc (v := nI (i + 1)) (lv' := [(3, .int (nI (i + 1))), (2, .int 1), (1, .int (nI (m_prepared S y))), (0, va_rf (some y))]) hx hb dM_refusal_88 hl (k := 1) rfl (nI_1 _) (by decide) rfl (fun ls hl => ?_)
          refine lv_goto (tgt := 33) hx hb dM_refusal_91 (by decide) ?_
          exact ih (i + 1) 1 (by omega) (by rw [hf, f_r1, if_pos c_44, if_pos c_52, f_hw, if_neg c_79]) ls (lv_sub hl [0, 1, 2, 3] rfl)
      · skip
        refine s_aload_n (x := some y) hx hb dM_refusal_55 rfl (lv_at hl 3 rfl) ?_
        obtain ⟨a_argument, ea_argument, sa_argument⟩ := w_m_argument hM hY
        refine s_getr hC hW gc_M iw_M 26 (by decide) uw_416 rfl hY (v := some a_argument) ea_argument dM_refusal_56 ?_
        refine lv_iload_n hx hb dM_refusal_59 rfl (lv_at hl 0 rfl) ?_
        refine k_iald hC hW sa_argument rfl rfl (by decide) i rfl (by omega) (v := m_argument S y i) (e_argument (S := S) ea_argument) dM_refusal_60 ?_
        refine lv_iconst (v := (-1)) hx hb dM_refusal_61 (by decide) ?_
        refine lv_icmp_ne (tgt := 86) hx hb dM_refusal_62 (by decide) (fun c_62 => ?_) (fun c_62 => ?_)
        · skip
          refine lv_iconst (v := 0) hx hb dM_refusal_86 (by decide) ?_
          refine lv_istore_n (lv' := [(2, .int 0), (3, .int (nI i)), (1, .int (nI (m_prepared S y))), (0, va_rf (some y))]) hx hb dM_refusal_87 rfl hl (by decide) rfl (fun ls hl => ?_)
          refine lv_iinc (v := nI (i + 1)) (lv' := [(3, .int (nI (i + 1))), (2, .int 0), (1, .int (nI (m_prepared S y))), (0, va_rf (some y))]) hx hb dM_refusal_88 hl (k := 1) rfl (nI_1 _) (by decide) rfl (fun ls hl => ?_)
          refine lv_goto (tgt := 33) hx hb dM_refusal_91 (by decide) ?_
          exact ih (i + 1) 0 (by omega) (by rw [hf, f_r1, if_pos c_44, if_neg c_52, if_neg c_62]) ls (lv_sub hl [0, 1, 2, 3] rfl)
        · skip
          refine s_aload_n (x := some y) hx hb dM_refusal_65 rfl (lv_at hl 3 rfl) ?_
          obtain ⟨a_how, ea_how, sa_how⟩ := w_m_how hM hY
          refine s_getr hC hW gc_M iw_M 14 (by decide) uw_404 rfl hY (v := some a_how) ea_how dM_refusal_66 ?_
          refine lv_bipush (v := 16) hx hb dM_refusal_69 (by decide) ?_
          refine lv_iload_n hx hb dM_refusal_71 rfl (lv_at hl 2 rfl) ?_
          refine lv_iconst (v := 1) hx hb dM_refusal_72 (by decide) ?_
          refine lv_isub hx hb dM_refusal_73 ?_
          refine s_topi (x_sub1 (by omega)) ?_
          refine lv_imul hx hb dM_refusal_74 ?_
          refine s_topi (x_mul16 _) ?_
          refine lv_iload_n hx hb dM_refusal_75 rfl (lv_at hl 0 rfl) ?_
          refine lv_iadd hx hb dM_refusal_76 ?_
          refine s_topi (nI_add _ _) ?_
          refine k_iald hC hW sa_how rfl rfl (by decide) ((16 * ((m_prepared S y) - 1)) + i) rfl (by omega) (v := m_how S y ((16 * ((m_prepared S y) - 1)) + i)) (e_how (S := S) ea_how) dM_refusal_77 ?_
          refine lv_iconst (v := 2) hx hb dM_refusal_78 (by decide) ?_
          refine lv_icmp_ge (tgt := 86) hx hb dM_refusal_79 (by decide) (fun c_79 => ?_) (fun c_79 => ?_)
          · skip
            refine lv_iconst (v := 0) hx hb dM_refusal_86 (by decide) ?_
            refine lv_istore_n (lv' := [(2, .int 0), (3, .int (nI i)), (1, .int (nI (m_prepared S y))), (0, va_rf (some y))]) hx hb dM_refusal_87 rfl hl (by decide) rfl (fun ls hl => ?_)
            refine lv_iinc (v := nI (i + 1)) (lv' := [(3, .int (nI (i + 1))), (2, .int 0), (1, .int (nI (m_prepared S y))), (0, va_rf (some y))]) hx hb dM_refusal_88 hl (k := 1) rfl (nI_1 _) (by decide) rfl (fun ls hl => ?_)
            refine lv_goto (tgt := 33) hx hb dM_refusal_91 (by decide) ?_
            exact ih (i + 1) 0 (by omega) (by rw [hf, f_r1, if_pos c_44, if_neg c_52, if_pos c_62, f_hw, if_pos c_79]) ls (lv_sub hl [0, 1, 2, 3] rfl)
          · skip
            refine lv_iconst (v := 1) hx hb dM_refusal_82 (by decide) ?_
            refine lv_goto (tgt := 87) hx hb dM_refusal_83 (by decide) ?_
            refine lv_istore_n (lv' := [(2, .int 1), (3, .int (nI i)), (1, .int (nI (m_prepared S y))), (0, va_rf (some y))]) hx hb dM_refusal_87 rfl hl (by decide) rfl (fun ls hl => ?_)
            refine lv_iinc (v := nI (i + 1)) (lv' := [(3, .int (nI (i + 1))), (2, .int 1), (1, .int (nI (m_prepared S y))), (0, va_rf (some y))]) hx hb dM_refusal_88 hl (k := 1) rfl (nI_1 _) (by decide) rfl (fun ls hl => ?_)
            refine lv_goto (tgt := 33) hx hb dM_refusal_91 (by decide) ?_
            exact ih (i + 1) 1 (by omega) (by rw [hf, f_r1, if_pos c_44, if_neg c_52, if_pos c_62, f_hw, if_neg c_79]) ls (lv_sub hl [0, 1, 2, 3] rfl)

set_option maxHeartbeats 4000000 in
set_option maxRecDepth 100000 in
theorem c_M_refusal (l : Launch) (G : gs_G) (S : gs_S) (sz : Nat) (y : Nat) (hM : m_t S) (hY : g_sh S y = some (.inl 3)) : Met l yM_refusal (kM_refusal :: gU) { frames := 0, cells := 0, slots := 0, locals := 0 } (g_Pc G S sz [va_rf (some y)]) (g_Qi G S sz (fun r S' => S' = S ∧ r = f_reM S y)) 0 0 (g_A S sz) := by
  refine s_head (by decide) (Nat.le_of_ble_eq_true rfl) ?_
  intro p e s m below meth c ls hsz hC hr hlocks hnm hl hW
  subst hsz
  obtain ⟨hx, hb, hml, hown, hts⟩ := id hC
  have hl : lv_has ls 4 [(0, va_rf (some y))] := hl
  have h_programs := b_programs hM hY
  have h_cells := b_cells hM hY
  have h_active := b_active hM hY
  have h_prepared := b_prepared hM hY
  have h_arguments := b_arguments hM hY
  have h_used := b_used hM hY
  have h_preparedAhead := b_preparedAhead hM hY
  refine s_aload_n (x := some y) hx hb dM_refusal_0 rfl (lv_at hl 0 rfl) ?_
  refine s_geti hC hW gc_M iw_M 23 (by decide) uw_413 rfl hY (v := nI (m_prepared S y)) (e_prepared (S := S) hM hY) dM_refusal_1 ?_
  refine lv_istore_n (lv' := [(1, .int (nI (m_prepared S y))), (0, va_rf (some y))]) hx hb dM_refusal_4 rfl hl (by decide) rfl (fun ls hl => ?_)
  refine lv_iload_n hx hb dM_refusal_5 rfl (lv_at hl 0 rfl) ?_
  refine lv_if_ne (tgt := 12) hx hb dM_refusal_6 (by decide) (fun c_6 => ?_) (fun c_6 => ?_)
  · skip
    have hp1 : 1 ≤ m_prepared S y := by have : m_prepared S y ≠ 0 := fun z => c_6 ((x_n0 (by omega)).mpr z); omega
    have hmf := b_manyFormals (i := m_prepared S y) hM hY (by omega)
    refine s_aload_n (x := some y) hx hb dM_refusal_12 rfl (lv_at hl 1 rfl) ?_
    refine s_geti hC hW gc_M iw_M 24 (by decide) uw_414 rfl hY (v := nI (m_arguments S y)) (e_arguments (S := S) hM hY) dM_refusal_13 ?_
    refine s_aload_n (x := some y) hx hb dM_refusal_16 rfl (lv_at hl 1 rfl) ?_
    obtain ⟨a_manyFormals, ea_manyFormals, sa_manyFormals⟩ := w_m_manyFormals hM hY
    refine s_getr hC hW gc_M iw_M 5 (by decide) uw_395 rfl hY (v := some a_manyFormals) ea_manyFormals dM_refusal_17 ?_
    refine lv_iload_n hx hb dM_refusal_20 rfl (lv_at hl 0 rfl) ?_
    refine k_iald hC hW sa_manyFormals rfl rfl (by decide) (m_prepared S y) rfl (by omega) (v := nI (m_manyFormals S y (m_prepared S y))) (e_manyFormals (S := S) hM hY ea_manyFormals (by omega)) dM_refusal_21 ?_
    have h21 := b_manyFormals hM hY (i := m_prepared S y) (by omega)
    refine lv_icmp_le (tgt := 29) hx hb dM_refusal_22 (by decide) (fun c_22 => ?_) (fun c_22 => ?_)
    · skip
      refine lv_iconst (v := 0) hx hb dM_refusal_29 (by decide) ?_
      refine lv_istore_n (lv' := [(2, .int 0), (1, .int (nI (m_prepared S y))), (0, va_rf (some y))]) hx hb dM_refusal_30 rfl hl (by decide) rfl (fun ls hl => ?_)
      refine lv_iconst (v := 0) hx hb dM_refusal_31 (by decide) ?_
      refine lv_istore_n (lv' := [(3, .int 0), (2, .int 0), (1, .int (nI (m_prepared S y))), (0, va_rf (some y))]) hx hb dM_refusal_32 rfl hl (by decide) rfl (fun ls hl => ?_)
      exact lp_r1 l G S y hM hY h_arguments hp1 h_prepared hmf hC hr hlocks hW (m_manyFormals S y (m_prepared S y)) 0 0 (by omega) (by rw [if_pos c_22]) ls (lv_sub hl [0, 1, 2, 3] rfl)
    · skip
      refine lv_iconst (v := 1) hx hb dM_refusal_25 (by decide) ?_
      refine lv_goto (tgt := 30) hx hb dM_refusal_26 (by decide) ?_
      refine lv_istore_n (lv' := [(2, .int 1), (1, .int (nI (m_prepared S y))), (0, va_rf (some y))]) hx hb dM_refusal_30 rfl hl (by decide) rfl (fun ls hl => ?_)
      refine lv_iconst (v := 0) hx hb dM_refusal_31 (by decide) ?_
      refine lv_istore_n (lv' := [(3, .int 0), (2, .int 1), (1, .int (nI (m_prepared S y))), (0, va_rf (some y))]) hx hb dM_refusal_32 rfl hl (by decide) rfl (fun ls hl => ?_)
      exact lp_r1 l G S y hM hY h_arguments hp1 h_prepared hmf hC hr hlocks hW (m_manyFormals S y (m_prepared S y)) 0 1 (by omega) (by rw [if_neg c_22]) ls (lv_sub hl [0, 1, 2, 3] rfl)
  · skip
    refine lv_bipush (v := (-4)) hx hb dM_refusal_9 (by decide) ?_
    exact s_iret hC hr hlocks rfl hW dM_refusal_11 ⟨rfl, by rw [f_reM, if_pos ((x_n0 (by omega)).mp c_6)]⟩
