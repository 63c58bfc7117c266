/-! M.place -/
theorem x_negL {n : Int32} (h : ¬ 0 ≤ n) : ∃ j : Nat, j < 2 ^ 31 ∧ -1 - n = nI j ∧ (-1 : Int64) - n.toInt64 = lN j := by
  obtain ⟨j, hj, ej⟩ := x_neg h
  refine ⟨j, hj, ej, ?_⟩
  have h1 := n.toInt_lt
  have h2 := n.le_toInt
  have e1 : (-1 - n).toInt = (j : Int) := by rw [ej, nI_toInt hj]
  rw [Int32.le_iff_toInt_le] at h
  have h3 : (-1 - n).toInt = -1 - n.toInt := by
    rw [Int32.toInt_sub]
    have : (-1 : Int32).toInt = -1 := by decide
    rw [this]
    simp at h
    simp only [Int.bmod]
    omega
  have e2 : n.toInt = -1 - (j : Int) := by omega
  apply Int64.toInt_inj.mp
  rw [lN_toInt hj, Int64.toInt_sub, Int32.toInt_toInt64, e2]
  have : (-1 : Int64).toInt = -1 := by decide
  rw [this]
  simp only [Int.bmod]
  omega
theorem x_runA {S : gs_S} {y : Nat} (h : f_runM S y ≠ 0) : m_active S y ≠ 0 := by
  intro z
  apply h
  rw [f_runM, if_pos z]
def f_pb (S : gs_S) (y o : Nat) : Nat → Nat → Int32 → Int32
  | 0, _, acc => acc
  | k + 1, i, acc => f_pb S y o k (i + 1) (if nI (m_callOf S y i) = nI o then nI (m_baseOf S y i) else acc)
def f_seen (S : gs_S) (y p o : Nat) : Int32 := if p = 0 then 0 else if nI o = nI p then 1 else if f_is S y o 8 = 0 then 0 else if f_lyM S y p (nI o) = 0 then 0 else 1
def f_pc (S : gs_S) (y : Nat) (n : Int32) (j : Nat) : Int32 := if m_owner S y j = 0 then n else if f_seen S y (f_runM S y) (m_owner S y j) = 0 then -1 else if f_is S y (m_owner S y j) 4 = 0 then n else if f_pb S y (m_owner S y j) (m_active S y) 0 (-1) = -1 then n else f_pb S y (m_owner S y j) (m_active S y) 0 (-1) + nI (m_rank S y j)
def f_plM (S : gs_S) (y : Nat) (n : Int32) : Int32 := if 0 ≤ n then (if n < nI (m_cells S y) then f_pc S y n n.toNatClampNeg else -1)
  else if f_runM S y = 0 then -1 else if (-1 - n).toNatClampNeg < m_manyFormals S y (f_runM S y) then m_placeOf S y (16 * (m_active S y - 1) + (-1 - n).toNatClampNeg) else -1
theorem b_pb {S : gs_S} {y o : Nat} (hM : m_t S) (hY : g_sh S y = some (.inl 3)) : ∀ (k i : Nat) (acc : Int32), i + k ≤ 600 → (acc = -1 ∨ ∃ b : Nat, b ≤ 59800 ∧ acc = nI b) → (f_pb S y o k i acc = -1 ∨ ∃ b : Nat, b ≤ 59800 ∧ f_pb S y o k i acc = nI b) := by
  intro k
  induction k with
  | zero => intro i acc _ h; exact h
  | succ k ih =>
    intro i acc hi h
    rw [f_pb]
    refine ih _ _ (by omega) ?_
    split
    · exact Or.inr ⟨_, b_baseOf hM hY (by omega), rfl⟩
    · exact h
theorem x_plM {S : gs_S} {y : Nat} {n : Int32} (hM : m_t S) (hY : g_sh S y = some (.inl 3)) (h : ¬ f_plM S y n = -1) : (n < 0 → 1 ≤ f_runM S y ∧ ∃ j : Nat, j < 16 ∧ -1 - n = nI j) ∧ ∃ q : Nat, q < 60000 ∧ f_plM S y n = nI q := by
  have hc := b_cells hM hY
  have hr := b_runM hM hY
  have ha := b_active hM hY
  unfold f_plM at h ⊢
  split at h
  · rename_i c1
    refine ⟨fun z => absurd c1 (fun c => by rw [Int32.lt_iff_toInt_lt] at z; rw [Int32.le_iff_toInt_le] at c; omega), ?_⟩
    rw [if_pos c1]
    split at h
    · rename_i c2
      rw [if_pos c2]
      obtain ⟨j, hj, ej⟩ := x_cell hc rfl c1 c2
      have ecl : n.toNatClampNeg = j := by rw [ej, nI_clamp (by omega)]
      rw [ecl] at h ⊢
      have hr := b_rank (i := j) hM hY (by omega)
      unfold f_pc at h ⊢
      split
      · exact ⟨j, by omega, ej⟩
      · split
        · rename_i z1 z2; rw [if_neg z1, if_pos z2] at h; exact absurd rfl h
        · split
          · exact ⟨j, by omega, ej⟩
          · split
            · exact ⟨j, by omega, ej⟩
            · rename_i z
              rcases b_pb (o := m_owner S y j) hM hY (m_active S y) 0 (-1) (by omega) (Or.inl rfl) with w | ⟨b, hb, w⟩
              · exact absurd w z
              · rw [w, nI_add]; exact ⟨b + m_rank S y j, by omega, rfl⟩
    · exact absurd rfl h
  · rename_i c1
    split at h
    · exact absurd rfl h
    · rename_i c2
      split at h
      · rename_i c3
        obtain ⟨j, hj, ej⟩ := x_neg c1
        have ecl : (-1 - n).toNatClampNeg = j := by rw [ej, nI_clamp (by omega)]
        rw [ecl] at c3 h
        have hmf := b_manyFormals (i := f_runM S y) hM hY (by omega)
        refine ⟨fun _ => ⟨by omega, j, by omega, ej⟩, ?_⟩
        rw [if_neg c1, if_neg c2, ecl, if_pos c3]
        obtain ⟨b, eb, sb⟩ := w_m_placeOf hM hY
        have hac := x_runA c2
        rcases m_g26 (i := 16 * (m_active S y - 1) + j) hM sb (by omega) with w | ⟨q, w, hq⟩
        · rw [e_placeOf eb] at w; exact absurd w h
        · rw [e_placeOf eb] at w; exact ⟨q, hq, w⟩
      · exact absurd rfl h

set_option maxHeartbeats 4000000 in
set_option maxRecDepth 100000 in
theorem lp_pb (l : Launch) (G : gs_G) (S : gs_S) (y j : Nat) (n : Int32) (hM : m_t S) (hY : g_sh S y = some (.inl 3)) (h_active : m_active S y ≤ 256) (hj : j < 200) (ej : n = nI j) (hfin : f_plM S y n = if f_pb S y (m_owner S y j) (m_active S y) 0 (-1) = -1 then n else f_pb S y (m_owner S y j) (m_active S y) 0 (-1) + nI (m_rank S y j)) {p : Program} {e : Env} {s : State} {m : MethodId} {below : List Frame} {meth : Method} {c : Code} (hC : CallFix p m c cM_place 7 s #[va_rf (some y), Value.int n] gU yM_place.cls) (hr : meth.sig.returnType = some .int) (hlocks : meth.locks = false) {H : Heap} {locs : List Loc} (hW : g_W G (g_A S s.heap.size) s S H locs) :
    ∀ (k : Nat) (i : Nat) (acc : Int32), i + k = m_active S y → f_pb S y (m_owner S y j) (m_active S y) 0 (-1) = f_pb S y (m_owner S y j) k i acc → ∀ (ls : Array Slot), lv_has ls 7 [(6, .int (nI i)), (5, .int acc), (4, .int 1), (3, .int (nI (m_owner S y j))), (2, .int (nI (f_runM S y))), (0, va_rf (some y)), (1, .int n)] → W p l e { frames := 1, cells := 0, slots := 0, locals := 23 } s m #[va_rf (some y), Value.int n] below meth c H locs 0 0 (MQ below (g_Qi G S s.heap.size (fun r S' => S' = S ∧ r = f_plM S y n)) #[va_rf (some y), Value.int n] s 0 0 (g_A S s.heap.size)) (F0 m 136 ls []) := by
  obtain ⟨hx, hb, hml, hown, hts⟩ := id hC
  intro k
  induction k with
  | zero =>
    intro i  acc  hi hf ls hl
    refine lv_iload hx hb dM_place_136 (lv_at hl 0 rfl) ?_
    refine s_aload_n (x := some y) hx hb dM_place_138 rfl (lv_at hl 5 rfl) ?_
    refine s_geti hC hW gc_M iw_M 22 (by decide) uw_412 rfl hY (v := nI (m_active S y)) (e_active (S := S) hM hY) dM_place_139 ?_
    refine lv_icmp_ge (tgt := 176) hx hb dM_place_142 (by decide) (fun c_142 => ?_) (fun c => absurd ((nI_leI (by omega) (by omega)).mpr (by omega)) c)
    refine lv_iload hx hb dM_place_176 (lv_at hl 1 rfl) ?_
    refine lv_iconst (v := (-1)) hx hb dM_place_178 (by decide) ?_
    refine lv_icmp_ne (tgt := 186) hx hb dM_place_179 (by decide) (fun c_179 => ?_) (fun c_179 => ?_)
    · skip
      refine lv_iload hx hb dM_place_186 (lv_at hl 1 rfl) ?_
      refine s_aload_n (x := some y) hx hb dM_place_188 rfl (lv_at hl 5 rfl) ?_
      obtain ⟨a_rank, ea_rank, sa_rank⟩ := w_m_rank hM hY
      refine s_getr hC hW gc_M iw_M 10 (by decide) uw_400 rfl hY (v := some a_rank) ea_rank dM_place_189 ?_
      refine lv_iload_n hx hb dM_place_192 rfl (lv_at hl 6 rfl) ?_
      refine k_iald hC hW sa_rank rfl rfl (by decide) j ej (by omega) (v := nI (m_rank S y j)) (e_rank (S := S) hM hY ea_rank (by omega)) dM_place_193 ?_
      have h193 := b_rank hM hY (i := j) (by omega)
      refine lv_iadd hx hb dM_place_194 ?_
      exact s_iret hC hr hlocks rfl hW dM_place_195 ⟨rfl, by rw [hfin, hf, show f_pb S y (m_owner S y j) 0 i acc = acc from rfl, if_neg c_179]⟩
    · skip
      refine lv_iload_n hx hb dM_place_182 rfl (lv_at hl 6 rfl) ?_
      refine lv_goto (tgt := 195) hx hb dM_place_183 (by decide) ?_
      exact s_iret hC hr hlocks rfl hW dM_place_195 ⟨rfl, by rw [hfin, hf, show f_pb S y (m_owner S y j) 0 i acc = acc from rfl, if_pos c_179]⟩
  | succ k ih =>
    intro i  acc  hi hf ls hl
    refine lv_iload hx hb dM_place_136 (lv_at hl 0 rfl) ?_
    refine s_aload_n (x := some y) hx hb dM_place_138 rfl (lv_at hl 5 rfl) ?_
    refine s_geti hC hW gc_M iw_M 22 (by decide) uw_412 rfl hY (v := nI (m_active S y)) (e_active (S := S) hM hY) dM_place_139 ?_
    refine lv_icmp_ge (tgt := 176) hx hb dM_place_142 (by decide) (fun c => absurd ((nI_leI (by omega) (by omega)).mp c) (by omega)) (fun c_142 => ?_)
    refine s_aload_n (x := some y) hx hb dM_place_145 rfl (lv_at hl 5 rfl) ?_
    obtain ⟨a_callOf, ea_callOf, sa_callOf⟩ := w_m_callOf hM hY
    refine s_getr hC hW gc_M iw_M 18 (by decide) uw_408 rfl hY (v := some a_callOf) ea_callOf dM_place_146 ?_
    refine lv_iload hx hb dM_place_149 (lv_at hl 0 rfl) ?_
    refine k_iald hC hW sa_callOf rfl rfl (by decide) i rfl (by omega) (v := nI (m_callOf S y i)) (e_callOf (S := S) hM hY ea_callOf (by omega)) dM_place_151 ?_
    have h151 := b_callOf hM hY (i := i) (by omega)
    refine lv_iload_n hx hb dM_place_152 rfl (lv_at hl 3 rfl) ?_
    refine lv_icmp_ne (tgt := 166) hx hb dM_place_153 (by decide) (fun c_153 => ?_) (fun c_153 => ?_)
    · skip
      refine lv_iload hx hb dM_place_166 (lv_at hl 1 rfl) ?_
      refine lv_istore (lv' := [(5, .int acc), (6, .int (nI i)), (4, .int 1), (3, .int (nI (m_owner S y j))), (2, .int (nI (f_runM S y))), (0, va_rf (some y)), (1, .int n)]) hx hb dM_place_168 hl (by decide) rfl (fun ls hl => ?_)
      refine lv_iinc (v := nI (i + 1)) (lv' := [(6, .int (nI (i + 1))), (5, .int acc), (4, .int 1), (3, .int (nI (m_owner S y j))), (2, .int (nI (f_runM S y))), (0, va_rf (some y)), (1, .int n)]) hx hb dM_place_170 hl (k := 1) rfl (nI_1 _) (by decide) rfl (fun ls hl => ?_)
      refine lv_goto (tgt := 136) hx hb dM_place_173 (by decide) ?_
      exact ih (i + 1) acc (by omega) (by rw [hf, f_pb, if_neg c_153]) ls (lv_sub hl [0, 1, 2, 3, 4, 5, 6] rfl)
    · skip
      refine s_aload_n (x := some y) hx hb dM_place_156 rfl (lv_at hl 5 rfl) ?_
      obtain ⟨a_baseOf, ea_baseOf, sa_baseOf⟩ := w_m_baseOf hM hY
      refine s_getr hC hW gc_M iw_M 19 (by decide) uw_409 rfl hY (v := some a_baseOf) ea_baseOf dM_place_157 ?_
      refine lv_iload hx hb dM_place_160 (lv_at hl 0 rfl) ?_
      refine k_iald hC hW sa_baseOf rfl rfl (by decide) i rfl (by omega) (v := nI (m_baseOf S y i)) (e_baseOf (S := S) hM hY ea_baseOf (by omega)) dM_place_162 ?_
      have h162 := b_baseOf hM hY (i := i) (by omega)
      refine lv_goto (tgt := 168) hx hb dM_place_163 (by decide) ?_
      refine lv_istore (lv' := [(5, .int (nI (m_baseOf S y i))), (6, .int (nI i)), (4, .int 1), (3, .int (nI (m_owner S y j))), (2, .int (nI (f_runM S y))), (0, va_rf (some y)), (1, .int n)]) hx hb dM_place_168 hl (by decide) rfl (fun ls hl => ?_)
      refine lv_iinc (v := nI (i + 1)) (lv' := [(6, .int (nI (i + 1))), (5, .int (nI (m_baseOf S y i))), (4, .int 1), (3, .int (nI (m_owner S y j))), (2, .int (nI (f_runM S y))), (0, va_rf (some y)), (1, .int n)]) hx hb dM_place_170 hl (k := 1) rfl (nI_1 _) (by decide) rfl (fun ls hl => ?_)
      refine lv_goto (tgt := 136) hx hb dM_place_173 (by decide) ?_
      exact ih (i + 1) (nI (m_baseOf S y i)) (by omega) (by rw [hf, f_pb, if_pos c_153]) ls (lv_sub hl [0, 1, 2, 3, 4, 5, 6] rfl)

set_option maxHeartbeats 4000000 in
set_option maxRecDepth 100000 in
theorem c_M_place (l : Launch) (G : gs_G) (S : gs_S) (sz : Nat) (y : Nat) (n : Int32) (hM : m_t S) (hY : g_sh S y = some (.inl 3)) : Met l yM_place (kM_place :: gU) { frames := 1, cells := 0, slots := 0, locals := 23 } (g_Pc G S sz [va_rf (some y), .int n]) (g_Qi G S sz (fun r S' => S' = S ∧ r = f_plM S y n)) 0 0 (g_A S sz) := by
  refine s_head (by decide) (Nat.le_of_ble_eq_true rfl) ?_
  intro p e s m below meth c ls hsz hC hr hlocks hnm hl hW
  subst hsz
  obtain ⟨hx, hb, hml, hown, hts⟩ := id hC
  have hl : lv_has ls 7 [(0, va_rf (some y)), (1, .int n)] := hl
  have h_programs := b_programs hM hY
  have h_cells := b_cells hM hY
  have h_active := b_active hM hY
  have h_prepared := b_prepared hM hY
  have h_arguments := b_arguments hM hY
  have h_used := b_used hM hY
  have h_preparedAhead := b_preparedAhead hM hY
  refine s_aload_n (x := some y) hx hb dM_place_0 rfl (lv_at hl 0 rfl) ?_
  refine s_calli hW (s_runV (n := 0) (As := []) (rest := []) hC (c_M_running l G S s.heap.size y hM hY) uc_M_running uw_518 uw_520 us_M_running uw_4 rfl rfl (by decide +kernel) ⟨by decide, by decide⟩ (g_preV hW gc_M hY []) rfl hl.1 rfl (Nat.le_of_ble_eq_true rfl) dM_place_1 ⟨Nat.le_of_ble_eq_true rfl, Nat.le_of_ble_eq_true rfl⟩) (fun q1 S1 H locs hp1 hW => ?_)
  obtain ⟨hs1, rfl⟩ := hp1
  replace hs1 := hs1.symm
  subst hs1
  have hrun1 := b_runM hM hY
  refine lv_istore_n (lv' := [(2, .int (nI (f_runM S y))), (0, va_rf (some y)), (1, .int n)]) hx hb dM_place_4 rfl hl (by decide) rfl (fun ls hl => ?_)
  refine lv_iload_n hx hb dM_place_5 rfl (lv_at hl 2 rfl) ?_
  refine lv_if_ge (tgt := 54) hx hb dM_place_6 (by decide) (fun c_6 => ?_) (fun c_6 => ?_)
  · skip
    refine lv_iload_n hx hb dM_place_54 rfl (lv_at hl 2 rfl) ?_
    refine s_aload_n (x := some y) hx hb dM_place_55 rfl (lv_at hl 1 rfl) ?_
    refine s_geti hC hW gc_M iw_M 13 (by decide) uw_403 rfl hY (v := nI (m_cells S y)) (e_cells (S := S) hM hY) dM_place_56 ?_
    refine lv_icmp_lt (tgt := 64) hx hb dM_place_59 (by decide) (fun c_59 => ?_) (fun c_59 => ?_)
    · skip
      obtain ⟨j, hj, ej⟩ := x_cell h_cells rfl c_6 c_59
      refine s_aload_n (x := some y) hx hb dM_place_64 rfl (lv_at hl 1 rfl) ?_
      obtain ⟨a_owner, ea_owner, sa_owner⟩ := w_m_owner hM hY
      refine s_getr hC hW gc_M iw_M 9 (by decide) uw_399 rfl hY (v := some a_owner) ea_owner dM_place_65 ?_
      refine lv_iload_n hx hb dM_place_68 rfl (lv_at hl 2 rfl) ?_
      refine k_iald hC hW sa_owner rfl rfl (by decide) j ej (by omega) (v := nI (m_owner S y j)) (e_owner (S := S) hM hY ea_owner (by omega)) dM_place_69 ?_
      have h69 := b_owner hM hY (i := j) (by omega)
      refine lv_istore_n (lv' := [(3, .int (nI (m_owner S y j))), (2, .int (nI (f_runM S y))), (0, va_rf (some y)), (1, .int n)]) hx hb dM_place_70 rfl hl (by decide) rfl (fun ls hl => ?_)
      refine lv_iload_n hx hb dM_place_71 rfl (lv_at hl 0 rfl) ?_
      refine lv_if_ne (tgt := 77) hx hb dM_place_72 (by decide) (fun c_72 => ?_) (fun c_72 => ?_)
      · skip
        refine lv_iload_n hx hb dM_place_77 rfl (lv_at hl 1 rfl) ?_
        refine lv_if_eq (tgt := 109) hx hb dM_place_78 (by decide) (fun c_78 => ?_) (fun c_78 => ?_)
        · skip
          refine lv_iconst (v := 0) hx hb dM_place_109 (by decide) ?_
          refine lv_istore (lv' := [(4, .int 0), (3, .int (nI (m_owner S y j))), (2, .int (nI (f_runM S y))), (0, va_rf (some y)), (1, .int n)]) hx hb dM_place_110 hl (by decide) rfl (fun ls hl => ?_)
          refine lv_iload hx hb dM_place_112 (lv_at hl 0 rfl) ?_
          refine lv_if_ne (tgt := 119) hx hb dM_place_114 (by decide) (fun c => absurd rfl c) (fun c_114 => ?_)
          refine lv_iconst (v := (-1)) hx hb dM_place_117 (by decide) ?_
          have ecl : n.toNatClampNeg = j := by rw [ej, nI_clamp (by omega)]
          have hs := show f_seen S y (f_runM S y) (m_owner S y j) = 0 from by rw [f_seen, if_pos ((x_n0 (by omega)).mp c_78)]
          exact s_iret hC hr hlocks rfl hW dM_place_118 ⟨rfl, by rw [f_plM, if_pos c_6, if_pos c_59, ecl, f_pc, if_neg (fun z => c_72 ((x_n0 (by omega)).mpr z)), hs, if_pos rfl]⟩
        · skip
          refine lv_iload_n hx hb dM_place_81 rfl (lv_at hl 0 rfl) ?_
          refine lv_iload_n hx hb dM_place_82 rfl (lv_at hl 1 rfl) ?_
          refine lv_icmp_eq (tgt := 105) hx hb dM_place_83 (by decide) (fun c_83 => ?_) (fun c_83 => ?_)
          · skip
            refine lv_iconst (v := 1) hx hb dM_place_105 (by decide) ?_
            refine lv_goto (tgt := 110) hx hb dM_place_106 (by decide) ?_
            refine lv_istore (lv' := [(4, .int 1), (3, .int (nI (m_owner S y j))), (2, .int (nI (f_runM S y))), (0, va_rf (some y)), (1, .int n)]) hx hb dM_place_110 hl (by decide) rfl (fun ls hl => ?_)
            refine lv_iload hx hb dM_place_112 (lv_at hl 0 rfl) ?_
            refine lv_if_ne (tgt := 119) hx hb dM_place_114 (by decide) (fun c_114 => ?_) (fun c => absurd c (by decide))
            refine s_aload_n (x := some y) hx hb dM_place_119 rfl (lv_at hl 3 rfl) ?_
            refine lv_iload_n hx hb dM_place_120 rfl (lv_at hl 1 rfl) ?_
            refine lv_iconst (v := 4) hx hb dM_place_121 (by decide) ?_
            refine s_calli hW (s_runV (n := 2) (As := [.int (nI (m_owner S y j)), .int 4]) (rest := []) hC (c_M_is l G S H.size y (m_owner S y j) 4 hM hY (by omega)) uc_M_is uw_523 uw_525 us_M_is uw_4 rfl rfl (by decide +kernel) ⟨by decide, by decide⟩ (g_preV hW gc_M hY [.int (nI (m_owner S y j)), .int 4]) rfl hl.1 rfl (Nat.le_of_ble_eq_true rfl) dM_place_122 ⟨Nat.le_of_ble_eq_true rfl, Nat.le_of_ble_eq_true rfl⟩) (fun q122 S122 H locs hp122 hW => ?_)
            obtain ⟨hs122, rfl⟩ := hp122
            replace hs122 := hs122.symm
            subst hs122
            refine lv_if_ne (tgt := 130) hx hb dM_place_125 (by decide) (fun c_125 => ?_) (fun c_125 => ?_)
            · skip
              refine lv_iconst (v := (-1)) hx hb dM_place_130 (by decide) ?_
              refine lv_istore (lv' := [(5, .int (-1)), (4, .int 1), (3, .int (nI (m_owner S y j))), (2, .int (nI (f_runM S y))), (0, va_rf (some y)), (1, .int n)]) hx hb dM_place_131 hl (by decide) rfl (fun ls hl => ?_)
              refine lv_iconst (v := 0) hx hb dM_place_133 (by decide) ?_
              refine lv_istore (lv' := [(6, .int 0), (5, .int (-1)), (4, .int 1), (3, .int (nI (m_owner S y j))), (2, .int (nI (f_runM S y))), (0, va_rf (some y)), (1, .int n)]) hx hb dM_place_134 hl (by decide) rfl (fun ls hl => ?_)
              have hfin : f_plM S y n = if f_pb S y (m_owner S y j) (m_active S y) 0 (-1) = -1 then n else f_pb S y (m_owner S y j) (m_active S y) 0 (-1) + nI (m_rank S y j) := by
                have hs := show f_seen S y (f_runM S y) (m_owner S y j) = 1 from by rw [f_seen, if_neg (fun z => c_78 ((x_n0 (by omega)).mpr z)), if_pos c_83]
                have ecl : n.toNatClampNeg = j := by rw [ej, nI_clamp (by omega)]
                rw [f_plM, if_pos c_6, if_pos c_59, ecl, f_pc, if_neg (fun z => c_72 ((x_n0 (by omega)).mpr z)), hs, if_neg (by decide), if_neg c_125]
              exact lp_pb l G S y j n hM hY h_active (by omega) ej hfin hC hr hlocks hW (m_active S y) 0 (-1) (by omega) rfl ls (lv_sub hl [0, 1, 2, 3, 4, 5, 6] rfl)
            · skip
              refine lv_iload_n hx hb dM_place_128 rfl (lv_at hl 4 rfl) ?_
              have ecl : n.toNatClampNeg = j := by rw [ej, nI_clamp (by omega)]
              have hs := show f_seen S y (f_runM S y) (m_owner S y j) = 1 from by rw [f_seen, if_neg (fun z => c_78 ((x_n0 (by omega)).mpr z)), if_pos c_83]
              exact s_iret hC hr hlocks rfl hW dM_place_129 ⟨rfl, by rw [f_plM, if_pos c_6, if_pos c_59, ecl, f_pc, if_neg (fun z => c_72 ((x_n0 (by omega)).mpr z)), hs, if_neg (by decide), if_pos c_125]⟩
          · skip
            refine s_aload_n (x := some y) hx hb dM_place_86 rfl (lv_at hl 2 rfl) ?_
            refine lv_iload_n hx hb dM_place_87 rfl (lv_at hl 0 rfl) ?_
            refine lv_bipush (v := 8) hx hb dM_place_88 (by decide) ?_
            refine s_calli hW (s_runV (n := 2) (As := [.int (nI (m_owner S y j)), .int 8]) (rest := []) hC (c_M_is l G S H.size y (m_owner S y j) 8 hM hY (by omega)) uc_M_is uw_523 uw_525 us_M_is uw_4 rfl rfl (by decide +kernel) ⟨by decide, by decide⟩ (g_preV hW gc_M hY [.int (nI (m_owner S y j)), .int 8]) rfl hl.1 rfl (Nat.le_of_ble_eq_true rfl) dM_place_90 ⟨Nat.le_of_ble_eq_true rfl, Nat.le_of_ble_eq_true rfl⟩) (fun q90 S90 H locs hp90 hW => ?_)
            obtain ⟨hs90, rfl⟩ := hp90
            replace hs90 := hs90.symm
            subst hs90
            refine lv_if_eq (tgt := 109) hx hb dM_place_93 (by decide) (fun c_93 => ?_) (fun c_93 => ?_)
            · skip
              refine lv_iconst (v := 0) hx hb dM_place_109 (by decide) ?_
              refine lv_istore (lv' := [(4, .int 0), (3, .int (nI (m_owner S y j))), (2, .int (nI (f_runM S y))), (0, va_rf (some y)), (1, .int n)]) hx hb dM_place_110 hl (by decide) rfl (fun ls hl => ?_)
              refine lv_iload hx hb dM_place_112 (lv_at hl 0 rfl) ?_
              refine lv_if_ne (tgt := 119) hx hb dM_place_114 (by decide) (fun c => absurd rfl c) (fun c_114 => ?_)
              refine lv_iconst (v := (-1)) hx hb dM_place_117 (by decide) ?_
              have ecl : n.toNatClampNeg = j := by rw [ej, nI_clamp (by omega)]
              have hs := show f_seen S y (f_runM S y) (m_owner S y j) = 0 from by rw [f_seen, if_neg (fun z => c_78 ((x_n0 (by omega)).mpr z)), if_neg c_83, if_pos c_93]
              exact s_iret hC hr hlocks rfl hW dM_place_118 ⟨rfl, by rw [f_plM, if_pos c_6, if_pos c_59, ecl, f_pc, if_neg (fun z => c_72 ((x_n0 (by omega)).mpr z)), hs, if_pos rfl]⟩
            · skip
              refine s_aload_n (x := some y) hx hb dM_place_96 rfl (lv_at hl 2 rfl) ?_
              refine lv_iload_n hx hb dM_place_97 rfl (lv_at hl 1 rfl) ?_
              refine lv_iload_n hx hb dM_place_98 rfl (lv_at hl 0 rfl) ?_
              refine s_calli hW (s_runV (n := 2) (As := [.int (nI (f_runM S y)), .int (nI (m_owner S y j))]) (rest := []) hC (c_M_liesIn l G S H.size y (f_runM S y) (nI (m_owner S y j)) hM hY (by omega)) uc_M_liesIn uw_527 uw_529 us_M_liesIn uw_4 rfl rfl (by decide +kernel) ⟨by decide, by decide⟩ (g_preV hW gc_M hY [.int (nI (f_runM S y)), .int (nI (m_owner S y j))]) rfl hl.1 rfl (Nat.le_of_ble_eq_true rfl) dM_place_99 ⟨Nat.le_of_ble_eq_true rfl, Nat.le_of_ble_eq_true rfl⟩) (fun q99 S99 H locs hp99 hW => ?_)
              obtain ⟨hs99, rfl⟩ := hp99
              replace hs99 := hs99.symm
              subst hs99
              refine lv_if_eq (tgt := 109) hx hb dM_place_102 (by decide) (fun c_102 => ?_) (fun c_102 => ?_)
              · skip
                refine lv_iconst (v := 0) hx hb dM_place_109 (by decide) ?_
                refine lv_istore (lv' := [(4, .int 0), (3, .int (nI (m_owner S y j))), (2, .int (nI (f_runM S y))), (0, va_rf (some y)), (1, .int n)]) hx hb dM_place_110 hl (by decide) rfl (fun ls hl => ?_)
                refine lv_iload hx hb dM_place_112 (lv_at hl 0 rfl) ?_
                refine lv_if_ne (tgt := 119) hx hb dM_place_114 (by decide) (fun c => absurd rfl c) (fun c_114 => ?_)
                refine lv_iconst (v := (-1)) hx hb dM_place_117 (by decide) ?_
                have ecl : n.toNatClampNeg = j := by rw [ej, nI_clamp (by omega)]
                have hs := show f_seen S y (f_runM S y) (m_owner S y j) = 0 from by rw [f_seen, if_neg (fun z => c_78 ((x_n0 (by omega)).mpr z)), if_neg c_83, if_neg c_93, if_pos c_102]
                exact s_iret hC hr hlocks rfl hW dM_place_118 ⟨rfl, by rw [f_plM, if_pos c_6, if_pos c_59, ecl, f_pc, if_neg (fun z => c_72 ((x_n0 (by omega)).mpr z)), hs, if_pos rfl]⟩
              · skip
                refine lv_iconst (v := 1) hx hb dM_place_105 (by decide) ?_
                refine lv_goto (tgt := 110) hx hb dM_place_106 (by decide) ?_
                refine lv_istore (lv' := [(4, .int 1), (3, .int (nI (m_owner S y j))), (2, .int (nI (f_runM S y))), (0, va_rf (some y)), (1, .int n)]) hx hb dM_place_110 hl (by decide) rfl (fun ls hl => ?_)
                refine lv_iload hx hb dM_place_112 (lv_at hl 0 rfl) ?_
                refine lv_if_ne (tgt := 119) hx hb dM_place_114 (by decide) (fun c_114 => ?_) (fun c => absurd c (by decide))
                refine s_aload_n (x := some y) hx hb dM_place_119 rfl (lv_at hl 3 rfl) ?_
                refine lv_iload_n hx hb dM_place_120 rfl (lv_at hl 1 rfl) ?_
                refine lv_iconst (v := 4) hx hb dM_place_121 (by decide) ?_
                refine s_calli hW (s_runV (n := 2) (As := [.int (nI (m_owner S y j)), .int 4]) (rest := []) hC (c_M_is l G S H.size y (m_owner S y j) 4 hM hY (by omega)) uc_M_is uw_523 uw_525 us_M_is uw_4 rfl rfl (by decide +kernel) ⟨by decide, by decide⟩ (g_preV hW gc_M hY [.int (nI (m_owner S y j)), .int 4]) rfl hl.1 rfl (Nat.le_of_ble_eq_true rfl) dM_place_122 ⟨Nat.le_of_ble_eq_true rfl, Nat.le_of_ble_eq_true rfl⟩) (fun q122 S122 H locs hp122 hW => ?_)
                obtain ⟨hs122, rfl⟩ := hp122
                replace hs122 := hs122.symm
                subst hs122
                refine lv_if_ne (tgt := 130) hx hb dM_place_125 (by decide) (fun c_125 => ?_) (fun c_125 => ?_)
                · skip
                  refine lv_iconst (v := (-1)) hx hb dM_place_130 (by decide) ?_
                  refine lv_istore (lv' := [(5, .int (-1)), (4, .int 1), (3, .int (nI (m_owner S y j))), (2, .int (nI (f_runM S y))), (0, va_rf (some y)), (1, .int n)]) hx hb dM_place_131 hl (by decide) rfl (fun ls hl => ?_)
                  refine lv_iconst (v := 0) hx hb dM_place_133 (by decide) ?_
                  refine lv_istore (lv' := [(6, .int 0), (5, .int (-1)), (4, .int 1), (3, .int (nI (m_owner S y j))), (2, .int (nI (f_runM S y))), (0, va_rf (some y)), (1, .int n)]) hx hb dM_place_134 hl (by decide) rfl (fun ls hl => ?_)
                  have hfin : f_plM S y n = if f_pb S y (m_owner S y j) (m_active S y) 0 (-1) = -1 then n else f_pb S y (m_owner S y j) (m_active S y) 0 (-1) + nI (m_rank S y j) := by
                    have hs := show f_seen S y (f_runM S y) (m_owner S y j) = 1 from by rw [f_seen, if_neg (fun z => c_78 ((x_n0 (by omega)).mpr z)), if_neg c_83, if_neg c_93, if_neg c_102]
                    have ecl : n.toNatClampNeg = j := by rw [ej, nI_clamp (by omega)]
                    rw [f_plM, if_pos c_6, if_pos c_59, ecl, f_pc, if_neg (fun z => c_72 ((x_n0 (by omega)).mpr z)), hs, if_neg (by decide), if_neg c_125]
                  exact lp_pb l G S y j n hM hY h_active (by omega) ej hfin hC hr hlocks hW (m_active S y) 0 (-1) (by omega) rfl ls (lv_sub hl [0, 1, 2, 3, 4, 5, 6] rfl)
                · skip
                  refine lv_iload_n hx hb dM_place_128 rfl (lv_at hl 4 rfl) ?_
                  have ecl : n.toNatClampNeg = j := by rw [ej, nI_clamp (by omega)]
                  have hs := show f_seen S y (f_runM S y) (m_owner S y j) = 1 from by rw [f_seen, if_neg (fun z => c_78 ((x_n0 (by omega)).mpr z)), if_neg c_83, if_neg c_93, if_neg c_102]
                  exact s_iret hC hr hlocks rfl hW dM_place_129 ⟨rfl, by rw [f_plM, if_pos c_6, if_pos c_59, ecl, f_pc, if_neg (fun z => c_72 ((x_n0 (by omega)).mpr z)), hs, if_neg (by decide), if_pos c_125]⟩
      · skip
        refine lv_iload_n hx hb dM_place_75 rfl (lv_at hl 3 rfl) ?_
        have ecl : n.toNatClampNeg = j := by rw [ej, nI_clamp (by omega)]
        exact s_iret hC hr hlocks rfl hW dM_place_76 ⟨rfl, by rw [f_plM, if_pos c_6, if_pos c_59, ecl, f_pc, if_pos ((x_n0 (by omega)).mp c_72)]⟩
    · skip
      refine lv_iconst (v := (-1)) hx hb dM_place_62 (by decide) ?_
      exact s_iret hC hr hlocks rfl hW dM_place_63 ⟨rfl, by rw [f_plM, if_pos c_6, if_neg c_59]⟩
  · skip
    refine lv_ldc2 (v := (-1)) hx hb hown (hts _ uw_522) dM_place_9 ?_
    refine lv_iload_n hx hb dM_place_12 rfl (lv_at hl 2 rfl) ?_
    refine lv_i2l hx hb dM_place_13 rfl ?_
    refine lv_lsub hx hb dM_place_14 ?_
    obtain ⟨j, hj, ej, elj⟩ := x_negL c_6
    refine s_topl elj ?_
    refine lv_lstore_n (lv' := [(3, .long (lN j)), (2, .int (nI (f_runM S y))), (0, va_rf (some y)), (1, .int n)]) hx hb dM_place_15 rfl hl (by decide) rfl (fun ls hl => ?_)
    refine lv_iload_n hx hb dM_place_16 rfl (lv_at hl 1 rfl) ?_
    refine lv_if_eq (tgt := 32) hx hb dM_place_17 (by decide) (fun c_17 => ?_) (fun c_17 => ?_)
    · skip
      refine lv_iconst (v := (-1)) hx hb dM_place_32 (by decide) ?_
      refine lv_goto (tgt := 53) hx hb dM_place_33 (by decide) ?_
      exact s_iret hC hr hlocks rfl hW dM_place_53 ⟨rfl, by rw [f_plM, if_neg c_6, if_pos ((x_n0 (by omega)).mp c_17)]⟩
    · skip
      refine lv_lload_n hx hb dM_place_20 rfl (lv_at hl 0 rfl) ?_
      refine s_aload_n (x := some y) hx hb dM_place_21 rfl (lv_at hl 2 rfl) ?_
      obtain ⟨a_manyFormals, ea_manyFormals, sa_manyFormals⟩ := w_m_manyFormals hM hY
      refine s_getr hC hW gc_M iw_M 5 (by decide) uw_395 rfl hY (v := some a_manyFormals) ea_manyFormals dM_place_22 ?_
      refine lv_iload_n hx hb dM_place_25 rfl (lv_at hl 1 rfl) ?_
      refine k_iald hC hW sa_manyFormals rfl rfl (by decide) (f_runM S y) rfl (by omega) (v := nI (m_manyFormals S y (f_runM S y))) (e_manyFormals (S := S) hM hY ea_manyFormals (by omega)) dM_place_26 ?_
      have h26 := b_manyFormals hM hY (i := f_runM S y) (by omega)
      refine lv_i2l hx hb dM_place_27 rfl ?_
      refine s_topl (nI_l (n := m_manyFormals S y (f_runM S y)) (by omega)) ?_
      refine W.lcmp hx hb dM_place_28 ?_
      refine lv_if_lt (tgt := 36) hx hb dM_place_29 (by decide) (fun c_29 => ?_) (fun c_29 => ?_)
      · skip
        have hjf : j < m_manyFormals S y (f_runM S y) := (lN_lt hj (by omega)).mp ((lg_cmp_lt _ _).mp c_29)
        have hac := x_runA (S := S) (y := y) (fun z => c_17 ((x_n0 (by omega)).mpr z))
        refine s_aload_n (x := some y) hx hb dM_place_36 rfl (lv_at hl 2 rfl) ?_
        obtain ⟨a_placeOf, ea_placeOf, sa_placeOf⟩ := w_m_placeOf hM hY
        refine s_getr hC hW gc_M iw_M 21 (by decide) uw_411 rfl hY (v := some a_placeOf) ea_placeOf dM_place_37 ?_
        refine lv_bipush (v := 16) hx hb dM_place_40 (by decide) ?_
        refine s_aload_n (x := some y) hx hb dM_place_42 rfl (lv_at hl 2 rfl) ?_
        refine s_geti hC hW gc_M iw_M 22 (by decide) uw_412 rfl hY (v := nI (m_active S y)) (e_active (S := S) hM hY) dM_place_43 ?_
        refine lv_iconst (v := 1) hx hb dM_place_46 (by decide) ?_
        refine lv_isub hx hb dM_place_47 ?_
        refine s_topi (x_sub1 (by omega)) ?_
        refine lv_imul hx hb dM_place_48 ?_
        refine s_topi (x_mul16 _) ?_
        refine lv_lload_n hx hb dM_place_49 rfl (lv_at hl 0 rfl) ?_
        refine lv_l2i hx hb dM_place_50 rfl ?_
        refine s_topi (lN_i j) ?_
        refine lv_iadd hx hb dM_place_51 ?_
        refine s_topi (nI_add _ _) ?_
        refine k_iald hC hW sa_placeOf rfl rfl (by decide) ((16 * ((m_active S y) - 1)) + j) rfl (by omega) (v := m_placeOf S y ((16 * ((m_active S y) - 1)) + j)) (e_placeOf (S := S) ea_placeOf) dM_place_52 ?_
        exact s_iret hC hr hlocks rfl hW dM_place_53 ⟨rfl, by rw [f_plM, if_neg c_6, if_neg (fun z => c_17 ((x_n0 (by omega)).mpr z)), ej, nI_clamp (by omega), if_pos hjf]⟩
      · skip
        refine lv_iconst (v := (-1)) hx hb dM_place_32 (by decide) ?_
        refine lv_goto (tgt := 53) hx hb dM_place_33 (by decide) ?_
        exact s_iret hC hr hlocks rfl hW dM_place_53 ⟨rfl, by rw [f_plM, if_neg c_6, if_neg (fun z => c_17 ((x_n0 (by omega)).mpr z)), ej, nI_clamp (by omega), if_neg (fun z => c_29 ((lg_cmp_lt _ _).mpr ((lN_lt hj (by omega)).mpr z)))]⟩
