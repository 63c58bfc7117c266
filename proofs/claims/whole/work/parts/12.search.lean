/-! R.directlyWithin -/
def f_dw (S : gs_S) (pa : Nat) (o : Option Nat) (nm : Int32) : Nat → Nat → Option Nat
  | 0, _ => none
  | k + 1, i => match g_ar S 0 pa i with
    | none => f_dw S pa o nm k (i + 1)
    | some c => if g_r S 1 0 c = o then (if g_i S 1 2 c = nm then some c else f_dw S pa o nm k (i + 1)) else f_dw S pa o nm k (i + 1)
def f_dwR (S : gs_S) (x : Nat) (o : Option Nat) (nm : Int32) : Option Nat := f_dw S (v_a (g_r S 2 1 x)) o nm (g_i S 2 2 x).toNatClampNeg 1

set_option maxHeartbeats 4000000 in
set_option maxRecDepth 100000 in
theorem lp_dw (l : Launch) (G : gs_G) (S : gs_S) (x pa n : Nat) (o : Option Nat) (nm : Int32) (hWT : w_t S) (hX : g_sh S x = some (.inl 2)) (hn : n ≤ 60) (en : g_i S 2 2 x = nI n) (epa : g_r S 2 1 x = some pa) (spa : g_sh S pa = some (.inr (0, 61))) {p : Program} {e : Env} {s : State} {m : MethodId} {below : List Frame} {meth : Method} {c : Code} (hC : CallFix p m c cR_directlyWithin 5 s #[va_rf (some x), va_rf o, Value.int nm] gU yR_directlyWithin.cls) (hr : meth.sig.returnType = some (.object "CallRows$Program")) (hlocks : meth.locks = false) (hW : g_W G (g_A S s.heap.size) s S s.heap []) :
    ∀ (k : Nat) (i : Nat), i + k = n + 1 → 1 ≤ i → f_dw S pa o nm n 1 = f_dw S pa o nm k i → ∀ (ls : Array Slot), lv_has ls 5 [(3, .int (nI i)), (0, va_rf (some x)), (1, va_rf o), (2, .int nm)] → W p l e { frames := 0, cells := 0, slots := 0, locals := 0 } s m #[va_rf (some x), va_rf o, Value.int nm] below meth c s.heap [] 0 0 (MQ below (g_Qq G S s.heap.size (fun r S' => S' = S ∧ r = f_dw S pa o nm n 1)) #[va_rf (some x), va_rf o, Value.int nm] s 0 0 (g_A S s.heap.size)) (F0 m 2 ls []) := by
  obtain ⟨hx, hb, hml, hown, hts⟩ := id hC
  intro k
  induction k with
  | zero =>
    intro i  hi hi1 hf ls hl
    refine lv_iload_n hx hb dR_directlyWithin_2 rfl (lv_at hl 0 rfl) ?_
    refine s_aload_n (x := some x) hx hb dR_directlyWithin_3 rfl (lv_at hl 1 rfl) ?_
    refine s_geti hC hW gc_R iw_R 2 (by decide) uw_74 rfl hX (v := nI n) en dR_directlyWithin_4 ?_
    refine lv_icmp_gt (tgt := 50) hx hb dR_directlyWithin_7 (by decide) (fun c_7 => ?_) (fun c => absurd ((nI_ltI (by omega) (by omega)).mpr (by omega)) c)
    refine s_null hx hb dR_directlyWithin_50 ?_
    exact s_aret (v := none) hC hr hlocks hW dR_directlyWithin_51 ⟨rfl, by rw [hf]; rfl⟩
  | succ k ih =>
    intro i  hi hi1 hf ls hl
    refine lv_iload_n hx hb dR_directlyWithin_2 rfl (lv_at hl 0 rfl) ?_
    refine s_aload_n (x := some x) hx hb dR_directlyWithin_3 rfl (lv_at hl 1 rfl) ?_
    refine s_geti hC hW gc_R iw_R 2 (by decide) uw_74 rfl hX (v := nI n) en dR_directlyWithin_4 ?_
    refine lv_icmp_gt (tgt := 50) hx hb dR_directlyWithin_7 (by decide) (fun c => absurd ((nI_ltI (by omega) (by omega)).mp c) (by omega)) (fun c_7 => ?_)
    refine s_aload_n (x := some x) hx hb dR_directlyWithin_10 rfl (lv_at hl 1 rfl) ?_
    refine s_getr hC hW gc_R iw_R 1 (by decide) uw_73 rfl hX (v := some pa) epa dR_directlyWithin_11 ?_
    refine lv_iload_n hx hb dR_directlyWithin_14 rfl (lv_at hl 0 rfl) ?_
    obtain ⟨r15, er15⟩ : ∃ r : Option Nat, g_ar S 0 pa i = r := ⟨_, rfl⟩
    refine k_aald hC hW spa rfl rfl (by decide) i rfl (by omega) (v := r15) er15 dR_directlyWithin_15 ?_
    refine s_astore (x := r15) (lv' := [(4, va_rf r15), (3, .int (nI i)), (0, va_rf (some x)), (1, va_rf o), (2, .int nm)]) hx hb dR_directlyWithin_16 hl (by decide) rfl (fun ls hl => ?_)
    refine s_aload (x := r15) hx hb dR_directlyWithin_18 (lv_at hl 0 rfl) ?_
    refine s_ifnull (x := r15) (tgt := 44) hx hb dR_directlyWithin_20 (by decide) (fun c_20 => ?_) (fun b_20 c_20 => ?_)
    · skip
      subst c_20
      refine lv_iinc (v := nI (i + 1)) (lv' := [(3, .int (nI (i + 1))), (4, va_rf none), (0, va_rf (some x)), (1, va_rf o), (2, .int nm)]) hx hb dR_directlyWithin_44 hl (k := 1) rfl (nI_1 _) (by decide) rfl (fun ls hl => ?_)
      refine lv_goto (tgt := 2) hx hb dR_directlyWithin_47 (by decide) ?_
      exact ih (i + 1) (by omega) (by omega) (by rw [hf, f_dw, er15]) ls (lv_sub hl [0, 2, 3, 4] rfl)
    · skip
      subst c_20
      have sb_20 := hWT.2.2.2.2.1.1 _ spa _ (by omega) _ er15
      refine s_aload (x := some b_20) hx hb dR_directlyWithin_23 (lv_at hl 0 rfl) ?_
      obtain ⟨r25, er25⟩ : ∃ r : Option Nat, g_r S 1 0 b_20 = r := ⟨_, rfl⟩
      refine s_getr hC hW gc_P iw_P 0 (by decide) uw_130 rfl sb_20 (v := r25) er25 dR_directlyWithin_25 ?_
      refine s_aload_n (x := o) hx hb dR_directlyWithin_28 rfl (lv_at hl 3 rfl) ?_
      refine lv_acmp_ne (rx := r25) (ry := o) (tgt := 44) hx hb dR_directlyWithin_29 (by decide) (fun c_29 => ?_) (fun c_29 => ?_)
      · skip
        refine lv_iinc (v := nI (i + 1)) (lv' := [(3, .int (nI (i + 1))), (4, va_rf (some b_20)), (0, va_rf (some x)), (1, va_rf o), (2, .int nm)]) hx hb dR_directlyWithin_44 hl (k := 1) rfl (nI_1 _) (by decide) rfl (fun ls hl => ?_)
        refine lv_goto (tgt := 2) hx hb dR_directlyWithin_47 (by decide) ?_
        exact ih (i + 1) (by omega) (by omega) (by rw [hf, f_dw, er15]; simp only []; rw [er25, if_neg c_29]) ls (lv_sub hl [0, 2, 3, 4] rfl)
      · skip
        refine s_aload (x := some b_20) hx hb dR_directlyWithin_32 (lv_at hl 0 rfl) ?_
        refine s_geti hC hW gc_P iw_P 2 (by decide) uw_134 rfl sb_20 rfl dR_directlyWithin_34 ?_
        refine lv_iload_n hx hb dR_directlyWithin_37 rfl (lv_at hl 4 rfl) ?_
        refine lv_icmp_ne (tgt := 44) hx hb dR_directlyWithin_38 (by decide) (fun c_38 => ?_) (fun c_38 => ?_)
        · skip
          refine lv_iinc (v := nI (i + 1)) (lv' := [(3, .int (nI (i + 1))), (4, va_rf (some b_20)), (0, va_rf (some x)), (1, va_rf o), (2, .int nm)]) hx hb dR_directlyWithin_44 hl (k := 1) rfl (nI_1 _) (by decide) rfl (fun ls hl => ?_)
          refine lv_goto (tgt := 2) hx hb dR_directlyWithin_47 (by decide) ?_
          exact ih (i + 1) (by omega) (by omega) (by rw [hf, f_dw, er15]; simp only []; rw [er25, if_pos c_29, if_neg c_38]) ls (lv_sub hl [0, 2, 3, 4] rfl)
        · skip
          refine s_aload (x := some b_20) hx hb dR_directlyWithin_41 (lv_at hl 0 rfl) ?_
          exact s_aret (v := some b_20) hC hr hlocks hW dR_directlyWithin_43 ⟨rfl, by rw [hf, f_dw, er15]; simp only []; rw [er25, if_pos c_29, if_pos c_38]⟩

set_option maxHeartbeats 4000000 in
set_option maxRecDepth 100000 in
theorem c_R_directlyWithin (l : Launch) (G : gs_G) (S : gs_S) (sz : Nat) (x : Nat) (o : Option Nat) (nm : Int32) (hWT : w_t S) (hX : g_sh S x = some (.inl 2)) : Met l yR_directlyWithin (kR_directlyWithin :: gU) { frames := 0, cells := 0, slots := 0, locals := 0 } (g_Pc G S sz [va_rf (some x), va_rf o, .int nm]) (g_Qq G S sz (fun r S' => S' = S ∧ r = f_dwR S x o nm)) 0 0 (g_A S sz) := by
  refine s_head (by decide) (by simp [lg_sl, s_cat, s_catI, s_catL]) ?_
  intro p e s m below meth c ls hsz hC hr hlocks hnm hl hW
  subst hsz
  obtain ⟨hx, hb, hml, hown, hts⟩ := id hC
  have hl : lv_has ls 5 [(0, va_rf (some x)), (1, va_rf o), (2, .int nm)] := by simpa [lv_args, s_cat, s_catI, s_catL] using hl
  refine lv_iconst (v := 1) hx hb dR_directlyWithin_0 (by decide) ?_
  refine lv_istore_n (lv' := [(3, .int 1), (0, va_rf (some x)), (1, va_rf o), (2, .int nm)]) hx hb dR_directlyWithin_1 rfl hl (by decide) rfl (fun ls hl => ?_)
  obtain ⟨n, hn, en⟩ := w_programCount hWT hX
  obtain ⟨pa, epa, spa⟩ := w_programs hWT hX
  have hq : ∀ r S1, (S1 = S ∧ r = f_dw S pa o nm n 1) → (S1 = S ∧ r = f_dwR S x o nm) := fun r S1 h => ⟨h.1, by rw [h.2, f_dwR, epa, en, nI_clamp (by omega)]; rfl⟩
  have e1 : (fun (r : Option Nat) (S1 : gs_S) => S1 = S ∧ r = f_dwR S x o nm) = (fun r S1 => S1 = S ∧ r = f_dw S pa o nm n 1) := by funext r S1; rw [f_dwR, epa, en, nI_clamp (by omega)]; rfl
  rw [e1]
  exact lp_dw l G S x pa n o nm hWT hX hn en epa spa hC hr hlocks hW n 1 (by omega) (by omega) rfl ls hl

theorem t_dw0 {S : gs_S} {pa : Nat} {o : Option Nat} {nm : Int32} (hWT : w_t S) (spa : g_sh S pa = some (.inr (0, 61))) : ∀ (k i : Nat), i + k ≤ 61 → t_o S 1 (f_dw S pa o nm k i) := by
  intro k
  induction k with
  | zero => intro i _ b hb; cases hb
  | succ k ih =>
    intro i hi b hb
    rw [f_dw] at hb
    split at hb
    · exact ih (i + 1) (by omega) b hb
    · rename_i c hc
      split at hb
      · split at hb
        · cases hb
          exact hWT.2.2.2.2.1.1 pa spa i (by omega) _ hc
        · exact ih (i + 1) (by omega) b hb
      · exact ih (i + 1) (by omega) b hb
theorem t_dw {S : gs_S} {x : Nat} {o : Option Nat} {nm : Int32} (hWT : w_t S) (hX : g_sh S x = some (.inl 2)) : t_o S 1 (f_dwR S x o nm) := by
  obtain ⟨n, hn, en⟩ := w_programCount hWT hX
  obtain ⟨pa, epa, spa⟩ := w_programs hWT hX
  unfold f_dwR
  rw [epa, en, nI_clamp (by omega)]
  exact t_dw0 hWT spa n 1 (by omega)
theorem t_pOf {S : gs_S} {x : Nat} {i : Int32} (hWT : w_t S) (hX : g_sh S x = some (.inl 2)) : t_o S 1 (f_pOf S x i) := by
  obtain ⟨n, hn, en⟩ := w_programCount hWT hX
  obtain ⟨pa, epa, spa⟩ := w_programs hWT hX
  unfold f_pOf
  split
  · intro b hb; cases hb
  · split
    · intro b hb; cases hb
    · rename_i c1 c2
      obtain ⟨j, hj, ej⟩ := x_pOf hn en c1 c2
      rw [epa, ej, nI_clamp (by omega)]
      exact hWT.2.2.2.2.1.1 pa spa j (by omega)

/-! R.recursiveAround -/
def f_ra (S : gs_S) (nm : Int32) : Nat → Option Nat → Option Nat
  | _, none => none
  | 0, some _ => none
  | k + 1, some a => if f_has S a 4 = 0 then f_ra S nm k (g_r S 1 0 a) else if g_i S 1 2 a = nm then some a else f_ra S nm k (g_r S 1 0 a)
theorem f_ra_n (S : gs_S) (nm : Int32) (k : Nat) : f_ra S nm k none = none := by cases k <;> rfl
theorem t_ra {S : gs_S} {nm : Int32} (hWT : w_t S) : ∀ (k : Nat) (r : Option Nat), t_o S 1 r → t_o S 1 (f_ra S nm k r) := by
  intro k
  induction k with
  | zero => intro r _ b hb; cases r <;> cases hb
  | succ k ih =>
    intro r hr b hb
    cases r with
    | none => cases hb
    | some a =>
      have ha := hr a rfl
      rw [f_ra] at hb
      split at hb
      · exact ih _ (w_outer hWT ha) b hb
      · split at hb
        · cases hb; exact ha
        · exact ih _ (w_outer hWT ha) b hb

set_option maxHeartbeats 4000000 in
set_option maxRecDepth 100000 in
theorem lp_ra (l : Launch) (G : gs_G) (S : gs_S) (a : Nat) (nm : Int32) (hWT : w_t S) (ha : g_sh S a = some (.inl 1)) {p : Program} {e : Env} {s : State} {m : MethodId} {below : List Frame} {meth : Method} {c : Code} (hC : CallFix p m c cR_recursiveAround 3 s #[va_rf (some a), Value.int nm] gU yR_recursiveAround.cls) (hr : meth.sig.returnType = some (.object "CallRows$Program")) (hlocks : meth.locks = false) :
    ∀ (k : Nat) (r : Option Nat), t_o S 1 r → (∀ b : Nat, r = some b → ∃ n : Nat, n < k ∧ g_i S 1 1 b = nI n) → k ≤ 61 → f_ra S nm 61 (some a) = f_ra S nm k r → ∀ (ls : Array Slot), lv_has ls 3 [(2, va_rf r), (0, va_rf (some a)), (1, .int nm)] → ∀ (H : Heap) (locs : List Loc), g_W G (g_A S s.heap.size) s S H locs → W p l e { frames := 1, cells := 0, slots := 0, locals := 21 } s m #[va_rf (some a), Value.int nm] below meth c H locs 0 0 (MQ below (g_Qq G S s.heap.size (fun r S' => S' = S ∧ r = f_ra S nm 61 (some a))) #[va_rf (some a), Value.int nm] s 0 0 (g_A S s.heap.size)) (F0 m 2 ls []) := by
  obtain ⟨hx, hb, hml, hown, hts⟩ := id hC
  intro k
  induction k with
  | zero =>
    intro r  ht hk hk61 hf ls hl H locs hW
    refine s_aload_n (x := r) hx hb dR_recursiveAround_2 rfl (lv_at hl 0 rfl) ?_
    refine s_ifnull (x := r) (tgt := 32) hx hb dR_recursiveAround_3 (by decide) (fun c_3 => ?_) (fun b q => absurd (hk b q) (fun z => by obtain ⟨_, z, _⟩ := z; omega))
    subst c_3
    refine s_null hx hb dR_recursiveAround_32 ?_
    exact s_aret (v := none) hC hr hlocks hW dR_recursiveAround_33 ⟨rfl, by rw [hf, f_ra_n]⟩
  | succ k ih =>
    intro r  ht hk hk61 hf ls hl H locs hW
    refine s_aload_n (x := r) hx hb dR_recursiveAround_2 rfl (lv_at hl 0 rfl) ?_
    refine s_ifnull (x := r) (tgt := 32) hx hb dR_recursiveAround_3 (by decide) (fun c_3 => ?_) (fun b_3 c_3 => ?_)
    · skip
      subst c_3
      refine s_null hx hb dR_recursiveAround_32 ?_
      exact s_aret (v := none) hC hr hlocks hW dR_recursiveAround_33 ⟨rfl, by rw [hf, f_ra_n]⟩
    · skip
      subst c_3
      have sb_3 := ht _ rfl
      refine s_aload_n (x := some b_3) hx hb dR_recursiveAround_6 rfl (lv_at hl 0 rfl) ?_
      refine lv_iconst (v := 4) hx hb dR_recursiveAround_7 (by decide) ?_
      refine s_calli hW (s_runV (n := 1) (As := [.int 4]) (rest := []) hC (c_P_has l G S H.size b_3 4 sb_3) uc_P_has uw_196 uw_197 uw_198 uw_5 rfl rfl (by decide +kernel) ⟨by decide, by decide⟩ (g_preV hW gc_P sb_3 [.int 4]) rfl hl.1 rfl (Nat.le_of_ble_eq_true rfl) dR_recursiveAround_8 ⟨Nat.le_of_ble_eq_true rfl, Nat.le_of_ble_eq_true rfl⟩) (fun q8 S8 H locs hp8 hW => ?_)
      obtain ⟨hs8, rfl⟩ := hp8
      replace hs8 := hs8.symm
      subst hs8
      refine lv_if_eq (tgt := 24) hx hb dR_recursiveAround_11 (by decide) (fun c_11 => ?_) (fun c_11 => ?_)
      · skip
        refine s_aload_n (x := some b_3) hx hb dR_recursiveAround_24 rfl (lv_at hl 0 rfl) ?_
        obtain ⟨r25, er25⟩ : ∃ r : Option Nat, g_r S 1 0 b_3 = r := ⟨_, rfl⟩
        refine s_getr hC hW gc_P iw_P 0 (by decide) uw_130 rfl sb_3 (v := r25) er25 dR_recursiveAround_25 ?_
        refine s_astore_n (x := r25) (lv' := [(2, va_rf r25), (0, va_rf (some a)), (1, .int nm)]) hx hb dR_recursiveAround_28 rfl hl (by decide) rfl (fun ls hl => ?_)
        refine lv_goto (tgt := 2) hx hb dR_recursiveAround_29 (by decide) ?_
        exact ih r25 (fun b q => w_outer hWT sb_3 b (er25.trans q)) (x_li hk61 hWT sb_3 er25 hk) (by omega) (by rw [hf, ← er25, f_ra, if_pos c_11]) ls hl H locs hW
      · skip
        refine s_aload_n (x := some b_3) hx hb dR_recursiveAround_14 rfl (lv_at hl 0 rfl) ?_
        refine s_geti hC hW gc_P iw_P 2 (by decide) uw_134 rfl sb_3 rfl dR_recursiveAround_15 ?_
        refine lv_iload_n hx hb dR_recursiveAround_18 rfl (lv_at hl 2 rfl) ?_
        refine lv_icmp_ne (tgt := 24) hx hb dR_recursiveAround_19 (by decide) (fun c_19 => ?_) (fun c_19 => ?_)
        · skip
          refine s_aload_n (x := some b_3) hx hb dR_recursiveAround_24 rfl (lv_at hl 0 rfl) ?_
          obtain ⟨r25, er25⟩ : ∃ r : Option Nat, g_r S 1 0 b_3 = r := ⟨_, rfl⟩
          refine s_getr hC hW gc_P iw_P 0 (by decide) uw_130 rfl sb_3 (v := r25) er25 dR_recursiveAround_25 ?_
          refine s_astore_n (x := r25) (lv' := [(2, va_rf r25), (0, va_rf (some a)), (1, .int nm)]) hx hb dR_recursiveAround_28 rfl hl (by decide) rfl (fun ls hl => ?_)
          refine lv_goto (tgt := 2) hx hb dR_recursiveAround_29 (by decide) ?_
          exact ih r25 (fun b q => w_outer hWT sb_3 b (er25.trans q)) (x_li hk61 hWT sb_3 er25 hk) (by omega) (by rw [hf, ← er25, f_ra, if_neg c_11, if_neg c_19]) ls hl H locs hW
        · skip
          refine s_aload_n (x := some b_3) hx hb dR_recursiveAround_22 rfl (lv_at hl 0 rfl) ?_
          exact s_aret (v := some b_3) hC hr hlocks hW dR_recursiveAround_23 ⟨rfl, by rw [hf, f_ra, if_neg c_11, if_pos c_19]⟩

set_option maxHeartbeats 4000000 in
set_option maxRecDepth 100000 in
theorem c_R_recursiveAround (l : Launch) (G : gs_G) (S : gs_S) (sz : Nat) (a : Nat) (nm : Int32) (hWT : w_t S) (ha : g_sh S a = some (.inl 1)) : Met l yR_recursiveAround (kR_recursiveAround :: gU) { frames := 1, cells := 0, slots := 0, locals := 21 } (g_Pc G S sz [va_rf (some a), .int nm]) (g_Qq G S sz (fun r S' => S' = S ∧ r = f_ra S nm 61 (some a))) 0 0 (g_A S sz) := by
  refine s_head (by decide) (Nat.le_of_ble_eq_true rfl) ?_
  intro p e s m below meth c ls hsz hC hr hlocks hnm hl hW
  subst hsz
  obtain ⟨hx, hb, hml, hown, hts⟩ := id hC
  have hl : lv_has ls 3 [(0, va_rf (some a)), (1, .int nm)] := hl
  refine s_aload_n (x := some a) hx hb dR_recursiveAround_0 rfl (lv_at hl 0 rfl) ?_
  refine s_astore_n (x := some a) (lv' := [(2, va_rf (some a)), (0, va_rf (some a)), (1, .int nm)]) hx hb dR_recursiveAround_1 rfl hl (by decide) rfl (fun ls hl => ?_)
  exact lp_ra l G S a nm hWT ha hC hr hlocks 61 (some a) (fun b q => by cases q; exact ha) (x_li0 hWT ha) (Nat.le_refl _) rfl ls hl _ _ hW

/-! R.commonAround -/
def f_ca (S : gs_S) (x a : Nat) (nm : Int32) : Nat → Option Nat → Option Nat
  | _, none => none
  | 0, some _ => none
  | k + 1, some b => match f_dwR S x (some b) nm with
    | none => f_ca S x a nm k (g_r S 1 0 b)
    | some c => if f_has S c 2 = 0 then f_ca S x a nm k (g_r S 1 0 b) else if f_li S 61 (some a) (some c) = 0 then some c else f_ca S x a nm k (g_r S 1 0 b)
theorem f_ca_n (S : gs_S) (x a : Nat) (nm : Int32) (k : Nat) : f_ca S x a nm k none = none := by cases k <;> rfl
theorem t_ca {S : gs_S} {x a : Nat} {nm : Int32} (hWT : w_t S) (hX : g_sh S x = some (.inl 2)) : ∀ (k : Nat) (r : Option Nat), t_o S 1 r → t_o S 1 (f_ca S x a nm k r) := by
  intro k
  induction k with
  | zero => intro r _ b hb; cases r <;> cases hb
  | succ k ih =>
    intro r hr b hb
    cases r with
    | none => cases hb
    | some d =>
      have hd := hr d rfl
      rw [f_ca] at hb
      split at hb
      · exact ih _ (w_outer hWT hd) b hb
      · rename_i c hc
        split at hb
        · exact ih _ (w_outer hWT hd) b hb
        · split at hb
          · cases hb; exact t_dw hWT hX _ hc
          · exact ih _ (w_outer hWT hd) b hb

set_option maxHeartbeats 4000000 in
set_option maxRecDepth 100000 in
theorem lp_ca (l : Launch) (G : gs_G) (S : gs_S) (x a : Nat) (nm : Int32) (hWT : w_t S) (hX : g_sh S x = some (.inl 2)) (ha : g_sh S a = some (.inl 1)) {p : Program} {e : Env} {s : State} {m : MethodId} {below : List Frame} {meth : Method} {c : Code} (hC : CallFix p m c cR_commonAround 5 s #[va_rf (some x), va_rf (some a), Value.int nm] gU yR_commonAround.cls) (hr : meth.sig.returnType = some (.object "CallRows$Program")) (hlocks : meth.locks = false) :
    ∀ (k : Nat) (r : Option Nat), t_o S 1 r → (∀ b : Nat, r = some b → ∃ n : Nat, n < k ∧ g_i S 1 1 b = nI n) → k ≤ 61 → f_ca S x a nm 61 (g_r S 1 0 a) = f_ca S x a nm k r → ∀ (ls : Array Slot), lv_has ls 5 [(3, va_rf r), (0, va_rf (some x)), (1, va_rf (some a)), (2, .int nm)] → ∀ (H : Heap) (locs : List Loc), g_W G (g_A S s.heap.size) s S H locs → W p l e { frames := 1, cells := 0, slots := 0, locals := 24 } s m #[va_rf (some x), va_rf (some a), Value.int nm] below meth c H locs 0 0 (MQ below (g_Qq G S s.heap.size (fun r S' => S' = S ∧ r = f_ca S x a nm 61 (g_r S 1 0 a))) #[va_rf (some x), va_rf (some a), Value.int nm] s 0 0 (g_A S s.heap.size)) (F0 m 5 ls []) := by
  obtain ⟨hx, hb, hml, hown, hts⟩ := id hC
  intro k
  induction k with
  | zero =>
    intro r  ht hk hk61 hf ls hl H locs hW
    refine s_aload_n (x := r) hx hb dR_commonAround_5 rfl (lv_at hl 0 rfl) ?_
    refine s_ifnull (x := r) (tgt := 51) hx hb dR_commonAround_6 (by decide) (fun c_6 => ?_) (fun b q => absurd (hk b q) (fun z => by obtain ⟨_, z, _⟩ := z; omega))
    subst c_6
    refine s_null hx hb dR_commonAround_51 ?_
    exact s_aret (v := none) hC hr hlocks hW dR_commonAround_52 ⟨rfl, by rw [hf, f_ca_n]⟩
  | succ k ih =>
    intro r  ht hk hk61 hf ls hl H locs hW
    refine s_aload_n (x := r) hx hb dR_commonAround_5 rfl (lv_at hl 0 rfl) ?_
    refine s_ifnull (x := r) (tgt := 51) hx hb dR_commonAround_6 (by decide) (fun c_6 => ?_) (fun b_6 c_6 => ?_)
    · skip
      subst c_6
      refine s_null hx hb dR_commonAround_51 ?_
      exact s_aret (v := none) hC hr hlocks hW dR_commonAround_52 ⟨rfl, by rw [hf, f_ca_n]⟩
    · skip
      subst c_6
      have sb_6 := ht _ rfl
      refine s_aload_n (x := some x) hx hb dR_commonAround_9 rfl (lv_at hl 1 rfl) ?_
      refine s_aload_n (x := some b_6) hx hb dR_commonAround_10 rfl (lv_at hl 0 rfl) ?_
      refine lv_iload_n hx hb dR_commonAround_11 rfl (lv_at hl 3 rfl) ?_
      refine s_callq hW (s_runV (n := 2) (As := [va_rf (some b_6), .int nm]) (rest := []) hC (c_R_directlyWithin l G S H.size x (some b_6) nm hWT hX) uc_R_directlyWithin uw_120 uw_122 us_R_directlyWithin uw_1 rfl rfl (by decide +kernel) ⟨by decide, by decide⟩ (g_preV hW gc_R hX [va_rf (some b_6), .int nm]) rfl hl.1 rfl (Nat.le_of_ble_eq_true rfl) dR_commonAround_12 ⟨Nat.le_of_ble_eq_true rfl, Nat.le_of_ble_eq_true rfl⟩) (fun rq12 S12 H locs hp12 hW => ?_)
      obtain ⟨hs12, erq12⟩ := hp12
      replace hs12 := hs12.symm
      subst hs12
      refine s_astore (x := rq12) (lv' := [(4, va_rf rq12), (3, va_rf (some b_6)), (0, va_rf (some x)), (1, va_rf (some a)), (2, .int nm)]) hx hb dR_commonAround_15 hl (by decide) rfl (fun ls hl => ?_)
      refine s_aload (x := rq12) hx hb dR_commonAround_17 (lv_at hl 0 rfl) ?_
      refine s_ifnull (x := rq12) (tgt := 43) hx hb dR_commonAround_19 (by decide) (fun c_19 => ?_) (fun b_19 c_19 => ?_)
      · skip
        subst c_19
        refine s_aload_n (x := some b_6) hx hb dR_commonAround_43 rfl (lv_at hl 1 rfl) ?_
        obtain ⟨r44, er44⟩ : ∃ r : Option Nat, g_r S 1 0 b_6 = r := ⟨_, rfl⟩
        refine s_getr hC hW gc_P iw_P 0 (by decide) uw_130 rfl sb_6 (v := r44) er44 dR_commonAround_44 ?_
        refine s_astore_n (x := r44) (lv' := [(3, va_rf r44), (4, va_rf none), (0, va_rf (some x)), (1, va_rf (some a)), (2, .int nm)]) hx hb dR_commonAround_47 rfl hl (by decide) rfl (fun ls hl => ?_)
        refine lv_goto (tgt := 5) hx hb dR_commonAround_48 (by decide) ?_
        exact ih r44 (fun b q => w_outer hWT sb_6 b (er44.trans q)) (x_li hk61 hWT sb_6 er44 hk) (by omega) (by rw [hf, ← er44, f_ca, ← erq12]) ls (lv_sub hl [0, 2, 3, 4] rfl) H locs hW
      · skip
        subst c_19
        have sb_19 := t_dw hWT hX _ erq12.symm
        refine s_aload (x := some b_19) hx hb dR_commonAround_22 (lv_at hl 0 rfl) ?_
        refine lv_iconst (v := 2) hx hb dR_commonAround_24 (by decide) ?_
        refine s_calli hW (s_runV (n := 1) (As := [.int 2]) (rest := []) hC (c_P_has l G S H.size b_19 2 sb_19) uc_P_has uw_196 uw_197 uw_198 uw_5 rfl rfl (by decide +kernel) ⟨by decide, by decide⟩ (g_preV hW gc_P sb_19 [.int 2]) rfl hl.1 rfl (Nat.le_of_ble_eq_true rfl) dR_commonAround_25 ⟨Nat.le_of_ble_eq_true rfl, Nat.le_of_ble_eq_true rfl⟩) (fun q25 S25 H locs hp25 hW => ?_)
        obtain ⟨hs25, rfl⟩ := hp25
        replace hs25 := hs25.symm
        subst hs25
        refine lv_if_eq (tgt := 43) hx hb dR_commonAround_28 (by decide) (fun c_28 => ?_) (fun c_28 => ?_)
        · skip
          refine s_aload_n (x := some b_6) hx hb dR_commonAround_43 rfl (lv_at hl 1 rfl) ?_
          obtain ⟨r44, er44⟩ : ∃ r : Option Nat, g_r S 1 0 b_6 = r := ⟨_, rfl⟩
          refine s_getr hC hW gc_P iw_P 0 (by decide) uw_130 rfl sb_6 (v := r44) er44 dR_commonAround_44 ?_
          refine s_astore_n (x := r44) (lv' := [(3, va_rf r44), (4, va_rf (some b_19)), (0, va_rf (some x)), (1, va_rf (some a)), (2, .int nm)]) hx hb dR_commonAround_47 rfl hl (by decide) rfl (fun ls hl => ?_)
          refine lv_goto (tgt := 5) hx hb dR_commonAround_48 (by decide) ?_
          exact ih r44 (fun b q => w_outer hWT sb_6 b (er44.trans q)) (x_li hk61 hWT sb_6 er44 hk) (by omega) (by rw [hf, ← er44, f_ca, ← erq12]; simp only []; rw [if_pos c_28]) ls (lv_sub hl [0, 2, 3, 4] rfl) H locs hW
        · skip
          refine s_aload_n (x := some a) hx hb dR_commonAround_31 rfl (lv_at hl 3 rfl) ?_
          refine s_aload (x := some b_19) hx hb dR_commonAround_32 (lv_at hl 0 rfl) ?_
          refine s_calli hW (s_runV (n := 1) (As := [va_rf (some b_19)]) (rest := []) hC (c_P_isOrLiesIn l G S H.size a (some b_19) hWT ha) uc_P_isOrLiesIn uw_204 uw_205 uw_206 uw_5 rfl rfl (by decide +kernel) ⟨by decide, by decide⟩ (g_preV hW gc_P ha [va_rf (some b_19)]) rfl hl.1 rfl (Nat.le_of_ble_eq_true rfl) dR_commonAround_34 ⟨Nat.le_of_ble_eq_true rfl, Nat.le_of_ble_eq_true rfl⟩) (fun q34 S34 H locs hp34 hW => ?_)
          obtain ⟨hs34, rfl⟩ := hp34
          replace hs34 := hs34.symm
          subst hs34
          refine lv_if_ne (tgt := 43) hx hb dR_commonAround_37 (by decide) (fun c_37 => ?_) (fun c_37 => ?_)
          · skip
            refine s_aload_n (x := some b_6) hx hb dR_commonAround_43 rfl (lv_at hl 1 rfl) ?_
            obtain ⟨r44, er44⟩ : ∃ r : Option Nat, g_r S 1 0 b_6 = r := ⟨_, rfl⟩
            refine s_getr hC hW gc_P iw_P 0 (by decide) uw_130 rfl sb_6 (v := r44) er44 dR_commonAround_44 ?_
            refine s_astore_n (x := r44) (lv' := [(3, va_rf r44), (4, va_rf (some b_19)), (0, va_rf (some x)), (1, va_rf (some a)), (2, .int nm)]) hx hb dR_commonAround_47 rfl hl (by decide) rfl (fun ls hl => ?_)
            refine lv_goto (tgt := 5) hx hb dR_commonAround_48 (by decide) ?_
            exact ih r44 (fun b q => w_outer hWT sb_6 b (er44.trans q)) (x_li hk61 hWT sb_6 er44 hk) (by omega) (by rw [hf, ← er44, f_ca, ← erq12]; simp only []; rw [if_neg c_28, if_neg c_37]) ls (lv_sub hl [0, 2, 3, 4] rfl) H locs hW
          · skip
            refine s_aload (x := some b_19) hx hb dR_commonAround_40 (lv_at hl 0 rfl) ?_
            exact s_aret (v := some b_19) hC hr hlocks hW dR_commonAround_42 ⟨rfl, by rw [hf, f_ca, ← erq12]; simp only []; rw [if_neg c_28, if_pos c_37]⟩

set_option maxHeartbeats 4000000 in
set_option maxRecDepth 100000 in
theorem c_R_commonAround (l : Launch) (G : gs_G) (S : gs_S) (sz : Nat) (x a : Nat) (nm : Int32) (hWT : w_t S) (hX : g_sh S x = some (.inl 2)) (ha : g_sh S a = some (.inl 1)) : Met l yR_commonAround (kR_commonAround :: gU) { frames := 1, cells := 0, slots := 0, locals := 24 } (g_Pc G S sz [va_rf (some x), va_rf (some a), .int nm]) (g_Qq G S sz (fun r S' => S' = S ∧ r = f_ca S x a nm 61 (g_r S 1 0 a))) 0 0 (g_A S sz) := by
  refine s_head (by decide) (Nat.le_of_ble_eq_true rfl) ?_
  intro p e s m below meth c ls hsz hC hr hlocks hnm hl hW
  subst hsz
  obtain ⟨hx, hb, hml, hown, hts⟩ := id hC
  have hl : lv_has ls 5 [(0, va_rf (some x)), (1, va_rf (some a)), (2, .int nm)] := hl
  refine s_aload_n (x := some a) hx hb dR_commonAround_0 rfl (lv_at hl 1 rfl) ?_
  obtain ⟨r1, er1⟩ : ∃ r : Option Nat, g_r S 1 0 a = r := ⟨_, rfl⟩
  refine s_getr hC hW gc_P iw_P 0 (by decide) uw_130 rfl ha (v := r1) er1 dR_commonAround_1 ?_
  refine s_astore_n (x := r1) (lv' := [(3, va_rf r1), (0, va_rf (some x)), (1, va_rf (some a)), (2, .int nm)]) hx hb dR_commonAround_4 rfl hl (by decide) rfl (fun ls hl => ?_)
  exact lp_ca l G S x a nm hWT hX ha hC hr hlocks 61 r1 (fun b q => w_outer hWT ha b (er1.trans q)) (fun c q => by obtain ⟨n, h1, h2⟩ := x_li (Nat.le_refl 61) hWT ha er1 (x_li0 hWT ha) c q; exact ⟨n, by omega, h2⟩) (Nat.le_refl _) (by rw [er1]) ls hl _ _ hW

/-! R.found -/
def f_found (S : gs_S) (x : Nat) (r : Option Nat) (nm : Int32) : Option Nat := match r with
  | none => f_dwR S x none nm
  | some a => match f_dwR S x (some a) nm with
    | some c => some c
    | none => match f_ra S nm 61 (some a) with
      | some c => some c
      | none => match f_ca S x a nm 61 (g_r S 1 0 a) with
        | some c => some c
        | none => f_dwR S x none nm
theorem t_found {S : gs_S} {x : Nat} {r : Option Nat} {nm : Int32} (hWT : w_t S) (hX : g_sh S x = some (.inl 2)) (hr : t_o S 1 r) : t_o S 1 (f_found S x r nm) := by
  unfold f_found
  split
  · exact t_dw hWT hX
  · rename_i a
    have ha := hr a rfl
    split
    · rename_i c hc; intro b hb; cases hb; exact t_dw hWT hX _ hc
    · split
      · rename_i c hc; intro b hb; cases hb; exact t_ra hWT 61 _ hr _ hc
      · split
        · rename_i c hc; intro b hb; cases hb; exact t_ca hWT hX 61 _ (w_outer hWT ha) _ hc
        · exact t_dw hWT hX

set_option maxHeartbeats 4000000 in
set_option maxRecDepth 100000 in
theorem c_R_found (l : Launch) (G : gs_G) (S : gs_S) (sz : Nat) (x : Nat) (r0 : Option Nat) (nm : Int32) (hWT : w_t S) (hX : g_sh S x = some (.inl 2)) (h0 : t_o S 1 r0) : Met l yR_found (kR_found :: gU) { frames := 2, cells := 0, slots := 0, locals := 48 } (g_Pc G S sz [va_rf (some x), va_rf r0, .int nm]) (g_Qq G S sz (fun r S' => S' = S ∧ r = f_found S x r0 nm)) 0 0 (g_A S sz) := by
  refine s_head (by decide) (by simp [lg_sl, s_cat, s_catI, s_catL]) ?_
  intro p e s m below meth c ls hsz hC hr hlocks hnm hl hW
  subst hsz
  obtain ⟨hx, hb, hml, hown, hts⟩ := id hC
  have hl : lv_has ls 4 [(0, va_rf (some x)), (1, va_rf r0), (2, .int nm)] := by simpa [lv_args, s_cat, s_catI, s_catL] using hl
  refine s_null hx hb dR_found_0 ?_
  refine s_astore_n (x := none) (lv' := [(3, va_rf none), (0, va_rf (some x)), (1, va_rf r0), (2, .int nm)]) hx hb dR_found_1 rfl hl (by decide) rfl (fun ls hl => ?_)
  refine s_aload_n (x := r0) hx hb dR_found_2 rfl (lv_at hl 2 rfl) ?_
  refine s_ifnull (x := r0) (tgt := 34) hx hb dR_found_3 (by decide) (fun c_3 => ?_) (fun b_3 c_3 => ?_)
  · skip
    subst c_3
    refine s_aload_n (x := none) hx hb dR_found_34 rfl (lv_at hl 0 rfl) ?_
    refine s_ifnull (x := none) (tgt := 42) hx hb dR_found_35 (by decide) (fun c_35 => ?_) (fun b_35 c_35 => ?_)
    · skip
      refine s_aload_n (x := some x) hx hb dR_found_42 rfl (lv_at hl 1 rfl) ?_
      refine s_null hx hb dR_found_43 ?_
      refine lv_iload_n hx hb dR_found_44 rfl (lv_at hl 3 rfl) ?_
      refine s_callq hW (s_runV (n := 2) (As := [va_rf none, .int nm]) (rest := []) hC (c_R_directlyWithin l G S s.heap.size x none nm hWT hX) uc_R_directlyWithin uw_120 uw_122 us_R_directlyWithin uw_1 rfl rfl (by decide +kernel) ⟨by decide, by decide⟩ (g_preV hW gc_R hX [va_rf none, .int nm]) rfl hl.1 rfl (Nat.le_of_ble_eq_true rfl) dR_found_45 ⟨Nat.le_of_ble_eq_true rfl, Nat.le_of_ble_eq_true rfl⟩) (fun rq45 S45 H locs hp45 hW => ?_)
      obtain ⟨hs45, erq45⟩ := hp45
      replace hs45 := hs45.symm
      subst hs45
      exact s_aret (v := rq45) hC hr hlocks hW dR_found_48 ⟨rfl, by simp only [f_found, ← erq45]⟩
    · skip
      cases c_35
  · skip
    subst c_3
    have sb_3 := h0 _ rfl
    refine s_aload_n (x := some x) hx hb dR_found_6 rfl (lv_at hl 1 rfl) ?_
    refine s_aload_n (x := some b_3) hx hb dR_found_7 rfl (lv_at hl 2 rfl) ?_
    refine lv_iload_n hx hb dR_found_8 rfl (lv_at hl 3 rfl) ?_
    refine s_callq hW (s_runV (n := 2) (As := [va_rf (some b_3), .int nm]) (rest := []) hC (c_R_directlyWithin l G S s.heap.size x (some b_3) nm hWT hX) uc_R_directlyWithin uw_120 uw_122 us_R_directlyWithin uw_1 rfl rfl (by decide +kernel) ⟨by decide, by decide⟩ (g_preV hW gc_R hX [va_rf (some b_3), .int nm]) rfl hl.1 rfl (Nat.le_of_ble_eq_true rfl) dR_found_9 ⟨Nat.le_of_ble_eq_true rfl, Nat.le_of_ble_eq_true rfl⟩) (fun rq9 S9 H locs hp9 hW => ?_)
    obtain ⟨hs9, erq9⟩ := hp9
    replace hs9 := hs9.symm
    subst hs9
    refine s_astore_n (x := rq9) (lv' := [(3, va_rf rq9), (0, va_rf (some x)), (1, va_rf (some b_3)), (2, .int nm)]) hx hb dR_found_12 rfl hl (by decide) rfl (fun ls hl => ?_)
    refine s_aload_n (x := rq9) hx hb dR_found_13 rfl (lv_at hl 0 rfl) ?_
    refine s_ifnonnull (x := rq9) (tgt := 23) hx hb dR_found_14 (by decide) (fun b_14 c_14 => ?_) (fun c_14 => ?_)
    · skip
      subst c_14
      have sb_14 := t_dw hWT hX _ erq9.symm
      refine s_aload_n (x := some b_14) hx hb dR_found_23 rfl (lv_at hl 0 rfl) ?_
      refine s_ifnonnull (x := some b_14) (tgt := 34) hx hb dR_found_24 (by decide) (fun b_24 c_24 => ?_) (fun c_24 => ?_)
      · skip
        refine s_aload_n (x := some b_14) hx hb dR_found_34 rfl (lv_at hl 0 rfl) ?_
        refine s_ifnull (x := some b_14) (tgt := 42) hx hb dR_found_35 (by decide) (fun c_35 => ?_) (fun b_35 c_35 => ?_)
        · skip
          cases c_35
        · skip
          refine s_aload_n (x := some b_14) hx hb dR_found_38 rfl (lv_at hl 0 rfl) ?_
          refine lv_goto (tgt := 48) hx hb dR_found_39 (by decide) ?_
          exact s_aret (v := some b_14) hC hr hlocks hW dR_found_48 ⟨rfl, by simp only [f_found, ← erq9]⟩
      · skip
        cases c_24
    · skip
      subst c_14
      refine s_aload_n (x := some b_3) hx hb dR_found_17 rfl (lv_at hl 2 rfl) ?_
      refine lv_iload_n hx hb dR_found_18 rfl (lv_at hl 3 rfl) ?_
      refine s_callq hW (s_runS (n := 2) (As := [va_rf (some b_3), .int nm]) (rest := []) hC (c_R_recursiveAround l G S H.size b_3 nm hWT sb_3) uc_R_recursiveAround uw_193 uw_194 uw_1 rfl rfl (by decide +kernel) ⟨by decide, by decide⟩ (g_preS hW [va_rf (some b_3), .int nm]) rfl hl.1 rfl (Nat.le_of_ble_eq_true rfl) dR_found_19 ⟨Nat.le_of_ble_eq_true rfl, Nat.le_of_ble_eq_true rfl⟩) (fun rq19 S19 H locs hp19 hW => ?_)
      obtain ⟨hs19, erq19⟩ := hp19
      replace hs19 := hs19.symm
      subst hs19
      refine s_astore_n (x := rq19) (lv' := [(3, va_rf rq19), (0, va_rf (some x)), (1, va_rf (some b_3)), (2, .int nm)]) hx hb dR_found_22 rfl hl (by decide) rfl (fun ls hl => ?_)
      refine s_aload_n (x := rq19) hx hb dR_found_23 rfl (lv_at hl 0 rfl) ?_
      refine s_ifnonnull (x := rq19) (tgt := 34) hx hb dR_found_24 (by decide) (fun b_24 c_24 => ?_) (fun c_24 => ?_)
      · skip
        subst c_24
        have sb_24 := t_ra hWT 61 _ (fun c q => by cases q; exact sb_3) _ erq19.symm
        refine s_aload_n (x := some b_24) hx hb dR_found_34 rfl (lv_at hl 0 rfl) ?_
        refine s_ifnull (x := some b_24) (tgt := 42) hx hb dR_found_35 (by decide) (fun c_35 => ?_) (fun b_35 c_35 => ?_)
        · skip
          cases c_35
        · skip
          refine s_aload_n (x := some b_24) hx hb dR_found_38 rfl (lv_at hl 0 rfl) ?_
          refine lv_goto (tgt := 48) hx hb dR_found_39 (by decide) ?_
          exact s_aret (v := some b_24) hC hr hlocks hW dR_found_48 ⟨rfl, by simp only [f_found, ← erq9, ← erq19]⟩
      · skip
        subst c_24
        refine s_aload_n (x := some x) hx hb dR_found_27 rfl (lv_at hl 1 rfl) ?_
        refine s_aload_n (x := some b_3) hx hb dR_found_28 rfl (lv_at hl 2 rfl) ?_
        refine lv_iload_n hx hb dR_found_29 rfl (lv_at hl 3 rfl) ?_
        refine s_callq hW (s_runV (n := 2) (As := [va_rf (some b_3), .int nm]) (rest := []) hC (c_R_commonAround l G S H.size x b_3 nm hWT hX sb_3) uc_R_commonAround uw_200 uw_202 us_R_commonAround uw_1 rfl rfl (by decide +kernel) ⟨by decide, by decide⟩ (g_preV hW gc_R hX [va_rf (some b_3), .int nm]) rfl hl.1 rfl (Nat.le_of_ble_eq_true rfl) dR_found_30 ⟨Nat.le_of_ble_eq_true rfl, Nat.le_of_ble_eq_true rfl⟩) (fun rq30 S30 H locs hp30 hW => ?_)
        obtain ⟨hs30, erq30⟩ := hp30
        replace hs30 := hs30.symm
        subst hs30
        refine s_astore_n (x := rq30) (lv' := [(3, va_rf rq30), (0, va_rf (some x)), (1, va_rf (some b_3)), (2, .int nm)]) hx hb dR_found_33 rfl hl (by decide) rfl (fun ls hl => ?_)
        refine s_aload_n (x := rq30) hx hb dR_found_34 rfl (lv_at hl 0 rfl) ?_
        refine s_ifnull (x := rq30) (tgt := 42) hx hb dR_found_35 (by decide) (fun c_35 => ?_) (fun b_35 c_35 => ?_)
        · skip
          subst c_35
          refine s_aload_n (x := some x) hx hb dR_found_42 rfl (lv_at hl 1 rfl) ?_
          refine s_null hx hb dR_found_43 ?_
          refine lv_iload_n hx hb dR_found_44 rfl (lv_at hl 3 rfl) ?_
          refine s_callq hW (s_runV (n := 2) (As := [va_rf none, .int nm]) (rest := []) hC (c_R_directlyWithin l G S H.size x none nm hWT hX) uc_R_directlyWithin uw_120 uw_122 us_R_directlyWithin uw_1 rfl rfl (by decide +kernel) ⟨by decide, by decide⟩ (g_preV hW gc_R hX [va_rf none, .int nm]) rfl hl.1 rfl (Nat.le_of_ble_eq_true rfl) dR_found_45 ⟨Nat.le_of_ble_eq_true rfl, Nat.le_of_ble_eq_true rfl⟩) (fun rq45 S45 H locs hp45 hW => ?_)
          obtain ⟨hs45, erq45⟩ := hp45
          replace hs45 := hs45.symm
          subst hs45
          exact s_aret (v := rq45) hC hr hlocks hW dR_found_48 ⟨rfl, by simp only [f_found, ← erq9, ← erq19, ← erq30, ← erq45]⟩
        · skip
          subst c_35
          have sb_35 := t_ca hWT hX 61 _ (w_outer hWT sb_3) _ erq30.symm
          refine s_aload_n (x := some b_35) hx hb dR_found_38 rfl (lv_at hl 0 rfl) ?_
          refine lv_goto (tgt := 48) hx hb dR_found_39 (by decide) ?_
          exact s_aret (v := some b_35) hC hr hlocks hW dR_found_48 ⟨rfl, by simp only [f_found, ← erq9, ← erq19, ← erq30]⟩
