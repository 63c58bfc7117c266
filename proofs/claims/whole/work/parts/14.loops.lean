/-! R.argumentsFit -/
def f_af (S : gs_S) (h fh : Nat) : Nat → Nat → Int32
  | 0, _ => 1
  | k + 1, i => match g_ar S 6 h i with
    | some _ => f_af S h fh k (i + 1)
    | none => if g_ai S 4 fh i &&& 2 = 0 then 0 else f_af S h fh k (i + 1)
def f_fit (S : gs_S) (lv a : Nat) : Int32 := if g_i S 0 4 lv ≤ g_i S 1 6 a then f_af S (v_a (g_r S 0 5 lv)) (v_a (g_r S 1 4 a)) (g_i S 1 6 a).toNatClampNeg 0 else 0

set_option maxHeartbeats 4000000 in
set_option maxRecDepth 100000 in
theorem lp_af (l : Launch) (G : gs_G) (S : gs_S) (lv a n h fh : Nat) (hWT : w_t S) (hL : g_sh S lv = some (.inl 0)) (ha : g_sh S a = some (.inl 1)) (hn : n ≤ 16) (en : g_i S 1 6 a = nI n) (eh : g_r S 0 5 lv = some h) (sh_ : g_sh S h = some (.inr (6, 16))) (efh : g_r S 1 4 a = some fh) (sfh : g_sh S fh = some (.inr (4, 16))) {p : Program} {e : Env} {s : State} {m : MethodId} {below : List Frame} {meth : Method} {c : Code} (hC : CallFix p m c cR_argumentsFit 3 s #[va_rf (some lv), va_rf (some a)] gU yR_argumentsFit.cls) (hr : meth.sig.returnType = some .boolean) (hlocks : meth.locks = false) (hW : g_W G (g_A S s.heap.size) s S s.heap []) :
    ∀ (k : Nat) (i : Nat), i + k = n → f_af S h fh n 0 = f_af S h fh k i → ∀ (ls : Array Slot), lv_has ls 3 [(2, .int (nI i)), (0, va_rf (some lv)), (1, va_rf (some a))] → W p l e { frames := 0, cells := 0, slots := 0, locals := 0 } s m #[va_rf (some lv), va_rf (some a)] below meth c s.heap [] 0 0 (MQ below (g_Qi G S s.heap.size (fun r S' => S' = S ∧ r = f_af S h fh n 0)) #[va_rf (some lv), va_rf (some a)] s 0 0 (g_A S s.heap.size)) (F0 m 15 ls []) := by
  obtain ⟨hx, hb, hml, hown, hts⟩ := id hC
  intro k
  induction k with
  | zero =>
    intro i  hi hf ls hl
    refine lv_iload_n hx hb dR_argumentsFit_15 rfl (lv_at hl 0 rfl) ?_
    refine s_aload_n (x := some a) hx hb dR_argumentsFit_16 rfl (lv_at hl 2 rfl) ?_
    refine s_geti hC hW gc_P iw_P 6 (by decide) uw_140 rfl ha (v := nI n) en dR_argumentsFit_17 ?_
    refine lv_icmp_ge (tgt := 51) hx hb dR_argumentsFit_20 (by decide) (fun c_20 => ?_) (fun c => absurd ((nI_leI (by omega) (by omega)).mpr (by omega)) c)
    refine lv_iconst (v := 1) hx hb dR_argumentsFit_51 (by decide) ?_
    exact s_iret hC hr hlocks rfl hW dR_argumentsFit_52 ⟨rfl, by rw [hf]; rfl⟩
  | succ k ih =>
    intro i  hi hf ls hl
    refine lv_iload_n hx hb dR_argumentsFit_15 rfl (lv_at hl 0 rfl) ?_
    refine s_aload_n (x := some a) hx hb dR_argumentsFit_16 rfl (lv_at hl 2 rfl) ?_
    refine s_geti hC hW gc_P iw_P 6 (by decide) uw_140 rfl ha (v := nI n) en dR_argumentsFit_17 ?_
    refine lv_icmp_ge (tgt := 51) hx hb dR_argumentsFit_20 (by decide) (fun c => absurd ((nI_leI (by omega) (by omega)).mp c) (by omega)) (fun c_20 => ?_)
    refine s_aload_n (x := some lv) hx hb dR_argumentsFit_23 rfl (lv_at hl 1 rfl) ?_
    refine s_getr hC hW gc_L iw_L 5 (by decide) uw_37 rfl hL (v := some h) eh dR_argumentsFit_24 ?_
    refine lv_iload_n hx hb dR_argumentsFit_27 rfl (lv_at hl 0 rfl) ?_
    obtain ⟨r28, er28⟩ : ∃ r : Option Nat, g_ar S 6 h i = r := ⟨_, rfl⟩
    refine k_aald hC hW sh_ rfl rfl (by decide) i rfl (by omega) (v := r28) er28 dR_argumentsFit_28 ?_
    refine s_ifnonnull (x := r28) (tgt := 45) hx hb dR_argumentsFit_29 (by decide) (fun b_29 c_29 => ?_) (fun c_29 => ?_)
    · skip
      subst c_29
      have sb_29 := hWT.2.1 _ sh_ _ (by omega) _ er28
      refine lv_iinc (v := nI (i + 1)) (lv' := [(2, .int (nI (i + 1))), (0, va_rf (some lv)), (1, va_rf (some a))]) hx hb dR_argumentsFit_45 hl (k := 0) rfl (nI_1 _) (by decide) rfl (fun ls hl => ?_)
      refine lv_goto (tgt := 15) hx hb dR_argumentsFit_48 (by decide) ?_
      exact ih (i + 1) (by omega) (by rw [hf, f_af, er28]) ls hl
    · skip
      subst c_29
      refine s_aload_n (x := some a) hx hb dR_argumentsFit_32 rfl (lv_at hl 2 rfl) ?_
      refine s_getr hC hW gc_P iw_P 4 (by decide) uw_137 rfl ha (v := some fh) efh dR_argumentsFit_33 ?_
      refine lv_iload_n hx hb dR_argumentsFit_36 rfl (lv_at hl 0 rfl) ?_
      refine k_iald hC hW sfh rfl rfl (by decide) i rfl (by omega) rfl dR_argumentsFit_37 ?_
      refine lv_iconst (v := 2) hx hb dR_argumentsFit_38 (by decide) ?_
      refine lv_iand hx hb dR_argumentsFit_39 ?_
      refine lv_if_ne (tgt := 45) hx hb dR_argumentsFit_40 (by decide) (fun c_40 => ?_) (fun c_40 => ?_)
      · skip
        refine lv_iinc (v := nI (i + 1)) (lv' := [(2, .int (nI (i + 1))), (0, va_rf (some lv)), (1, va_rf (some a))]) hx hb dR_argumentsFit_45 hl (k := 0) rfl (nI_1 _) (by decide) rfl (fun ls hl => ?_)
        refine lv_goto (tgt := 15) hx hb dR_argumentsFit_48 (by decide) ?_
        exact ih (i + 1) (by omega) (by rw [hf, f_af, er28]; simp only []; rw [if_neg c_40]) ls hl
      · skip
        refine lv_iconst (v := 0) hx hb dR_argumentsFit_43 (by decide) ?_
        exact s_iret hC hr hlocks rfl hW dR_argumentsFit_44 ⟨rfl, by rw [hf, f_af, er28]; simp only []; rw [if_pos c_40]⟩

set_option maxHeartbeats 4000000 in
set_option maxRecDepth 100000 in
theorem c_R_argumentsFit (l : Launch) (G : gs_G) (S : gs_S) (sz : Nat) (lv a : Nat) (hWT : w_t S) (hL : g_sh S lv = some (.inl 0)) (ha : g_sh S a = some (.inl 1)) : Met l yR_argumentsFit (kR_argumentsFit :: gU) { frames := 0, cells := 0, slots := 0, locals := 0 } (g_Pc G S sz [va_rf (some lv), va_rf (some a)]) (g_Qi G S sz (fun r S' => S' = S ∧ r = f_fit S lv a)) 0 0 (g_A S sz) := by
  refine s_head (by decide) (Nat.le_of_ble_eq_true rfl) ?_
  intro p e s m below meth c ls hsz hC hr hlocks hnm hl hW
  subst hsz
  obtain ⟨hx, hb, hml, hown, hts⟩ := id hC
  have hl : lv_has ls 3 [(0, va_rf (some lv)), (1, va_rf (some a))] := hl
  refine s_aload_n (x := some lv) hx hb dR_argumentsFit_0 rfl (lv_at hl 0 rfl) ?_
  refine s_geti hC hW gc_L iw_L 4 (by decide) uw_35 rfl hL rfl dR_argumentsFit_1 ?_
  refine s_aload_n (x := some a) hx hb dR_argumentsFit_4 rfl (lv_at hl 1 rfl) ?_
  refine s_geti hC hW gc_P iw_P 6 (by decide) uw_140 rfl ha rfl dR_argumentsFit_5 ?_
  refine lv_icmp_le (tgt := 13) hx hb dR_argumentsFit_8 (by decide) (fun c_8 => ?_) (fun c_8 => ?_)
  · skip
    refine lv_iconst (v := 0) hx hb dR_argumentsFit_13 (by decide) ?_
    refine lv_istore_n (lv' := [(2, .int 0), (0, va_rf (some lv)), (1, va_rf (some a))]) hx hb dR_argumentsFit_14 rfl hl (by decide) rfl (fun ls hl => ?_)
    obtain ⟨n, hn, en⟩ := w_formals hWT ha
    obtain ⟨h, eh, sh_⟩ := w_holders hWT hL
    obtain ⟨fh, efh, sfh⟩ := w_formalHow hWT ha
    have e1 : (fun (r : Int32) (S1 : gs_S) => S1 = S ∧ r = f_fit S lv a) = (fun r S1 => S1 = S ∧ r = f_af S h fh n 0) := by funext r S1; rw [f_fit, if_pos c_8, eh, efh, en, nI_clamp (by omega)]; rfl
    rw [e1]
    exact lp_af l G S lv a n h fh hWT hL ha hn en eh sh_ efh sfh hC hr hlocks hW n 0 (by omega) rfl ls hl
  · skip
    refine lv_iconst (v := 0) hx hb dR_argumentsFit_11 (by decide) ?_
    exact s_iret hC hr hlocks rfl hW dR_argumentsFit_12 ⟨rfl, by rw [f_fit, if_neg c_8]⟩

/-! R.bytesSuffice -/
def f_bs (S : gs_S) (h by_ fb : Nat) : Nat → Nat → Int32
  | 0, _ => 1
  | k + 1, i => match g_ar S 6 h i with
    | none => f_bs S h by_ fb k (i + 1)
    | some _ => if g_ai S 5 fb i ≤ g_ai S 8 by_ i then f_bs S h by_ fb k (i + 1) else 0
def f_suf (S : gs_S) (lv a : Nat) : Int32 := f_bs S (v_a (g_r S 0 5 lv)) (v_a (g_r S 0 7 lv)) (v_a (g_r S 1 5 a)) (g_i S 1 6 a).toNatClampNeg 0

set_option maxHeartbeats 4000000 in
set_option maxRecDepth 100000 in
theorem lp_bs (l : Launch) (G : gs_G) (S : gs_S) (lv a n h by_ fb : Nat) (hWT : w_t S) (hL : g_sh S lv = some (.inl 0)) (ha : g_sh S a = some (.inl 1)) (hn : n ≤ 16) (en : g_i S 1 6 a = nI n) (eh : g_r S 0 5 lv = some h) (sh_ : g_sh S h = some (.inr (6, 16))) (eby : g_r S 0 7 lv = some by_) (sby : g_sh S by_ = some (.inr (8, 16))) (efb : g_r S 1 5 a = some fb) (sfb : g_sh S fb = some (.inr (5, 16))) {p : Program} {e : Env} {s : State} {m : MethodId} {below : List Frame} {meth : Method} {c : Code} (hC : CallFix p m c cR_bytesSuffice 3 s #[va_rf (some lv), va_rf (some a)] gU yR_bytesSuffice.cls) (hr : meth.sig.returnType = some .boolean) (hlocks : meth.locks = false) (hW : g_W G (g_A S s.heap.size) s S s.heap []) :
    ∀ (k : Nat) (i : Nat), i + k = n → f_bs S h by_ fb n 0 = f_bs S h by_ fb k i → ∀ (ls : Array Slot), lv_has ls 3 [(2, .int (nI i)), (0, va_rf (some lv)), (1, va_rf (some a))] → W p l e { frames := 0, cells := 0, slots := 0, locals := 0 } s m #[va_rf (some lv), va_rf (some a)] below meth c s.heap [] 0 0 (MQ below (g_Qi G S s.heap.size (fun r S' => S' = S ∧ r = f_bs S h by_ fb n 0)) #[va_rf (some lv), va_rf (some a)] s 0 0 (g_A S s.heap.size)) (F0 m 2 ls []) := by
  obtain ⟨hx, hb, hml, hown, hts⟩ := id hC
  intro k
  induction k with
  | zero =>
    intro i  hi hf ls hl
    refine lv_iload_n hx hb dR_bytesSuffice_2 rfl (lv_at hl 0 rfl) ?_
    refine s_aload_n (x := some a) hx hb dR_bytesSuffice_3 rfl (lv_at hl 2 rfl) ?_
    refine s_geti hC hW gc_P iw_P 6 (by decide) uw_140 rfl ha (v := nI n) en dR_bytesSuffice_4 ?_
    refine lv_icmp_ge (tgt := 42) hx hb dR_bytesSuffice_7 (by decide) (fun c_7 => ?_) (fun c => absurd ((nI_leI (by omega) (by omega)).mpr (by omega)) c)
    refine lv_iconst (v := 1) hx hb dR_bytesSuffice_42 (by decide) ?_
    exact s_iret hC hr hlocks rfl hW dR_bytesSuffice_43 ⟨rfl, by rw [hf]; rfl⟩
  | succ k ih =>
    intro i  hi hf ls hl
    refine lv_iload_n hx hb dR_bytesSuffice_2 rfl (lv_at hl 0 rfl) ?_
    refine s_aload_n (x := some a) hx hb dR_bytesSuffice_3 rfl (lv_at hl 2 rfl) ?_
    refine s_geti hC hW gc_P iw_P 6 (by decide) uw_140 rfl ha (v := nI n) en dR_bytesSuffice_4 ?_
    refine lv_icmp_ge (tgt := 42) hx hb dR_bytesSuffice_7 (by decide) (fun c => absurd ((nI_leI (by omega) (by omega)).mp c) (by omega)) (fun c_7 => ?_)
    refine s_aload_n (x := some lv) hx hb dR_bytesSuffice_10 rfl (lv_at hl 1 rfl) ?_
    refine s_getr hC hW gc_L iw_L 5 (by decide) uw_37 rfl hL (v := some h) eh dR_bytesSuffice_11 ?_
    refine lv_iload_n hx hb dR_bytesSuffice_14 rfl (lv_at hl 0 rfl) ?_
    obtain ⟨r15, er15⟩ : ∃ r : Option Nat, g_ar S 6 h i = r := ⟨_, rfl⟩
    refine k_aald hC hW sh_ rfl rfl (by decide) i rfl (by omega) (v := r15) er15 dR_bytesSuffice_15 ?_
    refine s_ifnull (x := r15) (tgt := 36) hx hb dR_bytesSuffice_16 (by decide) (fun c_16 => ?_) (fun b_16 c_16 => ?_)
    · skip
      subst c_16
      refine lv_iinc (v := nI (i + 1)) (lv' := [(2, .int (nI (i + 1))), (0, va_rf (some lv)), (1, va_rf (some a))]) hx hb dR_bytesSuffice_36 hl (k := 0) rfl (nI_1 _) (by decide) rfl (fun ls hl => ?_)
      refine lv_goto (tgt := 2) hx hb dR_bytesSuffice_39 (by decide) ?_
      exact ih (i + 1) (by omega) (by rw [hf, f_bs, er15]) ls hl
    · skip
      subst c_16
      have sb_16 := hWT.2.1 _ sh_ _ (by omega) _ er15
      refine s_aload_n (x := some lv) hx hb dR_bytesSuffice_19 rfl (lv_at hl 1 rfl) ?_
      refine s_getr hC hW gc_L iw_L 7 (by decide) uw_41 rfl hL (v := some by_) eby dR_bytesSuffice_20 ?_
      refine lv_iload_n hx hb dR_bytesSuffice_23 rfl (lv_at hl 0 rfl) ?_
      refine k_iald hC hW sby rfl rfl (by decide) i rfl (by omega) rfl dR_bytesSuffice_24 ?_
      refine s_aload_n (x := some a) hx hb dR_bytesSuffice_25 rfl (lv_at hl 2 rfl) ?_
      refine s_getr hC hW gc_P iw_P 5 (by decide) uw_139 rfl ha (v := some fb) efb dR_bytesSuffice_26 ?_
      refine lv_iload_n hx hb dR_bytesSuffice_29 rfl (lv_at hl 0 rfl) ?_
      refine k_iald hC hW sfb rfl rfl (by decide) i rfl (by omega) rfl dR_bytesSuffice_30 ?_
      refine lv_icmp_ge (tgt := 36) hx hb dR_bytesSuffice_31 (by decide) (fun c_31 => ?_) (fun c_31 => ?_)
      · skip
        refine lv_iinc (v := nI (i + 1)) (lv' := [(2, .int (nI (i + 1))), (0, va_rf (some lv)), (1, va_rf (some a))]) hx hb dR_bytesSuffice_36 hl (k := 0) rfl (nI_1 _) (by decide) rfl (fun ls hl => ?_)
        refine lv_goto (tgt := 2) hx hb dR_bytesSuffice_39 (by decide) ?_
        exact ih (i + 1) (by omega) (by rw [hf, f_bs, er15]; simp only []; rw [if_pos c_31]) ls hl
      · skip
        refine lv_iconst (v := 0) hx hb dR_bytesSuffice_34 (by decide) ?_
        exact s_iret hC hr hlocks rfl hW dR_bytesSuffice_35 ⟨rfl, by rw [hf, f_bs, er15]; simp only []; rw [if_neg c_31]⟩

set_option maxHeartbeats 4000000 in
set_option maxRecDepth 100000 in
theorem c_R_bytesSuffice (l : Launch) (G : gs_G) (S : gs_S) (sz : Nat) (lv a : Nat) (hWT : w_t S) (hL : g_sh S lv = some (.inl 0)) (ha : g_sh S a = some (.inl 1)) : Met l yR_bytesSuffice (kR_bytesSuffice :: gU) { frames := 0, cells := 0, slots := 0, locals := 0 } (g_Pc G S sz [va_rf (some lv), va_rf (some a)]) (g_Qi G S sz (fun r S' => S' = S ∧ r = f_suf S lv a)) 0 0 (g_A S sz) := by
  refine s_head (by decide) (Nat.le_of_ble_eq_true rfl) ?_
  intro p e s m below meth c ls hsz hC hr hlocks hnm hl hW
  subst hsz
  obtain ⟨hx, hb, hml, hown, hts⟩ := id hC
  have hl : lv_has ls 3 [(0, va_rf (some lv)), (1, va_rf (some a))] := hl
  refine lv_iconst (v := 0) hx hb dR_bytesSuffice_0 (by decide) ?_
  refine lv_istore_n (lv' := [(2, .int 0), (0, va_rf (some lv)), (1, va_rf (some a))]) hx hb dR_bytesSuffice_1 rfl hl (by decide) rfl (fun ls hl => ?_)
  obtain ⟨n, hn, en⟩ := w_formals hWT ha
  obtain ⟨h, eh, sh_⟩ := w_holders hWT hL
  obtain ⟨by_, eby, sby⟩ := w_bytes hWT hL
  obtain ⟨fb, efb, sfb⟩ := w_formalBytes hWT ha
  have e1 : (fun (r : Int32) (S1 : gs_S) => S1 = S ∧ r = f_suf S lv a) = (fun r S1 => S1 = S ∧ r = f_bs S h by_ fb n 0) := by funext r S1; rw [f_suf, eh, eby, efb, en, nI_clamp (by omega)]; rfl
  rw [e1]
  exact lp_bs l G S lv a n h by_ fb hWT hL ha hn en eh sh_ eby sby efb sfb hC hr hlocks hW n 0 (by omega) rfl ls hl

/-! R.anyActiveOf -/
def f_aa (S : gs_S) (pa co : Nat) : Nat → Nat → Int32
  | 0, _ => 0
  | k + 1, i => match g_ar S 0 pa i with
    | none => f_aa S pa co k (i + 1)
    | some p => match g_r S 1 8 p with
      | none => f_aa S pa co k (i + 1)
      | some _ => if f_li S 61 (some p) (some co) = 0 then f_aa S pa co k (i + 1) else 1
def f_any (S : gs_S) (x co : Nat) : Int32 := f_aa S (v_a (g_r S 2 1 x)) co (g_i S 2 2 x).toNatClampNeg 1

set_option maxHeartbeats 4000000 in
set_option maxRecDepth 100000 in
theorem lp_aa (l : Launch) (G : gs_G) (S : gs_S) (x co n pa : Nat) (hWT : w_t S) (hX : g_sh S x = some (.inl 2)) (hco : g_sh S co = some (.inl 1)) (hn : n ≤ 60) (en : g_i S 2 2 x = nI n) (epa : g_r S 2 1 x = some pa) (spa : g_sh S pa = some (.inr (0, 61))) {p : Program} {e : Env} {s : State} {m : MethodId} {below : List Frame} {meth : Method} {c : Code} (hC : CallFix p m c cR_anyActiveOf 4 s #[va_rf (some x), va_rf (some co)] gU yR_anyActiveOf.cls) (hr : meth.sig.returnType = some .boolean) (hlocks : meth.locks = false) :
    ∀ (k : Nat) (i : Nat), i + k = n + 1 → 1 ≤ i → f_aa S pa co n 1 = f_aa S pa co k i → ∀ (ls : Array Slot), lv_has ls 4 [(2, .int (nI i)), (0, va_rf (some x)), (1, va_rf (some co))] → ∀ (H : Heap) (locs : List Loc), g_W G (g_A S s.heap.size) s S H locs → W p l e { frames := 1, cells := 0, slots := 0, locals := 22 } s m #[va_rf (some x), va_rf (some co)] below meth c H locs 0 0 (MQ below (g_Qi G S s.heap.size (fun r S' => S' = S ∧ r = f_aa S pa co n 1)) #[va_rf (some x), va_rf (some co)] s 0 0 (g_A S s.heap.size)) (F0 m 2 ls []) := by
  obtain ⟨hx, hb, hml, hown, hts⟩ := id hC
  intro k
  induction k with
  | zero =>
    intro i  hi hi1 hf ls hl H locs hW
    refine lv_iload_n hx hb dR_anyActiveOf_2 rfl (lv_at hl 0 rfl) ?_
    refine s_aload_n (x := some x) hx hb dR_anyActiveOf_3 rfl (lv_at hl 1 rfl) ?_
    refine s_geti hC hW gc_R iw_R 2 (by decide) uw_74 rfl hX (v := nI n) en dR_anyActiveOf_4 ?_
    refine lv_icmp_gt (tgt := 44) hx hb dR_anyActiveOf_7 (by decide) (fun c_7 => ?_) (fun c => absurd ((nI_ltI (by omega) (by omega)).mpr (by omega)) c)
    refine lv_iconst (v := 0) hx hb dR_anyActiveOf_44 (by decide) ?_
    exact s_iret hC hr hlocks rfl hW dR_anyActiveOf_45 ⟨rfl, by rw [hf]; rfl⟩
  | succ k ih =>
    intro i  hi hi1 hf ls hl H locs hW
    refine lv_iload_n hx hb dR_anyActiveOf_2 rfl (lv_at hl 0 rfl) ?_
    refine s_aload_n (x := some x) hx hb dR_anyActiveOf_3 rfl (lv_at hl 1 rfl) ?_
    refine s_geti hC hW gc_R iw_R 2 (by decide) uw_74 rfl hX (v := nI n) en dR_anyActiveOf_4 ?_
    refine lv_icmp_gt (tgt := 44) hx hb dR_anyActiveOf_7 (by decide) (fun c => absurd ((nI_ltI (by omega) (by omega)).mp c) (by omega)) (fun c_7 => ?_)
    refine s_aload_n (x := some x) hx hb dR_anyActiveOf_10 rfl (lv_at hl 1 rfl) ?_
    refine s_getr hC hW gc_R iw_R 1 (by decide) uw_73 rfl hX (v := some pa) epa dR_anyActiveOf_11 ?_
    refine lv_iload_n hx hb dR_anyActiveOf_14 rfl (lv_at hl 0 rfl) ?_
    obtain ⟨r15, er15⟩ : ∃ r : Option Nat, g_ar S 0 pa i = r := ⟨_, rfl⟩
    refine k_aald hC hW spa rfl rfl (by decide) i rfl (by omega) (v := r15) er15 dR_anyActiveOf_15 ?_
    refine s_astore_n (x := r15) (lv' := [(3, va_rf r15), (2, .int (nI i)), (0, va_rf (some x)), (1, va_rf (some co))]) hx hb dR_anyActiveOf_16 rfl hl (by decide) rfl (fun ls hl => ?_)
    refine s_aload_n (x := r15) hx hb dR_anyActiveOf_17 rfl (lv_at hl 0 rfl) ?_
    refine s_ifnull (x := r15) (tgt := 38) hx hb dR_anyActiveOf_18 (by decide) (fun c_18 => ?_) (fun b_18 c_18 => ?_)
    · skip
      subst c_18
      refine lv_iinc (v := nI (i + 1)) (lv' := [(2, .int (nI (i + 1))), (3, va_rf none), (0, va_rf (some x)), (1, va_rf (some co))]) hx hb dR_anyActiveOf_38 hl (k := 1) rfl (nI_1 _) (by decide) rfl (fun ls hl => ?_)
      refine lv_goto (tgt := 2) hx hb dR_anyActiveOf_41 (by decide) ?_
      exact ih (i + 1) (by omega) (by omega) (by rw [hf, f_aa, er15]) ls (lv_sub hl [0, 2, 3] rfl) H locs hW
    · skip
      subst c_18
      have sb_18 := hWT.2.2.2.2.1.1 _ spa _ (by omega) _ er15
      refine s_aload_n (x := some b_18) hx hb dR_anyActiveOf_21 rfl (lv_at hl 0 rfl) ?_
      obtain ⟨r22, er22⟩ : ∃ r : Option Nat, g_r S 1 8 b_18 = r := ⟨_, rfl⟩
      refine s_getr hC hW gc_P iw_P 8 (by decide) uw_142 rfl sb_18 (v := r22) er22 dR_anyActiveOf_22 ?_
      refine s_ifnull (x := r22) (tgt := 38) hx hb dR_anyActiveOf_25 (by decide) (fun c_25 => ?_) (fun b_25 c_25 => ?_)
      · skip
        subst c_25
        refine lv_iinc (v := nI (i + 1)) (lv' := [(2, .int (nI (i + 1))), (3, va_rf (some b_18)), (0, va_rf (some x)), (1, va_rf (some co))]) hx hb dR_anyActiveOf_38 hl (k := 1) rfl (nI_1 _) (by decide) rfl (fun ls hl => ?_)
        refine lv_goto (tgt := 2) hx hb dR_anyActiveOf_41 (by decide) ?_
        exact ih (i + 1) (by omega) (by omega) (by rw [hf, f_aa, er15]; simp only [er22]) ls (lv_sub hl [0, 2, 3] rfl) H locs hW
      · skip
        subst c_25
        have sb_25 := w_latest hWT sb_18 _ er22
        refine s_aload_n (x := some b_18) hx hb dR_anyActiveOf_28 rfl (lv_at hl 0 rfl) ?_
        refine s_aload_n (x := some co) hx hb dR_anyActiveOf_29 rfl (lv_at hl 3 rfl) ?_
        refine s_calli hW (s_runV (n := 1) (As := [va_rf (some co)]) (rest := []) hC (c_P_isOrLiesIn l G S H.size b_18 (some co) hWT sb_18) uc_P_isOrLiesIn uw_204 uw_205 uw_206 uw_5 rfl rfl (by decide +kernel) ⟨by decide, by decide⟩ (g_preV hW gc_P sb_18 [va_rf (some co)]) rfl hl.1 rfl (Nat.le_of_ble_eq_true rfl) dR_anyActiveOf_30 ⟨Nat.le_of_ble_eq_true rfl, Nat.le_of_ble_eq_true rfl⟩) (fun q30 S30 H locs hp30 hW => ?_)
        obtain ⟨hs30, rfl⟩ := hp30
        replace hs30 := hs30.symm
        subst hs30
        refine lv_if_eq (tgt := 38) hx hb dR_anyActiveOf_33 (by decide) (fun c_33 => ?_) (fun c_33 => ?_)
        · skip
          refine lv_iinc (v := nI (i + 1)) (lv' := [(2, .int (nI (i + 1))), (3, va_rf (some b_18)), (0, va_rf (some x)), (1, va_rf (some co))]) hx hb dR_anyActiveOf_38 hl (k := 1) rfl (nI_1 _) (by decide) rfl (fun ls hl => ?_)
          refine lv_goto (tgt := 2) hx hb dR_anyActiveOf_41 (by decide) ?_
          exact ih (i + 1) (by omega) (by omega) (by rw [hf, f_aa, er15]; simp only [er22]; rw [if_pos c_33]) ls (lv_sub hl [0, 2, 3] rfl) H locs hW
        · skip
          refine lv_iconst (v := 1) hx hb dR_anyActiveOf_36 (by decide) ?_
          exact s_iret hC hr hlocks rfl hW dR_anyActiveOf_37 ⟨rfl, by rw [hf, f_aa, er15]; simp only [er22]; rw [if_neg c_33]⟩

set_option maxHeartbeats 4000000 in
set_option maxRecDepth 100000 in
theorem c_R_anyActiveOf (l : Launch) (G : gs_G) (S : gs_S) (sz : Nat) (x co : Nat) (hWT : w_t S) (hX : g_sh S x = some (.inl 2)) (hco : g_sh S co = some (.inl 1)) : Met l yR_anyActiveOf (kR_anyActiveOf :: gU) { frames := 1, cells := 0, slots := 0, locals := 22 } (g_Pc G S sz [va_rf (some x), va_rf (some co)]) (g_Qi G S sz (fun r S' => S' = S ∧ r = f_any S x co)) 0 0 (g_A S sz) := by
  refine s_head (by decide) (Nat.le_of_ble_eq_true rfl) ?_
  intro p e s m below meth c ls hsz hC hr hlocks hnm hl hW
  subst hsz
  obtain ⟨hx, hb, hml, hown, hts⟩ := id hC
  have hl : lv_has ls 4 [(0, va_rf (some x)), (1, va_rf (some co))] := hl
  refine lv_iconst (v := 1) hx hb dR_anyActiveOf_0 (by decide) ?_
  refine lv_istore_n (lv' := [(2, .int 1), (0, va_rf (some x)), (1, va_rf (some co))]) hx hb dR_anyActiveOf_1 rfl hl (by decide) rfl (fun ls hl => ?_)
  obtain ⟨n, hn, en⟩ := w_programCount hWT hX
  obtain ⟨pa, epa, spa⟩ := w_programs hWT hX
  have e1 : (fun (r : Int32) (S1 : gs_S) => S1 = S ∧ r = f_any S x co) = (fun r S1 => S1 = S ∧ r = f_aa S pa co n 1) := by funext r S1; rw [f_any, epa, en, nI_clamp (by omega)]; rfl
  rw [e1]
  exact lp_aa l G S x co n pa hWT hX hco hn en epa spa hC hr hlocks n 1 (by omega) (by omega) rfl ls hl _ _ hW
