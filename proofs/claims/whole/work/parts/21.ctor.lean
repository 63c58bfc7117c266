/-! CallRows(depth) -/
def f_fill (S : gs_S) (ex : Nat) : Nat → gs_S
  | 0 => S
  | k + 1 => p_ai (f_fill S ex k) 3 ex k (-1)
theorem f_fill_sh (S : gs_S) (ex k b : Nat) : g_sh (f_fill S ex k) b = g_sh S b := by induction k with
  | zero => rfl
  | succ k ih => exact ih
theorem f_fill_r (S : gs_S) (ex k c j b : Nat) : g_r (f_fill S ex k) c j b = g_r S c j b := by induction k with
  | zero => rfl
  | succ k ih => exact ih
def f_depth (d : Int32) : Int32 := if 0 < (if 65536 < d then 65536 else d) then (if 65536 < d then 65536 else d) else 0
def i_R1 (S : gs_S) (x pa : Nat) : gs_S := p_r (p_newA S 0 61 pa) 2 1 x (some pa)
def i_R2 (S : gs_S) (x pa ow : Nat) : gs_S := p_r (p_newA (i_R1 S x pa) 1 200 ow) 2 3 x (some ow)
def i_R3 (S : gs_S) (x pa ow fv : Nat) : gs_S := p_r (p_newA (i_R2 S x pa ow) 2 200 fv) 2 4 x (some fv)
def i_R4 (S : gs_S) (x pa ow fv ex : Nat) : gs_S := p_r (p_newA (i_R3 S x pa ow fv) 3 100 ex) 2 6 x (some ex)
def i_R6 (S : gs_S) (x pa ow fv ex q h pl bb va : Nat) (d : Int32) : gs_S := p_i (p_r (p_r (n_L (i_R4 S x pa ow fv ex) q none h pl bb va) 2 7 x (some q)) 2 8 x (some q)) 2 0 x (f_depth d)
def i_Rf (S : gs_S) (x pa ow fv ex q h pl bb va : Nat) : Prop := g_sh S pa = none ∧ g_sh (i_R1 S x pa) ow = none ∧ g_sh (i_R2 S x pa ow) fv = none ∧ g_sh (i_R3 S x pa ow fv) ex = none ∧ g_sh (i_R4 S x pa ow fv ex) q = none ∧ i_Lf (p_new (i_R4 S x pa ow fv ex) 0 q) q h pl bb va
def i_R (S : gs_S) (x pa ow fv ex q h pl bb va : Nat) (d : Int32) : gs_S := f_fill (i_R6 S x pa ow fv ex q h pl bb va d) ex 100

set_option maxHeartbeats 4000000 in
set_option maxRecDepth 100000 in
theorem lp_Rinit (l : Launch) (G : gs_G) (S : gs_S) (T : gs_S) (x ex : Nat) (d : Int32) (P : gs_S → Prop) (hP : P (f_fill T ex 100)) (hX : g_sh T x = some (.inl 2)) (eex : g_r T 2 6 x = some ex) (sex : g_sh T ex = some (.inr (3, 100))) {p : Program} {e : Env} {s : State} {m : MethodId} {below : List Frame} {meth : Method} {c : Code} (hC : CallFix p m c cR_init 3 s #[va_rf (some x), Value.int d] gU yR_init.cls) (hr : meth.sig.returnType = none) (hlocks : meth.locks = false) :
    ∀ (k : Nat) (i : Nat), i + k = 100 → ∀ (ls : Array Slot), lv_has ls 3 [(2, .int (nI i)), (0, va_rf (some x)), (1, .int d)] → ∀ (H : Heap) (locs : List Loc), g_W G (g_A S s.heap.size) s (f_fill T ex i) H locs → W p l e { frames := 2, cells := 9, slots := 834, locals := 33 } s m #[va_rf (some x), Value.int d] below meth c H locs 9 834 (MQ below (g_Qv G S s.heap.size (P)) #[va_rf (some x), Value.int d] s 9 834 (g_A S s.heap.size)) (F0 m 76 ls []) := by
  obtain ⟨hx, hb, hml, hown, hts⟩ := id hC
  intro k
  induction k with
  | zero =>
    intro i  hi ls hl H locs hW
    refine lv_iload_n hx hb dR_init_76 rfl (lv_at hl 0 rfl) ?_
    refine lv_bipush (v := 100) hx hb dR_init_77 (by decide) ?_
    refine lv_icmp_ge (tgt := 95) hx hb dR_init_79 (by decide) (fun c_79 => ?_) (fun c => absurd ((nI_leI (a := 100) (by omega) (by omega)).mpr (by omega)) c)
    obtain rfl : i = 100 := by omega
    exact s_vret hC hr hlocks hW dR_init_95 hP
  | succ k ih =>
    intro i  hi ls hl H locs hW
    refine lv_iload_n hx hb dR_init_76 rfl (lv_at hl 0 rfl) ?_
    refine lv_bipush (v := 100) hx hb dR_init_77 (by decide) ?_
    refine lv_icmp_ge (tgt := 95) hx hb dR_init_79 (by decide) (fun c => absurd ((nI_leI (a := 100) (by omega) (by omega)).mp c) (by omega)) (fun c_79 => ?_)
    refine s_aload_n (x := some x) hx hb dR_init_82 rfl (lv_at hl 1 rfl) ?_
    refine s_getr hC hW gc_R iw_R 6 (by decide) uw_78 rfl ((f_fill_sh _ _ _ _).trans hX) (v := some ex) ((f_fill_r _ _ _ _ _ _).trans eex) dR_init_83 ?_
    refine lv_iload_n hx hb dR_init_86 rfl (lv_at hl 0 rfl) ?_
    refine lv_iconst (v := (-1)) hx hb dR_init_87 (by decide) ?_
    refine k_iast hC hW ((f_fill_sh _ _ _ _).trans sex) rfl rfl (by decide) i rfl (by omega) dR_init_88 (fun H locs hW => ?_)
    refine lv_iinc (v := nI (i + 1)) (lv' := [(2, .int (nI (i + 1))), (0, va_rf (some x)), (1, .int d)]) hx hb dR_init_89 hl (k := 0) rfl (nI_1 _) (by decide) rfl (fun ls hl => ?_)
    refine lv_goto (tgt := 76) hx hb dR_init_92 (by decide) ?_
    exact ih (i + 1) (by omega) ls hl H locs hW

set_option maxHeartbeats 4000000 in
set_option maxRecDepth 100000 in
theorem c_R_init (l : Launch) (G : gs_G) (S : gs_S) (sz : Nat) (x : Nat) (d : Int32) (hX : g_sh S x = some (.inl 2)) : Met l yR_init (kR_init :: gU) { frames := 2, cells := 9, slots := 834, locals := 33 } (g_Pc G S sz [va_rf (some x), .int d]) (g_Qv G S sz (fun S' => ∃ pa ow fv ex q h pl bb va : Nat, i_Rf S x pa ow fv ex q h pl bb va ∧ S' = i_R S x pa ow fv ex q h pl bb va d)) 9 834 (g_A S sz) := by
  refine s_head (by decide) (Nat.le_of_ble_eq_true rfl) ?_
  intro p e s m below meth c ls hsz hC hr hlocks hnm hl hW
  subst hsz
  obtain ⟨hx, hb, hml, hown, hts⟩ := id hC
  have hl : lv_has ls 3 [(0, va_rf (some x)), (1, .int d)] := hl
  refine s_aload_n (x := some x) hx hb dR_init_0 rfl (lv_at hl 0 rfl) ?_
  refine W.objInit hx hb hown (hts _ uw_15) (hts _ uw_16) (hts _ uw_17) rfl (by rw [hml]; exact hl.1) rfl dR_init_1 (Nat.le_of_ble_eq_true rfl) (Nat.le_of_ble_eq_true rfl) ?_
  refine W.eq (g2 := F0 m 4 ls []) rfl ?_
  refine s_aload_n (x := some x) hx hb dR_init_4 rfl (lv_at hl 0 rfl) ?_
  refine lv_bipush (v := 61) hx hb dR_init_5 (by decide) ?_
  refine s_newQ (n := 61) hC hW 0 rfl rfl uw_18 hW.1.2.1 (by decide) (by decide) (by decide) (Nat.le_of_ble_eq_true rfl) (Nat.le_of_ble_eq_true rfl) dR_init_7 (fun q7 H f7 hW => ?_)
  refine s_putr (v := some q7) hC hW gc_R iw_R 1 (by decide) uw_73 (Or.inr ⟨rfl, hnm, rfl⟩) (g_nra _) (g_fta _) rfl (sh_nA hX f7) dR_init_10 (fun H locs hW => ?_)
  refine s_aload_n (x := some x) hx hb dR_init_13 rfl (lv_at hl 0 rfl) ?_
  refine lv_sipush (v := 200) hx hb dR_init_14 (by decide) ?_
  refine s_newQ (n := 200) hC hW 1 rfl rfl uw_18 hW.1.2.1 (by decide) (by decide) (by decide) (Nat.le_of_ble_eq_true rfl) (Nat.le_of_ble_eq_true rfl) dR_init_17 (fun q17 H f17 hW => ?_)
  refine s_putr (v := some q17) hC hW gc_R iw_R 3 (by decide) uw_75 (Or.inr ⟨rfl, hnm, rfl⟩) (g_nra _) (g_fta _) rfl (sh_nA (sh_nA hX f7) f17) dR_init_20 (fun H locs hW => ?_)
  refine s_aload_n (x := some x) hx hb dR_init_23 rfl (lv_at hl 0 rfl) ?_
  refine lv_sipush (v := 200) hx hb dR_init_24 (by decide) ?_
  refine s_newL (n := 200) hC hW 2 rfl rfl uw_63 (by decide) (by decide) (by decide) (Nat.le_of_ble_eq_true rfl) (Nat.le_of_ble_eq_true rfl) dR_init_27 (fun q27 H f27 hW => ?_)
  refine s_putr (v := some q27) hC hW gc_R iw_R 4 (by decide) uw_76 (Or.inr ⟨rfl, hnm, rfl⟩) (g_nra _) (g_fta _) rfl (sh_nA (sh_nA (sh_nA hX f7) f17) f27) dR_init_29 (fun H locs hW => ?_)
  refine s_aload_n (x := some x) hx hb dR_init_32 rfl (lv_at hl 0 rfl) ?_
  refine lv_bipush (v := 100) hx hb dR_init_33 (by decide) ?_
  refine s_newI (n := 100) hC hW 3 rfl rfl uw_64 (by decide) (by decide) (by decide) (Nat.le_of_ble_eq_true rfl) (Nat.le_of_ble_eq_true rfl) dR_init_35 (fun q35 H f35 hW => ?_)
  refine s_putr (v := some q35) hC hW gc_R iw_R 6 (by decide) uw_78 (Or.inr ⟨rfl, hnm, rfl⟩) (g_nra _) (g_fta _) rfl (sh_nA (sh_nA (sh_nA (sh_nA hX f7) f17) f27) f35) dR_init_37 (fun H locs hW => ?_)
  refine s_aload_n (x := some x) hx hb dR_init_40 rfl (lv_at hl 0 rfl) ?_
  refine s_new hC hW gc_L iw_L uw_20 uw_21 uw_2 gd_L (Nat.le_of_ble_eq_true rfl) (Nat.le_of_ble_eq_true rfl) dR_init_41 (fun q41 H f41 hW => ?_)
  refine lv_dup hx hb dR_init_44 rfl ?_
  refine s_null hx hb dR_init_45 ?_
  refine s_callv hW (s_runI (n := 1) (As := [va_rf none]) (rest := [va_rf (some q41), va_rf (some x)]) hC (c_L_init l G (p_new (p_r (p_newA (p_r (p_newA (p_r (p_newA (p_r (p_newA S 0 61 q7) 2 1 x (some q7)) 1 200 q17) 2 3 x (some q17)) 2 200 q27) 2 4 x (some q27)) 3 100 q35) 2 6 x (some q35)) 0 q41) H.size q41 none g_sh_new) uc_L_init uw_22 uw_23 uw_2 rfl rfl rfl (by decide +kernel) ⟨by decide, by decide⟩ (g_preS hW (.ref q41 :: [va_rf none])) rfl hl.1 rfl (Nat.le_of_ble_eq_true rfl) dR_init_46 ⟨Nat.le_of_ble_eq_true rfl, Nat.le_of_ble_eq_true rfl⟩) (fun S46 H locs hp46 hW => ?_)
  obtain ⟨h46, pl46, bb46, va46, hf46, hS46⟩ := hp46
  subst hS46
  refine s_putr (v := some q41) hC hW gc_R iw_R 7 (by decide) uw_79 (Or.inr ⟨rfl, hnm, rfl⟩) (g_nr _) (g_ft _) rfl (sh_iL (be := none) (sh_nO (sh_nA (sh_nA (sh_nA (sh_nA hX f7) f17) f27) f35) f41) hf46) dR_init_49 (fun H locs hW => ?_)
  refine s_aload_n (x := some x) hx hb dR_init_52 rfl (lv_at hl 0 rfl) ?_
  refine s_aload_n (x := some x) hx hb dR_init_53 rfl (lv_at hl 0 rfl) ?_
  refine s_getr hC hW gc_R iw_R 7 (by decide) uw_79 rfl (sh_iL (be := none) (sh_nO (sh_nA (sh_nA (sh_nA (sh_nA hX f7) f17) f27) f35) f41) hf46) (v := some q41) (by simp [x_gs]) dR_init_54 ?_
  refine s_putr (v := some q41) hC hW gc_R iw_R 8 (by decide) uw_80 (Or.inl rfl) (g_nr _) (g_ft _) rfl (sh_iL (be := none) (sh_nO (sh_nA (sh_nA (sh_nA (sh_nA hX f7) f17) f27) f35) f41) hf46) dR_init_57 (fun H locs hW => ?_)
  refine s_aload_n (x := some x) hx hb dR_init_60 rfl (lv_at hl 0 rfl) ?_
  refine lv_iconst (v := 0) hx hb dR_init_61 (by decide) ?_
  refine lv_iload_n hx hb dR_init_62 rfl (lv_at hl 1 rfl) ?_
  refine lv_ldc (v := 65536) hx hb hown (hts _ uw_65) dR_init_63 ?_
  refine va_mmin (x := d) (y := 65536) hx hb (hml.trans hl.1.symm) hown (hts _ uw_66) (hts _ uw_67) (hts _ uw_3) (hts _ uw_68) (Nat.le_of_ble_eq_true rfl) (Nat.le_of_ble_eq_true rfl) (Nat.le_of_ble_eq_true rfl) (Nat.le_of_ble_eq_true rfl) dR_init_65 ?_
  refine va_mmax (x := 0) (y := (if 65536 < d then 65536 else d)) hx hb (hml.trans hl.1.symm) hown (hts _ uw_69) (hts _ uw_70) (hts _ uw_3) (hts _ uw_71) (Nat.le_of_ble_eq_true rfl) (Nat.le_of_ble_eq_true rfl) (Nat.le_of_ble_eq_true rfl) (Nat.le_of_ble_eq_true rfl) dR_init_68 ?_
  refine s_puti hC hW gc_R iw_R 0 (by decide) uw_72 (Or.inr ⟨rfl, hnm, rfl⟩) rfl rfl rfl (sh_iL (be := none) (sh_nO (sh_nA (sh_nA (sh_nA (sh_nA hX f7) f17) f27) f35) f41) hf46) dR_init_71 (fun H locs hW => ?_)
  refine lv_iconst (v := 0) hx hb dR_init_74 (by decide) ?_
  refine lv_istore_n (lv' := [(2, .int 0), (0, va_rf (some x)), (1, .int d)]) hx hb dR_init_75 rfl hl (by decide) rfl (fun ls hl => ?_)
  exact lp_Rinit l G S (i_R6 S x q7 q17 q27 q35 q41 h46 pl46 bb46 va46 d) x q35 d _ ⟨q7, q17, q27, q35, q41, h46, pl46, bb46, va46, ⟨f7, f17, f27, f35, f41, hf46⟩, rfl⟩ (sh_iL (be := none) (sh_nO (sh_nA (sh_nA (sh_nA (sh_nA hX f7) f17) f27) f35) f41) hf46) (by rw [show g_r (i_R6 S x q7 q17 q27 q35 q41 h46 pl46 bb46 va46 d) 2 6 x = g_r (n_L (i_R4 S x q7 q17 q27 q35) q41 none h46 pl46 bb46 va46) 2 6 x from rfl, n_L_r 2 6 (fun z => by rw [← z] at f41; exact absurd ((sh_nA (S := i_R3 S x q7 q17 q27) (sh_nA (S := i_R2 S x q7 q17) (sh_nA (S := i_R1 S x q7) (sh_nA hX f7) f17) f27) f35).symm.trans f41) (by simp))]; simp [i_R4, x_gs]) (sh_iL (be := none) (sh_nO g_sh_newA f41) hf46) hC hr hlocks 100 0 (by omega) ls hl _ _ hW
