/-! L.begin -/
def f_nul (S : gs_S) (h : Nat) : Nat → gs_S
  | 0 => S
  | k + 1 => p_ar (f_nul S h k) 6 h k none
theorem f_nul_sh (S : gs_S) (h k b : Nat) : g_sh (f_nul S h k) b = g_sh S b := by induction k with
  | zero => rfl
  | succ k ih => exact ih
theorem f_nul_r (S : gs_S) (h k c j b : Nat) : g_r (f_nul S h k) c j b = g_r S c j b := by induction k with
  | zero => rfl
  | succ k ih => exact ih
theorem f_nul_i (S : gs_S) (h k c j b : Nat) : g_i (f_nul S h k) c j b = g_i S c j b := by induction k with
  | zero => rfl
  | succ k ih => exact ih
theorem wt_nul {S : gs_S} (hw : w_t S) (h : Nat) : ∀ k : Nat, w_t (f_nul S h k) := by
  intro k
  induction k with
  | zero => exact hw
  | succ k ih => exact wt_par ih (fun _ _ z => by cases z) (fun z => absurd z (by decide)) (fun z => absurd z (by decide))
def f_begin (S : gs_S) (a : Nat) (p : Option Nat) : gs_S := f_nul (p_i (p_r S 0 2 a p) 0 4 a 0) (v_a (g_r S 0 5 a)) 16
theorem wt_begin {S : gs_S} {a : Nat} {p : Option Nat} (hw : w_t S) (hp : t_o S 1 p) : w_t (f_begin S a p) := by
  unfold f_begin
  refine wt_nul (wt_pi (wt_pr hw (fun _ => Or.inr ⟨rfl, hp⟩) (fun z => absurd z (by decide)) (fun z => absurd z (by decide))) (fun _ _ => ⟨0, by omega, rfl⟩) (fun z => absurd z (by decide)) (fun z => absurd z.1 (by decide)) (fun z => absurd z (by decide)) (fun z => absurd z (by decide))) _ 16

set_option maxHeartbeats 4000000 in
set_option maxRecDepth 100000 in
theorem lp_begin (l : Launch) (G : gs_G) (S : gs_S) (a q h : Nat) (ha : g_sh S a = some (.inl 0)) (eh : g_r S 0 5 a = some h) (sh_ : g_sh S h = some (.inr (6, 16))) {p : Program} {e : Env} {s : State} {m : MethodId} {below : List Frame} {meth : Method} {c : Code} (hC : CallFix p m c cL_begin 3 s #[va_rf (some a), va_rf (some q)] gU yL_begin.cls) (hr : meth.sig.returnType = none) (hlocks : meth.locks = false) :
    ∀ (k : Nat) (i : Nat), i + k = 16 → ∀ (ls : Array Slot), lv_has ls 3 [(2, .int (nI i)), (0, va_rf (some a)), (1, va_rf (some q))] → ∀ (H : Heap) (locs : List Loc), g_W G (g_A S s.heap.size) s (f_nul (p_i (p_r S 0 2 a (some q)) 0 4 a 0) h i) H locs → W p l e { frames := 0, cells := 0, slots := 0, locals := 0 } s m #[va_rf (some a), va_rf (some q)] below meth c H locs 0 0 (MQ below (g_Qv G S s.heap.size (fun S' => S' = f_begin S a (some q))) #[va_rf (some a), va_rf (some q)] s 0 0 (g_A S s.heap.size)) (F0 m 12 ls []) := by
  obtain ⟨hx, hb, hml, hown, hts⟩ := id hC
  intro k
  induction k with
  | zero =>
    intro i  hi ls hl H locs hW
    refine lv_iload_n hx hb dL_begin_12 rfl (lv_at hl 0 rfl) ?_
    refine lv_bipush (v := 16) hx hb dL_begin_13 (by decide) ?_
    refine lv_icmp_ge (tgt := 31) hx hb dL_begin_15 (by decide) (fun c_15 => ?_) (fun c => absurd ((nI_leI (a := 16) (by omega) (by omega)).mpr (by omega)) c)
    obtain rfl : i = 16 := by omega
    exact s_vret hC hr hlocks hW dL_begin_31 (by rw [f_begin, eh]; rfl)
  | succ k ih =>
    intro i  hi ls hl H locs hW
    refine lv_iload_n hx hb dL_begin_12 rfl (lv_at hl 0 rfl) ?_
    refine lv_bipush (v := 16) hx hb dL_begin_13 (by decide) ?_
    refine lv_icmp_ge (tgt := 31) hx hb dL_begin_15 (by decide) (fun c => absurd ((nI_leI (a := 16) (by omega) (by omega)).mp c) (by omega)) (fun c_15 => ?_)
    refine s_aload_n (x := some a) hx hb dL_begin_18 rfl (lv_at hl 1 rfl) ?_
    refine s_getr hC hW gc_L iw_L 5 (by decide) uw_36 rfl ((f_nul_sh _ _ _ _).trans ha) (v := some h) ((f_nul_r _ _ _ _ _ _).trans eh) dL_begin_19 ?_
    refine lv_iload_n hx hb dL_begin_22 rfl (lv_at hl 0 rfl) ?_
    refine s_null hx hb dL_begin_23 ?_
    refine k_aast (x := none) hC hW gc_L ((f_nul_sh _ _ _ _).trans sh_) rfl rfl (by decide) (fun _ q => by cases q) i rfl (by omega) dL_begin_24 (fun H locs hW => ?_)
    refine lv_iinc (v := nI (i + 1)) (lv' := [(2, .int (nI (i + 1))), (0, va_rf (some a)), (1, va_rf (some q))]) hx hb dL_begin_25 hl (k := 0) rfl (nI_1 _) (by decide) rfl (fun ls hl => ?_)
    refine lv_goto (tgt := 12) hx hb dL_begin_28 (by decide) ?_
    exact ih (i + 1) (by omega) ls hl H locs hW

set_option maxHeartbeats 4000000 in
set_option maxRecDepth 100000 in
theorem c_L_begin (l : Launch) (G : gs_G) (S : gs_S) (sz : Nat) (a q : Nat) (hWT : w_t S) (ha : g_sh S a = some (.inl 0)) (hq : g_sh S q = some (.inl 1)) : Met l yL_begin (kL_begin :: gU) { frames := 0, cells := 0, slots := 0, locals := 0 } (g_Pc G S sz [va_rf (some a), va_rf (some q)]) (g_Qv G S sz (fun S' => S' = f_begin S a (some q))) 0 0 (g_A S sz) := by
  refine s_head (by decide) (Nat.le_of_ble_eq_true rfl) ?_
  intro p e s m below meth c ls hsz hC hr hlocks hnm hl hW
  subst hsz
  obtain ⟨hx, hb, hml, hown, hts⟩ := id hC
  have hl : lv_has ls 3 [(0, va_rf (some a)), (1, va_rf (some q))] := hl
  refine s_aload_n (x := some a) hx hb dL_begin_0 rfl (lv_at hl 0 rfl) ?_
  refine s_aload_n (x := some q) hx hb dL_begin_1 rfl (lv_at hl 1 rfl) ?_
  refine s_putr (v := some q) hC hW gc_L iw_L 2 (by decide) uw_31 (Or.inl rfl) (g_nr _) (g_ft _) rfl ha dL_begin_2 (fun H locs hW => ?_)
  refine s_aload_n (x := some a) hx hb dL_begin_5 rfl (lv_at hl 0 rfl) ?_
  refine lv_iconst (v := 0) hx hb dL_begin_6 (by decide) ?_
  refine s_puti hC hW gc_L iw_L 4 (by decide) uw_34 (Or.inl rfl) rfl rfl rfl ha dL_begin_7 (fun H locs hW => ?_)
  refine lv_iconst (v := 0) hx hb dL_begin_10 (by decide) ?_
  refine lv_istore_n (lv' := [(2, .int 0), (0, va_rf (some a)), (1, va_rf (some q))]) hx hb dL_begin_11 rfl hl (by decide) rfl (fun ls hl => ?_)
  obtain ⟨h, eh, sh_⟩ := w_holders hWT ha
  exact lp_begin l G S a q h ha eh sh_ hC hr hlocks 16 0 (by omega) ls hl _ _ hW

/-! R.makeFormals -/
theorem f_copy_sh (S : gs_S) (a j b : Nat) : g_sh (f_copy S a j) b = g_sh S b := by unfold f_copy; split <;> rfl
theorem f_copy_r (S : gs_S) (a j c k b : Nat) : g_r (f_copy S a j) c k b = g_r S c k b := by unfold f_copy; split <;> rfl
theorem f_copy_i (S : gs_S) (a j c k b : Nat) : g_i (f_copy S a j) c k b = g_i S c k b := by unfold f_copy; split <;> rfl
def f_cv (lv fh lb fb : Nat) : Nat → Nat → gs_S → gs_S
  | 0, _, T => T
  | k + 1, i, T => f_cv lv fh lb fb k (i + 1) (if g_ai (p_ai T 8 lb i (g_ai T 5 fb i)) 4 fh i &&& 1 = 0 then p_ai T 8 lb i (g_ai T 5 fb i) else f_copy (p_ai T 8 lb i (g_ai T 5 fb i)) lv i)
def f_cvs (S : gs_S) (lv a : Nat) : gs_S := f_cv lv (v_a (g_r S 1 4 a)) (v_a (g_r S 0 7 lv)) (v_a (g_r S 1 5 a)) (g_i S 1 6 a).toNatClampNeg 0 S

set_option maxHeartbeats 4000000 in
set_option maxRecDepth 100000 in
theorem lp_cv (l : Launch) (G : gs_G) (S : gs_S) (lv a n fh lb fb : Nat) (hL : g_sh S lv = some (.inl 0)) (ha : g_sh S a = some (.inl 1)) (hn : n ≤ 16) (sfh : g_sh S fh = some (.inr (4, 16))) (slb : g_sh S lb = some (.inr (8, 16))) (sfb : g_sh S fb = some (.inr (5, 16))) {p : Program} {e : Env} {s : State} {m : MethodId} {below : List Frame} {meth : Method} {c : Code} (hC : CallFix p m c cR_makeFormals 3 s #[va_rf (some lv), va_rf (some a)] gU yR_makeFormals.cls) (hr : meth.sig.returnType = none) (hlocks : meth.locks = false) :
    ∀ (k : Nat) (i : Nat) (T : gs_S), i + k = n → w_t T → (∀ b : Nat, g_sh T b = g_sh S b) → g_i T 1 6 a = nI n → g_r T 1 4 a = some fh → g_r T 0 7 lv = some lb → g_r T 1 5 a = some fb → f_cv lv fh lb fb n 0 S = f_cv lv fh lb fb k i T → ∀ (ls : Array Slot), lv_has ls 3 [(2, .int (nI i)), (0, va_rf (some lv)), (1, va_rf (some a))] → ∀ (H : Heap) (locs : List Loc), g_W G (g_A S s.heap.size) s T H locs → W p l e { frames := 1, cells := 0, slots := 0, locals := 22 } s m #[va_rf (some lv), va_rf (some a)] below meth c H locs 0 0 (MQ below (g_Qv G S s.heap.size (fun S' => S' = f_cv lv fh lb fb n 0 S)) #[va_rf (some lv), va_rf (some a)] s 0 0 (g_A S s.heap.size)) (F0 m 2 ls []) := by
  obtain ⟨hx, hb, hml, hown, hts⟩ := id hC
  intro k
  induction k with
  | zero =>
    intro i  T  hi hT hs en efh elb efb hf ls hl H locs hW
    refine lv_iload_n hx hb dR_makeFormals_2 rfl (lv_at hl 0 rfl) ?_
    refine s_aload_n (x := some a) hx hb dR_makeFormals_3 rfl (lv_at hl 2 rfl) ?_
    refine s_geti hC hW gc_P iw_P 6 (by decide) uw_140 rfl ((hs a).trans ha) (v := nI n) en dR_makeFormals_4 ?_
    refine lv_icmp_ge (tgt := 44) hx hb dR_makeFormals_7 (by decide) (fun c_7 => ?_) (fun c => absurd ((nI_leI (by omega) (by omega)).mpr (by omega)) c)
    exact s_vret hC hr hlocks hW dR_makeFormals_44 (by rw [hf]; rfl)
  | succ k ih =>
    intro i  T  hi hT hs en efh elb efb hf ls hl H locs hW
    refine lv_iload_n hx hb dR_makeFormals_2 rfl (lv_at hl 0 rfl) ?_
    refine s_aload_n (x := some a) hx hb dR_makeFormals_3 rfl (lv_at hl 2 rfl) ?_
    refine s_geti hC hW gc_P iw_P 6 (by decide) uw_140 rfl ((hs a).trans ha) (v := nI n) en dR_makeFormals_4 ?_
    refine lv_icmp_ge (tgt := 44) hx hb dR_makeFormals_7 (by decide) (fun c => absurd ((nI_leI (by omega) (by omega)).mp c) (by omega)) (fun c_7 => ?_)
    refine s_aload_n (x := some lv) hx hb dR_makeFormals_10 rfl (lv_at hl 1 rfl) ?_
    refine s_getr hC hW gc_L iw_L 7 (by decide) uw_41 rfl ((hs lv).trans hL) (v := some lb) elb dR_makeFormals_11 ?_
    refine lv_iload_n hx hb dR_makeFormals_14 rfl (lv_at hl 0 rfl) ?_
    refine s_aload_n (x := some a) hx hb dR_makeFormals_15 rfl (lv_at hl 2 rfl) ?_
    refine s_getr hC hW gc_P iw_P 5 (by decide) uw_139 rfl ((hs a).trans ha) (v := some fb) efb dR_makeFormals_16 ?_
    refine lv_iload_n hx hb dR_makeFormals_19 rfl (lv_at hl 0 rfl) ?_
    refine k_iald hC hW ((hs fb).trans sfb) rfl rfl (by decide) i rfl (by omega) rfl dR_makeFormals_20 ?_
    refine k_iast hC hW ((hs lb).trans slb) rfl rfl (by decide) i rfl (by omega) dR_makeFormals_21 (fun H locs hW => ?_)
    refine s_aload_n (x := some a) hx hb dR_makeFormals_22 rfl (lv_at hl 2 rfl) ?_
    refine s_getr hC hW gc_P iw_P 4 (by decide) uw_137 rfl ((hs a).trans ha) (v := some fh) efh dR_makeFormals_23 ?_
    refine lv_iload_n hx hb dR_makeFormals_26 rfl (lv_at hl 0 rfl) ?_
    refine k_iald hC hW ((hs fh).trans sfh) rfl rfl (by decide) i rfl (by omega) rfl dR_makeFormals_27 ?_
    refine lv_iconst (v := 1) hx hb dR_makeFormals_28 (by decide) ?_
    refine lv_iand hx hb dR_makeFormals_29 ?_
    refine lv_if_eq (tgt := 38) hx hb dR_makeFormals_30 (by decide) (fun c_30 => ?_) (fun c_30 => ?_)
    · skip
      refine lv_iinc (v := nI (i + 1)) (lv' := [(2, .int (nI (i + 1))), (0, va_rf (some lv)), (1, va_rf (some a))]) hx hb dR_makeFormals_38 hl (k := 0) rfl (nI_1 _) (by decide) rfl (fun ls hl => ?_)
      refine lv_goto (tgt := 2) hx hb dR_makeFormals_41 (by decide) ?_
      have hT1 : w_t (p_ai T 8 lb i (g_ai T 5 fb i)) := wt_pai hT (fun z => absurd z (by decide))
      exact ih (i + 1) (p_ai T 8 lb i (g_ai T 5 fb i)) (by omega) hT1 hs en efh elb efb (by rw [hf, f_cv, if_pos c_30]) ls hl H locs hW
    · skip
      refine s_aload_n (x := some lv) hx hb dR_makeFormals_33 rfl (lv_at hl 1 rfl) ?_
      refine lv_iload_n hx hb dR_makeFormals_34 rfl (lv_at hl 0 rfl) ?_
      refine s_callv hW (s_runV (n := 1) (As := [.int (nI i)]) (rest := []) hC (c_L_copy l G (p_ai T 8 lb i (g_ai T 5 fb i)) H.size lv i hT ((hs lv).trans hL) (by omega)) uc_L_copy uw_238 uw_239 uw_240 uw_2 rfl rfl (by decide +kernel) ⟨by decide, by decide⟩ (g_preV hW gc_L ((hs lv).trans hL) [.int (nI i)]) rfl hl.1 rfl (Nat.le_of_ble_eq_true rfl) dR_makeFormals_35 ⟨Nat.le_of_ble_eq_true rfl, Nat.le_of_ble_eq_true rfl⟩) (fun S35 H locs hp35 hW => ?_)
      subst hp35
      refine lv_iinc (v := nI (i + 1)) (lv' := [(2, .int (nI (i + 1))), (0, va_rf (some lv)), (1, va_rf (some a))]) hx hb dR_makeFormals_38 hl (k := 0) rfl (nI_1 _) (by decide) rfl (fun ls hl => ?_)
      refine lv_goto (tgt := 2) hx hb dR_makeFormals_41 (by decide) ?_
      have hT1 : w_t (p_ai T 8 lb i (g_ai T 5 fb i)) := wt_pai hT (fun z => absurd z (by decide))
      exact ih (i + 1) (f_copy (p_ai T 8 lb i (g_ai T 5 fb i)) lv i) (by omega) (wt_copy hT1 ((hs lv).trans hL) (by omega)) (fun b => (f_copy_sh (p_ai T 8 lb i (g_ai T 5 fb i)) lv i b).trans (hs b)) ((f_copy_i (p_ai T 8 lb i (g_ai T 5 fb i)) lv i _ _ _).trans en) ((f_copy_r (p_ai T 8 lb i (g_ai T 5 fb i)) lv i _ _ _).trans efh) ((f_copy_r (p_ai T 8 lb i (g_ai T 5 fb i)) lv i _ _ _).trans elb) ((f_copy_r (p_ai T 8 lb i (g_ai T 5 fb i)) lv i _ _ _).trans efb) (by rw [hf, f_cv, if_neg c_30]) ls hl H locs hW

set_option maxHeartbeats 4000000 in
set_option maxRecDepth 100000 in
theorem c_R_makeFormals (l : Launch) (G : gs_G) (S : gs_S) (sz : Nat) (lv a : Nat) (hWT : w_t S) (hL : g_sh S lv = some (.inl 0)) (ha : g_sh S a = some (.inl 1)) : Met l yR_makeFormals (kR_makeFormals :: gU) { frames := 1, cells := 0, slots := 0, locals := 22 } (g_Pc G S sz [va_rf (some lv), va_rf (some a)]) (g_Qv G S sz (fun S' => S' = f_cvs S lv a)) 0 0 (g_A S sz) := by
  refine s_head (by decide) (Nat.le_of_ble_eq_true rfl) ?_
  intro p e s m below meth c ls hsz hC hr hlocks hnm hl hW
  subst hsz
  obtain ⟨hx, hb, hml, hown, hts⟩ := id hC
  have hl : lv_has ls 3 [(0, va_rf (some lv)), (1, va_rf (some a))] := hl
  refine lv_iconst (v := 0) hx hb dR_makeFormals_0 (by decide) ?_
  refine lv_istore_n (lv' := [(2, .int 0), (0, va_rf (some lv)), (1, va_rf (some a))]) hx hb dR_makeFormals_1 rfl hl (by decide) rfl (fun ls hl => ?_)
  obtain ⟨n, hn, en⟩ := w_formals hWT ha
  obtain ⟨fh, efh, sfh⟩ := w_formalHow hWT ha
  obtain ⟨lb, elb, slb⟩ := w_bytes hWT hL
  obtain ⟨fb, efb, sfb⟩ := w_formalBytes hWT ha
  have e1 : (fun (S1 : gs_S) => S1 = f_cvs S lv a) = (fun S1 => S1 = f_cv lv fh lb fb n 0 S) := by funext S1; rw [f_cvs, efh, elb, efb, en, nI_clamp (by omega)]; rfl
  rw [e1]
  exact lp_cv l G S lv a n fh lb fb hL ha hn sfh slb sfb hC hr hlocks n 0 S (by omega) hWT (fun _ => rfl) en efh elb efb rfl ls hl _ _ hW

/-! R.giveFirstValues -/
def f_gv (S : gs_S) (vd ow fv a n : Nat) : gs_S := (S.1, S.2.1, S.2.2.1, S.2.2.2.1, S.2.2.2.2.1, fun r b j => if r = 9 ∧ b = vd ∧ 16 ≤ j ∧ j < 16 + n ∧ g_ar S 1 ow (j - 16) = some a then g_al S 2 fv (j - 16) else g_al S r b j, S.2.2.2.2.2.2)
theorem f_gv_0 (S : gs_S) (vd ow fv a : Nat) : f_gv S vd ow fv a 0 = S := by
  have h : (fun r b j => if r = 9 ∧ b = vd ∧ 16 ≤ j ∧ j < 16 + 0 ∧ g_ar S 1 ow (j - 16) = some a then g_al S 2 fv (j - 16) else g_al S r b j) = S.2.2.2.2.2.1 := by
    funext r b j
    rw [if_neg (fun z => by omega)]
    rfl
  unfold f_gv
  rw [h]
theorem f_gv_n {S : gs_S} {vd ow fv a n : Nat} (h : ¬ g_ar S 1 ow n = some a) : f_gv S vd ow fv a (n + 1) = f_gv S vd ow fv a n := by
  have e : (fun r b j => if r = 9 ∧ b = vd ∧ 16 ≤ j ∧ j < 16 + (n + 1) ∧ g_ar S 1 ow (j - 16) = some a then g_al S 2 fv (j - 16) else g_al S r b j) = (fun r b j => if r = 9 ∧ b = vd ∧ 16 ≤ j ∧ j < 16 + n ∧ g_ar S 1 ow (j - 16) = some a then g_al S 2 fv (j - 16) else g_al S r b j) := by
    funext r b j
    by_cases hj : j = 16 + n
    · subst hj
      rw [if_neg (fun z => h (by have := z.2.2.2.2; rwa [Nat.add_sub_cancel_left] at this)), if_neg (fun z => by omega)]
    · have : (r = 9 ∧ b = vd ∧ 16 ≤ j ∧ j < 16 + (n + 1) ∧ g_ar S 1 ow (j - 16) = some a) ↔ (r = 9 ∧ b = vd ∧ 16 ≤ j ∧ j < 16 + n ∧ g_ar S 1 ow (j - 16) = some a) := ⟨fun z => ⟨z.1, z.2.1, z.2.2.1, by omega, z.2.2.2.2⟩, fun z => ⟨z.1, z.2.1, z.2.2.1, by omega, z.2.2.2.2⟩⟩
      simp only [this]
  unfold f_gv
  rw [e]
theorem f_gv_y {S : gs_S} {vd ow fv a n : Nat} (h : g_ar S 1 ow n = some a) : f_gv S vd ow fv a (n + 1) = p_al (f_gv S vd ow fv a n) 9 vd (16 + n) (g_al S 2 fv n) := by
  have e : (fun r b j => if r = 9 ∧ b = vd ∧ 16 ≤ j ∧ j < 16 + (n + 1) ∧ g_ar S 1 ow (j - 16) = some a then g_al S 2 fv (j - 16) else g_al S r b j) = u_3 (fun r b j => if r = 9 ∧ b = vd ∧ 16 ≤ j ∧ j < 16 + n ∧ g_ar S 1 ow (j - 16) = some a then g_al S 2 fv (j - 16) else g_al S r b j) 9 vd (16 + n) (g_al S 2 fv n) := by
    funext r b j
    unfold u_3
    by_cases hc : r = 9 ∧ b = vd ∧ j = 16 + n
    · obtain ⟨rfl, rfl, rfl⟩ := hc
      rw [if_pos ⟨rfl, rfl, by omega, by omega, by rw [Nat.add_sub_cancel_left]; exact h⟩, if_pos ⟨rfl, rfl, rfl⟩, Nat.add_sub_cancel_left]
    · rw [if_neg hc]
      have : (r = 9 ∧ b = vd ∧ 16 ≤ j ∧ j < 16 + (n + 1) ∧ g_ar S 1 ow (j - 16) = some a) ↔ (r = 9 ∧ b = vd ∧ 16 ≤ j ∧ j < 16 + n ∧ g_ar S 1 ow (j - 16) = some a) := ⟨fun z => ⟨z.1, z.2.1, z.2.2.1, by have : j ≠ 16 + n := fun q => hc ⟨z.1, z.2.1, q⟩; omega, z.2.2.2.2⟩, fun z => ⟨z.1, z.2.1, z.2.2.1, by omega, z.2.2.2.2⟩⟩
      simp only [this]
  unfold f_gv p_al
  rw [e]
def f_give (S : gs_S) (x a : Nat) : gs_S := f_gv S (v_a (g_r S 0 8 (v_a (f_data S x a)))) (v_a (g_r S 2 3 x)) (v_a (g_r S 2 4 x)) a (g_i S 2 5 x).toNatClampNeg
theorem wt_give {S : gs_S} {x a : Nat} (h : w_t S) : w_t (f_give S x a) := h
theorem f_place_i {S : gs_S} {x i : Nat} (h : i < 2 ^ 30) : f_place S x (nI i) = nI (16 + i) := by
  rw [f_place, if_pos (fml_0 (nI_pos' (by omega)))]
  exact nI_add 16 i

set_option maxHeartbeats 4000000 in
set_option maxRecDepth 100000 in
theorem lp_gv (l : Launch) (G : gs_G) (S : gs_S) (x a d n vd ow fv : Nat) (hWT : w_t S) (hX : g_sh S x = some (.inl 2)) (ha : g_sh S a = some (.inl 1)) (hd : g_sh S d = some (.inl 0)) (hn : n ≤ 200) (en : g_i S 2 5 x = nI n) (eow : g_r S 2 3 x = some ow) (sow : g_sh S ow = some (.inr (1, 200))) (efv : g_r S 2 4 x = some fv) (sfv : g_sh S fv = some (.inr (2, 200))) (evd : g_r S 0 8 d = some vd) (svd : g_sh S vd = some (.inr (9, 216))) {p : Program} {e : Env} {s : State} {m : MethodId} {below : List Frame} {meth : Method} {c : Code} (hC : CallFix p m c cR_giveFirstValues 4 s #[va_rf (some x), va_rf (some a)] gU yR_giveFirstValues.cls) (hr : meth.sig.returnType = none) (hlocks : meth.locks = false) :
    ∀ (k : Nat) (i : Nat), i + k = n → ∀ (ls : Array Slot), lv_has ls 4 [(3, .int (nI i)), (2, va_rf (some d)), (0, va_rf (some x)), (1, va_rf (some a))] → ∀ (H : Heap) (locs : List Loc), g_W G (g_A S s.heap.size) s (f_gv S vd ow fv a i) H locs → W p l e { frames := 2, cells := 0, slots := 0, locals := 43 } s m #[va_rf (some x), va_rf (some a)] below meth c H locs 0 0 (MQ below (g_Qv G S s.heap.size (fun S' => S' = f_gv S vd ow fv a n)) #[va_rf (some x), va_rf (some a)] s 0 0 (g_A S s.heap.size)) (F0 m 8 ls []) := by
  obtain ⟨hx, hb, hml, hown, hts⟩ := id hC
  intro k
  induction k with
  | zero =>
    intro i  hi ls hl H locs hW
    refine lv_iload_n hx hb dR_giveFirstValues_8 rfl (lv_at hl 0 rfl) ?_
    refine s_aload_n (x := some x) hx hb dR_giveFirstValues_9 rfl (lv_at hl 2 rfl) ?_
    refine s_geti hC hW gc_R iw_R 5 (by decide) uw_77 rfl hX (v := nI n) en dR_giveFirstValues_10 ?_
    refine lv_icmp_ge (tgt := 48) hx hb dR_giveFirstValues_13 (by decide) (fun c_13 => ?_) (fun c => absurd ((nI_leI (by omega) (by omega)).mpr (by omega)) c)
    obtain rfl : i = n := by omega
    exact s_vret hC hr hlocks hW dR_giveFirstValues_48 rfl
  | succ k ih =>
    intro i  hi ls hl H locs hW
    refine lv_iload_n hx hb dR_giveFirstValues_8 rfl (lv_at hl 0 rfl) ?_
    refine s_aload_n (x := some x) hx hb dR_giveFirstValues_9 rfl (lv_at hl 2 rfl) ?_
    refine s_geti hC hW gc_R iw_R 5 (by decide) uw_77 rfl hX (v := nI n) en dR_giveFirstValues_10 ?_
    refine lv_icmp_ge (tgt := 48) hx hb dR_giveFirstValues_13 (by decide) (fun c => absurd ((nI_leI (by omega) (by omega)).mp c) (by omega)) (fun c_13 => ?_)
    refine s_aload_n (x := some x) hx hb dR_giveFirstValues_16 rfl (lv_at hl 2 rfl) ?_
    refine s_getr hC hW gc_R iw_R 3 (by decide) uw_75 rfl hX (v := some ow) eow dR_giveFirstValues_17 ?_
    refine lv_iload_n hx hb dR_giveFirstValues_20 rfl (lv_at hl 0 rfl) ?_
    obtain ⟨r21, er21⟩ : ∃ r : Option Nat, g_ar (f_gv S vd ow fv a i) 1 ow i = r := ⟨_, rfl⟩
    refine k_aald hC hW sow rfl rfl (by decide) i rfl (by omega) (v := r21) er21 dR_giveFirstValues_21 ?_
    refine s_aload_n (x := some a) hx hb dR_giveFirstValues_22 rfl (lv_at hl 3 rfl) ?_
    refine lv_acmp_ne (rx := r21) (ry := some a) (tgt := 42) hx hb dR_giveFirstValues_23 (by decide) (fun c_23 => ?_) (fun c_23 => ?_)
    · skip
      refine lv_iinc (v := nI (i + 1)) (lv' := [(3, .int (nI (i + 1))), (2, va_rf (some d)), (0, va_rf (some x)), (1, va_rf (some a))]) hx hb dR_giveFirstValues_42 hl (k := 0) rfl (nI_1 _) (by decide) rfl (fun ls hl => ?_)
      refine lv_goto (tgt := 8) hx hb dR_giveFirstValues_45 (by decide) ?_
      have hW : g_W G (g_A S s.heap.size) s (f_gv S vd ow fv a (i + 1)) H locs := by rw [f_gv_n (S := S) (fun z => c_23 (er21.symm.trans z))]; exact hW
      exact ih (i + 1) (by omega) ls hl H locs hW
    · skip
      refine s_aload_n (x := some d) hx hb dR_giveFirstValues_26 rfl (lv_at hl 1 rfl) ?_
      refine s_getr hC hW gc_L iw_L 8 (by decide) uw_43 rfl hd (v := some vd) evd dR_giveFirstValues_27 ?_
      refine s_aload_n (x := some x) hx hb dR_giveFirstValues_30 rfl (lv_at hl 2 rfl) ?_
      refine lv_iload_n hx hb dR_giveFirstValues_31 rfl (lv_at hl 0 rfl) ?_
      refine s_calli hW (s_runV (n := 1) (As := [.int (nI i)]) (rest := [va_rf (some vd)]) hC (c_R_placeOf l G (f_gv S vd ow fv a i) H.size x (nI i) hWT hX) uc_R_placeOf uw_170 uw_172 us_R_placeOf uw_1 rfl rfl (by decide +kernel) ⟨by decide, by decide⟩ (g_preV hW gc_R hX [.int (nI i)]) rfl hl.1 rfl (Nat.le_of_ble_eq_true rfl) dR_giveFirstValues_32 ⟨Nat.le_of_ble_eq_true rfl, Nat.le_of_ble_eq_true rfl⟩) (fun q32 S32 H locs hp32 hW => ?_)
      obtain ⟨hs32, rfl⟩ := hp32
      replace hs32 := hs32.symm
      subst hs32
      refine s_aload_n (x := some x) hx hb dR_giveFirstValues_35 rfl (lv_at hl 2 rfl) ?_
      refine s_getr hC hW gc_R iw_R 4 (by decide) uw_76 rfl hX (v := some fv) efv dR_giveFirstValues_36 ?_
      refine lv_iload_n hx hb dR_giveFirstValues_39 rfl (lv_at hl 0 rfl) ?_
      refine k_lald hC hW sfv rfl rfl (by decide) i rfl (by omega) rfl dR_giveFirstValues_40 ?_
      refine k_last hC hW svd rfl rfl (by decide) (16 + i) (f_place_i (by omega)) (by omega) dR_giveFirstValues_41 (fun H locs hW => ?_)
      refine lv_iinc (v := nI (i + 1)) (lv' := [(3, .int (nI (i + 1))), (2, va_rf (some d)), (0, va_rf (some x)), (1, va_rf (some a))]) hx hb dR_giveFirstValues_42 hl (k := 0) rfl (nI_1 _) (by decide) rfl (fun ls hl => ?_)
      refine lv_goto (tgt := 8) hx hb dR_giveFirstValues_45 (by decide) ?_
      have hW : g_W G (g_A S s.heap.size) s (f_gv S vd ow fv a (i + 1)) H locs := by rw [f_gv_y (S := S) (er21.trans c_23)]; exact hW
      exact ih (i + 1) (by omega) ls hl H locs hW

set_option maxHeartbeats 4000000 in
set_option maxRecDepth 100000 in
theorem c_R_giveFirstValues (l : Launch) (G : gs_G) (S : gs_S) (sz : Nat) (x a : Nat) (hWT : w_t S) (hX : g_sh S x = some (.inl 2)) (ha : g_sh S a = some (.inl 1)) : Met l yR_giveFirstValues (kR_giveFirstValues :: gU) { frames := 2, cells := 0, slots := 0, locals := 43 } (g_Pc G S sz [va_rf (some x), va_rf (some a)]) (g_Qv G S sz (fun S' => S' = f_give S x a)) 0 0 (g_A S sz) := by
  refine s_head (by decide) (Nat.le_of_ble_eq_true rfl) ?_
  intro p e s m below meth c ls hsz hC hr hlocks hnm hl hW
  subst hsz
  obtain ⟨hx, hb, hml, hown, hts⟩ := id hC
  have hl : lv_has ls 4 [(0, va_rf (some x)), (1, va_rf (some a))] := hl
  refine s_aload_n (x := some x) hx hb dR_giveFirstValues_0 rfl (lv_at hl 0 rfl) ?_
  refine s_aload_n (x := some a) hx hb dR_giveFirstValues_1 rfl (lv_at hl 1 rfl) ?_
  refine s_callq hW (s_runV (n := 1) (As := [va_rf (some a)]) (rest := []) hC (c_R_dataOf l G S s.heap.size x a hWT hX ha) uc_R_dataOf uw_226 uw_228 us_R_dataOf uw_1 rfl rfl (by decide +kernel) ⟨by decide, by decide⟩ (g_preV hW gc_R hX [va_rf (some a)]) rfl hl.1 rfl (Nat.le_of_ble_eq_true rfl) dR_giveFirstValues_2 ⟨Nat.le_of_ble_eq_true rfl, Nat.le_of_ble_eq_true rfl⟩) (fun rq2 S2 H locs hp2 hW => ?_)
  obtain ⟨hs2, erq2⟩ := hp2
  replace hs2 := hs2.symm
  subst hs2
  obtain ⟨d, ed, hd⟩ := t_data hWT hX ha
  obtain rfl : rq2 = some d := erq2.trans ed
  refine s_astore_n (x := some d) (lv' := [(2, va_rf (some d)), (0, va_rf (some x)), (1, va_rf (some a))]) hx hb dR_giveFirstValues_5 rfl hl (by decide) rfl (fun ls hl => ?_)
  refine lv_iconst (v := 0) hx hb dR_giveFirstValues_6 (by decide) ?_
  refine lv_istore_n (lv' := [(3, .int 0), (2, va_rf (some d)), (0, va_rf (some x)), (1, va_rf (some a))]) hx hb dR_giveFirstValues_7 rfl hl (by decide) rfl (fun ls hl => ?_)
  obtain ⟨n, hn, en⟩ := w_cellCount hWT hX
  obtain ⟨ow, eow, sow⟩ := w_owners hWT hX
  obtain ⟨fv, efv, sfv⟩ := w_firstValues hWT hX
  obtain ⟨vd, evd, svd⟩ := w_values hWT hd
  have e1 : (fun (S1 : gs_S) => S1 = f_give S x a) = (fun S1 => S1 = f_gv S vd ow fv a n) := by funext S1; rw [f_give, ed, eow, efv, en, nI_clamp (by omega)]; simp only [v_a, Option.getD_some, evd]
  rw [e1]
  rw [← f_gv_0 S vd ow fv a] at hW
  exact lp_gv l G S x a d n vd ow fv hWT hX ha hd hn en eow sow efv sfv evd svd hC hr hlocks n 0 (by omega) ls hl _ _ hW
