/-! M.<init>: what has been made so far -/
def i_J (S0 S : gs_S) (y : Nat) (dn : List (Nat × Nat × Nat)) : Prop :=
  (∀ b : Nat, g_sh S0 b ≠ none → g_sh S b = g_sh S0 b) ∧ (∀ b : Nat, g_sh S0 b ≠ none → ∀ r j : Nat, g_ai S r b j = g_ai S0 r b j ∧ g_al S r b j = g_al S0 r b j ∧ g_ar S r b j = g_ar S0 r b j) ∧ (∀ c k b : Nat, ¬ (c = 3 ∧ b = y) → g_i S c k b = g_i S0 c k b ∧ g_r S c k b = g_r S0 c k b) ∧ (∀ c k b : Nat, g_l S c k b = g_l S0 c k b) ∧ (∀ (b : Nat) (z : Nat ⊕ (Nat × Nat)), g_sh S0 b = none → g_sh S b = some z → (∃ r n : Nat, z = .inr (r, n) ∧ 10 ≤ r) ∧ ∀ r j : Nat, g_ai S r b j = 0 ∧ g_al S r b j = 0 ∧ g_ar S r b j = none) ∧ ∀ q ∈ dn, ∃ a : Nat, g_r S 3 q.1 y = some a ∧ g_sh S a = some (.inr (q.2.1, q.2.2)) ∧ g_sh S0 a = none
theorem i_J0 (S : gs_S) (y : Nat) : i_J S S y [] := ⟨fun _ _ => rfl, fun _ _ _ _ => ⟨rfl, rfl, rfl⟩, fun _ _ _ _ => ⟨rfl, rfl⟩, fun _ _ _ => rfl, fun b z h1 h2 => absurd (h1.symm.trans h2) (by simp), fun _ h => absurd h List.not_mem_nil⟩
theorem i_Ji {S0 S : gs_S} {y k : Nat} {v : Int32} {dn : List (Nat × Nat × Nat)} (h : i_J S0 S y dn) : i_J S0 (p_i S 3 k y v) y dn := by
  obtain ⟨h1, h2, h3, h4, h5, h6⟩ := h
  refine ⟨h1, h2, fun c k' b hb => ⟨?_, (h3 c k' b hb).2⟩, h4, h5, h6⟩
  rw [x_g_i_p_i, if_neg (fun z => hb ⟨z.1, z.2.2⟩)]
  exact (h3 c k' b hb).1
theorem i_Js {S0 S : gs_S} {y k r n a : Nat} {dn : List (Nat × Nat × Nat)} (h : i_J S0 S y dn) (hr : 10 ≤ r) (ha : g_sh S a = none) (hk : ∀ q ∈ dn, q.1 ≠ k) : i_J S0 (p_r (p_newA S r n a) 3 k y (some a)) y ((k, r, n) :: dn) := by
  obtain ⟨h1, h2, h3, h4, h5, h6⟩ := h
  have ha0 : g_sh S0 a = none := by
    cases hz : g_sh S0 a with
    | none => rfl
    | some z => exact absurd ((h1 a (by rw [hz]; simp)).symm.trans ha) (by rw [hz]; simp)
  refine ⟨fun b hb => ?_, fun b hb r' j => ?_, fun c k' b hb => ⟨(h3 c k' b hb).1, ?_⟩, h4, fun b z hb hz => ?_, fun q hq => ?_⟩
  · have hba : b ≠ a := fun z => hb (by rw [z]; exact ha0)
    rw [x_sh_p_r, x_sh_newA, if_neg hba]; exact h1 b hb
  · have hba : b ≠ a := fun z => hb (by rw [z]; exact ha0)
    rw [x_g_ai_p_r, x_g_al_p_r, x_g_ar_p_r, x_g_ai_newA, x_g_al_newA, x_g_ar_newA, if_neg hba, if_neg hba, if_neg hba]; exact h2 b hb r' j
  · rw [x_g_r_p_r, if_neg (fun z => hb ⟨z.1, z.2.2⟩)]; exact (h3 c k' b hb).2
  · rw [x_sh_p_r, x_sh_newA] at hz
    split at hz
    · rename_i c
      subst c
      cases hz
      exact ⟨⟨r, n, rfl, hr⟩, fun r' j => by rw [x_g_ai_p_r, x_g_al_p_r, x_g_ar_p_r, x_g_ai_newA, x_g_al_newA, x_g_ar_newA, if_pos rfl, if_pos rfl, if_pos rfl]; exact ⟨rfl, rfl, rfl⟩⟩
    · rename_i c
      obtain ⟨z1, z2⟩ := h5 b z hb hz
      exact ⟨z1, fun r' j => by rw [x_g_ai_p_r, x_g_al_p_r, x_g_ar_p_r, x_g_ai_newA, x_g_al_newA, x_g_ar_newA, if_neg c, if_neg c, if_neg c]; exact z2 r' j⟩
  · rcases List.mem_cons.mp hq with rfl | hq
    · exact ⟨a, by rw [x_g_r_p_r, if_pos ⟨rfl, rfl, rfl⟩], by rw [x_sh_p_r, x_sh_newA, if_pos rfl], ha0⟩
    · obtain ⟨a', e1, e2, e3⟩ := h6 q hq
      have hne : a' ≠ a := fun z => by rw [z] at e2; exact absurd (e2.symm.trans ha) (by simp)
      exact ⟨a', by rw [x_g_r_p_r, if_neg (fun z => hk q hq z.2.1)]; exact e1, by rw [x_sh_p_r, x_sh_newA, if_neg hne]; exact e2, e3⟩
def f_depthM (d : Int32) : Int32 := if 0 ≤ d then (if d ≤ 65536 then d else 65536) else 0

def m_arrs : List (Nat × Nat × Nat) := [(27, 28, 16), (26, 27, 16), (21, 26, 9600), (20, 25, 600), (19, 24, 600), (18, 23, 600), (16, 22, 60000), (15, 21, 976), (14, 20, 976), (12, 19, 200), (11, 18, 200), (10, 17, 200), (9, 16, 200), (7, 15, 61), (6, 14, 61), (5, 13, 61), (4, 12, 61), (3, 11, 61), (2, 10, 61)]
def i_M (S : gs_S) (y : Nat) (d : Int32) (S' : gs_S) : Prop := i_J S S' y m_arrs ∧ g_i S' 3 17 y = 200 ∧ g_i S' 3 1 y = f_depthM d ∧ ∀ k : Nat, k ≠ 17 → k ≠ 1 → g_i S' 3 k y = g_i S 3 k y

set_option maxHeartbeats 4000000 in
set_option maxRecDepth 100000 in
theorem c_M_init (l : Launch) (G : gs_G) (S : gs_S) (sz : Nat) (y : Nat) (d : Int32) (hY : g_sh S y = some (.inl 3)) : Met l yM_init (kM_init :: gU) { frames := 1, cells := 19, slots := 74550, locals := 12 } (g_Pc G S sz [va_rf (some y), .int d]) (g_Qv G S sz (i_M S y d)) 19 74550 (g_A S sz) := by
  refine s_head (by decide) (Nat.le_of_ble_eq_true rfl) ?_
  intro p e s m below meth c ls hsz hC hr hlocks hnm hl hW
  subst hsz
  obtain ⟨hx, hb, hml, hown, hts⟩ := id hC
  have hl : lv_has ls 2 [(0, va_rf (some y)), (1, .int d)] := hl
  refine s_aload_n (x := some y) hx hb dM_init_0 rfl (lv_at hl 0 rfl) ?_
  refine W.objInit hx hb hown (hts _ uw_387) (hts _ uw_16) (hts _ uw_17) rfl (by rw [hml]; exact hl.1) rfl dM_init_1 (Nat.le_of_ble_eq_true rfl) (Nat.le_of_ble_eq_true rfl) ?_
  refine W.eq (g2 := F0 m 4 ls []) rfl ?_
  have hJ := i_J0 S y
  refine s_aload_n (x := some y) hx hb dM_init_4 rfl (lv_at hl 0 rfl) ?_
  refine lv_bipush (v := 61) hx hb dM_init_5 (by decide) ?_
  refine s_newI (n := 61) hC hW 10 rfl rfl uw_64 (by decide) (by decide) (by decide) (Nat.le_of_ble_eq_true rfl) (Nat.le_of_ble_eq_true rfl) dM_init_7 (fun q7 H f7 hW => ?_)
  refine s_putr (v := some q7) hC hW gc_M iw_M 2 (by decide) uw_392 (Or.inr ⟨rfl, hnm, rfl⟩) (g_nra _) (g_fta _) rfl (sh_nA hY f7) dM_init_9 (fun H locs hW => ?_)
  have hJ := i_Js (k := 2) (r := 10) (n := 61) hJ (by decide) f7 (by decide)
  refine s_aload_n (x := some y) hx hb dM_init_12 rfl (lv_at hl 0 rfl) ?_
  refine lv_bipush (v := 61) hx hb dM_init_13 (by decide) ?_
  refine s_newI (n := 61) hC hW 11 rfl rfl uw_64 (by decide) (by decide) (by decide) (Nat.le_of_ble_eq_true rfl) (Nat.le_of_ble_eq_true rfl) dM_init_15 (fun q15 H f15 hW => ?_)
  refine s_putr (v := some q15) hC hW gc_M iw_M 3 (by decide) uw_393 (Or.inr ⟨rfl, hnm, rfl⟩) (g_nra _) (g_fta _) rfl (sh_nA (sh_nA hY f7) f15) dM_init_17 (fun H locs hW => ?_)
  have hJ := i_Js (k := 3) (r := 11) (n := 61) hJ (by decide) f15 (by decide)
  refine s_aload_n (x := some y) hx hb dM_init_20 rfl (lv_at hl 0 rfl) ?_
  refine lv_bipush (v := 61) hx hb dM_init_21 (by decide) ?_
  refine s_newI (n := 61) hC hW 12 rfl rfl uw_64 (by decide) (by decide) (by decide) (Nat.le_of_ble_eq_true rfl) (Nat.le_of_ble_eq_true rfl) dM_init_23 (fun q23 H f23 hW => ?_)
  refine s_putr (v := some q23) hC hW gc_M iw_M 4 (by decide) uw_394 (Or.inr ⟨rfl, hnm, rfl⟩) (g_nra _) (g_fta _) rfl (sh_nA (sh_nA (sh_nA hY f7) f15) f23) dM_init_25 (fun H locs hW => ?_)
  have hJ := i_Js (k := 4) (r := 12) (n := 61) hJ (by decide) f23 (by decide)
  refine s_aload_n (x := some y) hx hb dM_init_28 rfl (lv_at hl 0 rfl) ?_
  refine lv_bipush (v := 61) hx hb dM_init_29 (by decide) ?_
  refine s_newI (n := 61) hC hW 13 rfl rfl uw_64 (by decide) (by decide) (by decide) (Nat.le_of_ble_eq_true rfl) (Nat.le_of_ble_eq_true rfl) dM_init_31 (fun q31 H f31 hW => ?_)
  refine s_putr (v := some q31) hC hW gc_M iw_M 5 (by decide) uw_395 (Or.inr ⟨rfl, hnm, rfl⟩) (g_nra _) (g_fta _) rfl (sh_nA (sh_nA (sh_nA (sh_nA hY f7) f15) f23) f31) dM_init_33 (fun H locs hW => ?_)
  have hJ := i_Js (k := 5) (r := 13) (n := 61) hJ (by decide) f31 (by decide)
  refine s_aload_n (x := some y) hx hb dM_init_36 rfl (lv_at hl 0 rfl) ?_
  refine lv_bipush (v := 61) hx hb dM_init_37 (by decide) ?_
  refine s_newI (n := 61) hC hW 14 rfl rfl uw_64 (by decide) (by decide) (by decide) (Nat.le_of_ble_eq_true rfl) (Nat.le_of_ble_eq_true rfl) dM_init_39 (fun q39 H f39 hW => ?_)
  refine s_putr (v := some q39) hC hW gc_M iw_M 6 (by decide) uw_396 (Or.inr ⟨rfl, hnm, rfl⟩) (g_nra _) (g_fta _) rfl (sh_nA (sh_nA (sh_nA (sh_nA (sh_nA hY f7) f15) f23) f31) f39) dM_init_41 (fun H locs hW => ?_)
  have hJ := i_Js (k := 6) (r := 14) (n := 61) hJ (by decide) f39 (by decide)
  refine s_aload_n (x := some y) hx hb dM_init_44 rfl (lv_at hl 0 rfl) ?_
  refine lv_bipush (v := 61) hx hb dM_init_45 (by decide) ?_
  refine s_newZ (n := 61) hC hW 15 rfl rfl uw_478 (by decide) (by decide) (by decide) (Nat.le_of_ble_eq_true rfl) (Nat.le_of_ble_eq_true rfl) dM_init_47 (fun q47 H f47 hW => ?_)
  refine s_putr (v := some q47) hC hW gc_M iw_M 7 (by decide) uw_397 (Or.inr ⟨rfl, hnm, rfl⟩) (g_nra _) (g_fta _) rfl (sh_nA (sh_nA (sh_nA (sh_nA (sh_nA (sh_nA hY f7) f15) f23) f31) f39) f47) dM_init_49 (fun H locs hW => ?_)
  have hJ := i_Js (k := 7) (r := 15) (n := 61) hJ (by decide) f47 (by decide)
  refine s_aload_n (x := some y) hx hb dM_init_52 rfl (lv_at hl 0 rfl) ?_
  refine lv_sipush (v := 200) hx hb dM_init_53 (by decide) ?_
  refine s_newI (n := 200) hC hW 16 rfl rfl uw_64 (by decide) (by decide) (by decide) (Nat.le_of_ble_eq_true rfl) (Nat.le_of_ble_eq_true rfl) dM_init_56 (fun q56 H f56 hW => ?_)
  refine s_putr (v := some q56) hC hW gc_M iw_M 9 (by decide) uw_399 (Or.inr ⟨rfl, hnm, rfl⟩) (g_nra _) (g_fta _) rfl (sh_nA (sh_nA (sh_nA (sh_nA (sh_nA (sh_nA (sh_nA hY f7) f15) f23) f31) f39) f47) f56) dM_init_58 (fun H locs hW => ?_)
  have hJ := i_Js (k := 9) (r := 16) (n := 200) hJ (by decide) f56 (by decide)
  refine s_aload_n (x := some y) hx hb dM_init_61 rfl (lv_at hl 0 rfl) ?_
  refine lv_sipush (v := 200) hx hb dM_init_62 (by decide) ?_
  refine s_newI (n := 200) hC hW 17 rfl rfl uw_64 (by decide) (by decide) (by decide) (Nat.le_of_ble_eq_true rfl) (Nat.le_of_ble_eq_true rfl) dM_init_65 (fun q65 H f65 hW => ?_)
  refine s_putr (v := some q65) hC hW gc_M iw_M 10 (by decide) uw_400 (Or.inr ⟨rfl, hnm, rfl⟩) (g_nra _) (g_fta _) rfl (sh_nA (sh_nA (sh_nA (sh_nA (sh_nA (sh_nA (sh_nA (sh_nA hY f7) f15) f23) f31) f39) f47) f56) f65) dM_init_67 (fun H locs hW => ?_)
  have hJ := i_Js (k := 10) (r := 17) (n := 200) hJ (by decide) f65 (by decide)
  refine s_aload_n (x := some y) hx hb dM_init_70 rfl (lv_at hl 0 rfl) ?_
  refine lv_sipush (v := 200) hx hb dM_init_71 (by decide) ?_
  refine s_newI (n := 200) hC hW 18 rfl rfl uw_64 (by decide) (by decide) (by decide) (Nat.le_of_ble_eq_true rfl) (Nat.le_of_ble_eq_true rfl) dM_init_74 (fun q74 H f74 hW => ?_)
  refine s_putr (v := some q74) hC hW gc_M iw_M 11 (by decide) uw_401 (Or.inr ⟨rfl, hnm, rfl⟩) (g_nra _) (g_fta _) rfl (sh_nA (sh_nA (sh_nA (sh_nA (sh_nA (sh_nA (sh_nA (sh_nA (sh_nA hY f7) f15) f23) f31) f39) f47) f56) f65) f74) dM_init_76 (fun H locs hW => ?_)
  have hJ := i_Js (k := 11) (r := 18) (n := 200) hJ (by decide) f74 (by decide)
  refine s_aload_n (x := some y) hx hb dM_init_79 rfl (lv_at hl 0 rfl) ?_
  refine lv_sipush (v := 200) hx hb dM_init_80 (by decide) ?_
  refine s_newL (n := 200) hC hW 19 rfl rfl uw_63 (by decide) (by decide) (by decide) (Nat.le_of_ble_eq_true rfl) (Nat.le_of_ble_eq_true rfl) dM_init_83 (fun q83 H f83 hW => ?_)
  refine s_putr (v := some q83) hC hW gc_M iw_M 12 (by decide) uw_402 (Or.inr ⟨rfl, hnm, rfl⟩) (g_nra _) (g_fta _) rfl (sh_nA (sh_nA (sh_nA (sh_nA (sh_nA (sh_nA (sh_nA (sh_nA (sh_nA (sh_nA hY f7) f15) f23) f31) f39) f47) f56) f65) f74) f83) dM_init_85 (fun H locs hW => ?_)
  have hJ := i_Js (k := 12) (r := 19) (n := 200) hJ (by decide) f83 (by decide)
  refine s_aload_n (x := some y) hx hb dM_init_88 rfl (lv_at hl 0 rfl) ?_
  refine lv_sipush (v := 976) hx hb dM_init_89 (by decide) ?_
  refine s_newI (n := 976) hC hW 20 rfl rfl uw_64 (by decide) (by decide) (by decide) (Nat.le_of_ble_eq_true rfl) (Nat.le_of_ble_eq_true rfl) dM_init_92 (fun q92 H f92 hW => ?_)
  refine s_putr (v := some q92) hC hW gc_M iw_M 14 (by decide) uw_404 (Or.inr ⟨rfl, hnm, rfl⟩) (g_nra _) (g_fta _) rfl (sh_nA (sh_nA (sh_nA (sh_nA (sh_nA (sh_nA (sh_nA (sh_nA (sh_nA (sh_nA (sh_nA hY f7) f15) f23) f31) f39) f47) f56) f65) f74) f83) f92) dM_init_94 (fun H locs hW => ?_)
  have hJ := i_Js (k := 14) (r := 20) (n := 976) hJ (by decide) f92 (by decide)
  refine s_aload_n (x := some y) hx hb dM_init_97 rfl (lv_at hl 0 rfl) ?_
  refine lv_sipush (v := 976) hx hb dM_init_98 (by decide) ?_
  refine s_newI (n := 976) hC hW 21 rfl rfl uw_64 (by decide) (by decide) (by decide) (Nat.le_of_ble_eq_true rfl) (Nat.le_of_ble_eq_true rfl) dM_init_101 (fun q101 H f101 hW => ?_)
  refine s_putr (v := some q101) hC hW gc_M iw_M 15 (by decide) uw_405 (Or.inr ⟨rfl, hnm, rfl⟩) (g_nra _) (g_fta _) rfl (sh_nA (sh_nA (sh_nA (sh_nA (sh_nA (sh_nA (sh_nA (sh_nA (sh_nA (sh_nA (sh_nA (sh_nA hY f7) f15) f23) f31) f39) f47) f56) f65) f74) f83) f92) f101) dM_init_103 (fun H locs hW => ?_)
  have hJ := i_Js (k := 15) (r := 21) (n := 976) hJ (by decide) f101 (by decide)
  refine s_aload_n (x := some y) hx hb dM_init_106 rfl (lv_at hl 0 rfl) ?_
  refine lv_ldc (v := 60000) hx hb hown (hts _ uw_388) dM_init_107 ?_
  refine s_newL (n := 60000) hC hW 22 rfl rfl uw_63 (by decide) (by decide) (by decide) (Nat.le_of_ble_eq_true rfl) (Nat.le_of_ble_eq_true rfl) dM_init_109 (fun q109 H f109 hW => ?_)
  refine s_putr (v := some q109) hC hW gc_M iw_M 16 (by decide) uw_406 (Or.inr ⟨rfl, hnm, rfl⟩) (g_nra _) (g_fta _) rfl (sh_nA (sh_nA (sh_nA (sh_nA (sh_nA (sh_nA (sh_nA (sh_nA (sh_nA (sh_nA (sh_nA (sh_nA (sh_nA hY f7) f15) f23) f31) f39) f47) f56) f65) f74) f83) f92) f101) f109) dM_init_111 (fun H locs hW => ?_)
  have hJ := i_Js (k := 16) (r := 22) (n := 60000) hJ (by decide) f109 (by decide)
  refine s_aload_n (x := some y) hx hb dM_init_114 rfl (lv_at hl 0 rfl) ?_
  refine lv_sipush (v := 200) hx hb dM_init_115 (by decide) ?_
  refine s_puti hC hW gc_M iw_M 17 (by decide) uw_407 (Or.inl rfl) rfl rfl rfl (sh_nA (sh_nA (sh_nA (sh_nA (sh_nA (sh_nA (sh_nA (sh_nA (sh_nA (sh_nA (sh_nA (sh_nA (sh_nA hY f7) f15) f23) f31) f39) f47) f56) f65) f74) f83) f92) f101) f109) dM_init_118 (fun H locs hW => ?_)
  have hJ := i_Ji (k := 17) (v := 200) hJ
  refine s_aload_n (x := some y) hx hb dM_init_121 rfl (lv_at hl 0 rfl) ?_
  refine lv_sipush (v := 600) hx hb dM_init_122 (by decide) ?_
  refine s_newI (n := 600) hC hW 23 rfl rfl uw_64 (by decide) (by decide) (by decide) (Nat.le_of_ble_eq_true rfl) (Nat.le_of_ble_eq_true rfl) dM_init_125 (fun q125 H f125 hW => ?_)
  refine s_putr (v := some q125) hC hW gc_M iw_M 18 (by decide) uw_408 (Or.inr ⟨rfl, hnm, rfl⟩) (g_nra _) (g_fta _) rfl (sh_nA (sh_nA (sh_nA (sh_nA (sh_nA (sh_nA (sh_nA (sh_nA (sh_nA (sh_nA (sh_nA (sh_nA (sh_nA (sh_nA hY f7) f15) f23) f31) f39) f47) f56) f65) f74) f83) f92) f101) f109) f125) dM_init_127 (fun H locs hW => ?_)
  have hJ := i_Js (k := 18) (r := 23) (n := 600) hJ (by decide) f125 (by decide)
  refine s_aload_n (x := some y) hx hb dM_init_130 rfl (lv_at hl 0 rfl) ?_
  refine lv_sipush (v := 600) hx hb dM_init_131 (by decide) ?_
  refine s_newI (n := 600) hC hW 24 rfl rfl uw_64 (by decide) (by decide) (by decide) (Nat.le_of_ble_eq_true rfl) (Nat.le_of_ble_eq_true rfl) dM_init_134 (fun q134 H f134 hW => ?_)
  refine s_putr (v := some q134) hC hW gc_M iw_M 19 (by decide) uw_409 (Or.inr ⟨rfl, hnm, rfl⟩) (g_nra _) (g_fta _) rfl (sh_nA (sh_nA (sh_nA (sh_nA (sh_nA (sh_nA (sh_nA (sh_nA (sh_nA (sh_nA (sh_nA (sh_nA (sh_nA (sh_nA (sh_nA hY f7) f15) f23) f31) f39) f47) f56) f65) f74) f83) f92) f101) f109) f125) f134) dM_init_136 (fun H locs hW => ?_)
  have hJ := i_Js (k := 19) (r := 24) (n := 600) hJ (by decide) f134 (by decide)
  refine s_aload_n (x := some y) hx hb dM_init_139 rfl (lv_at hl 0 rfl) ?_
  refine lv_sipush (v := 600) hx hb dM_init_140 (by decide) ?_
  refine s_newI (n := 600) hC hW 25 rfl rfl uw_64 (by decide) (by decide) (by decide) (Nat.le_of_ble_eq_true rfl) (Nat.le_of_ble_eq_true rfl) dM_init_143 (fun q143 H f143 hW => ?_)
  refine s_putr (v := some q143) hC hW gc_M iw_M 20 (by decide) uw_410 (Or.inr ⟨rfl, hnm, rfl⟩) (g_nra _) (g_fta _) rfl (sh_nA (sh_nA (sh_nA (sh_nA (sh_nA (sh_nA (sh_nA (sh_nA (sh_nA (sh_nA (sh_nA (sh_nA (sh_nA (sh_nA (sh_nA (sh_nA hY f7) f15) f23) f31) f39) f47) f56) f65) f74) f83) f92) f101) f109) f125) f134) f143) dM_init_145 (fun H locs hW => ?_)
  have hJ := i_Js (k := 20) (r := 25) (n := 600) hJ (by decide) f143 (by decide)
  refine s_aload_n (x := some y) hx hb dM_init_148 rfl (lv_at hl 0 rfl) ?_
  refine lv_sipush (v := 9600) hx hb dM_init_149 (by decide) ?_
  refine s_newI (n := 9600) hC hW 26 rfl rfl uw_64 (by decide) (by decide) (by decide) (Nat.le_of_ble_eq_true rfl) (Nat.le_of_ble_eq_true rfl) dM_init_152 (fun q152 H f152 hW => ?_)
  refine s_putr (v := some q152) hC hW gc_M iw_M 21 (by decide) uw_411 (Or.inr ⟨rfl, hnm, rfl⟩) (g_nra _) (g_fta _) rfl (sh_nA (sh_nA (sh_nA (sh_nA (sh_nA (sh_nA (sh_nA (sh_nA (sh_nA (sh_nA (sh_nA (sh_nA (sh_nA (sh_nA (sh_nA (sh_nA (sh_nA hY f7) f15) f23) f31) f39) f47) f56) f65) f74) f83) f92) f101) f109) f125) f134) f143) f152) dM_init_154 (fun H locs hW => ?_)
  have hJ := i_Js (k := 21) (r := 26) (n := 9600) hJ (by decide) f152 (by decide)
  refine s_aload_n (x := some y) hx hb dM_init_157 rfl (lv_at hl 0 rfl) ?_
  refine lv_bipush (v := 16) hx hb dM_init_158 (by decide) ?_
  refine s_newI (n := 16) hC hW 27 rfl rfl uw_64 (by decide) (by decide) (by decide) (Nat.le_of_ble_eq_true rfl) (Nat.le_of_ble_eq_true rfl) dM_init_160 (fun q160 H f160 hW => ?_)
  refine s_putr (v := some q160) hC hW gc_M iw_M 26 (by decide) uw_416 (Or.inr ⟨rfl, hnm, rfl⟩) (g_nra _) (g_fta _) rfl (sh_nA (sh_nA (sh_nA (sh_nA (sh_nA (sh_nA (sh_nA (sh_nA (sh_nA (sh_nA (sh_nA (sh_nA (sh_nA (sh_nA (sh_nA (sh_nA (sh_nA (sh_nA hY f7) f15) f23) f31) f39) f47) f56) f65) f74) f83) f92) f101) f109) f125) f134) f143) f152) f160) dM_init_162 (fun H locs hW => ?_)
  have hJ := i_Js (k := 26) (r := 27) (n := 16) hJ (by decide) f160 (by decide)
  refine s_aload_n (x := some y) hx hb dM_init_165 rfl (lv_at hl 0 rfl) ?_
  refine lv_bipush (v := 16) hx hb dM_init_166 (by decide) ?_
  refine s_newI (n := 16) hC hW 28 rfl rfl uw_64 (by decide) (by decide) (by decide) (Nat.le_of_ble_eq_true rfl) (Nat.le_of_ble_eq_true rfl) dM_init_168 (fun q168 H f168 hW => ?_)
  refine s_putr (v := some q168) hC hW gc_M iw_M 27 (by decide) uw_417 (Or.inr ⟨rfl, hnm, rfl⟩) (g_nra _) (g_fta _) rfl (sh_nA (sh_nA (sh_nA (sh_nA (sh_nA (sh_nA (sh_nA (sh_nA (sh_nA (sh_nA (sh_nA (sh_nA (sh_nA (sh_nA (sh_nA (sh_nA (sh_nA (sh_nA (sh_nA hY f7) f15) f23) f31) f39) f47) f56) f65) f74) f83) f92) f101) f109) f125) f134) f143) f152) f160) f168) dM_init_170 (fun H locs hW => ?_)
  have hJ := i_Js (k := 27) (r := 28) (n := 16) hJ (by decide) f168 (by decide)
  refine s_aload_n (x := some y) hx hb dM_init_173 rfl (lv_at hl 0 rfl) ?_
  refine lv_iload_n hx hb dM_init_174 rfl (lv_at hl 1 rfl) ?_
  refine lv_if_ge (tgt := 182) hx hb dM_init_175 (by decide) (fun c_175 => ?_) (fun c_175 => ?_)
  · skip
    refine lv_iload_n hx hb dM_init_182 rfl (lv_at hl 1 rfl) ?_
    refine lv_ldc (v := 65536) hx hb hown (hts _ uw_389) dM_init_183 ?_
    refine lv_icmp_le (tgt := 193) hx hb dM_init_185 (by decide) (fun c_185 => ?_) (fun c_185 => ?_)
    · skip
      refine lv_iload_n hx hb dM_init_193 rfl (lv_at hl 1 rfl) ?_
      refine s_puti hC hW gc_M iw_M 1 (by decide) uw_391 (Or.inr ⟨rfl, hnm, rfl⟩) rfl rfl rfl (sh_nA (sh_nA (sh_nA (sh_nA (sh_nA (sh_nA (sh_nA (sh_nA (sh_nA (sh_nA (sh_nA (sh_nA (sh_nA (sh_nA (sh_nA (sh_nA (sh_nA (sh_nA (sh_nA hY f7) f15) f23) f31) f39) f47) f56) f65) f74) f83) f92) f101) f109) f125) f134) f143) f152) f160) f168) dM_init_194 (fun H locs hW => ?_)
      exact s_vret hC hr hlocks hW dM_init_197 ⟨i_Ji hJ, by simp [x_gs], by simp [x_gs, f_depthM, c_175, c_185], fun k h1 h2 => by simp [x_gs, h1, h2]⟩
    · skip
      refine lv_ldc (v := 65536) hx hb hown (hts _ uw_389) dM_init_188 ?_
      refine lv_goto (tgt := 194) hx hb dM_init_190 (by decide) ?_
      refine s_puti hC hW gc_M iw_M 1 (by decide) uw_391 (Or.inr ⟨rfl, hnm, rfl⟩) rfl rfl rfl (sh_nA (sh_nA (sh_nA (sh_nA (sh_nA (sh_nA (sh_nA (sh_nA (sh_nA (sh_nA (sh_nA (sh_nA (sh_nA (sh_nA (sh_nA (sh_nA (sh_nA (sh_nA (sh_nA hY f7) f15) f23) f31) f39) f47) f56) f65) f74) f83) f92) f101) f109) f125) f134) f143) f152) f160) f168) dM_init_194 (fun H locs hW => ?_)
      exact s_vret hC hr hlocks hW dM_init_197 ⟨i_Ji hJ, by simp [x_gs], by simp [x_gs, f_depthM, c_175, c_185], fun k h1 h2 => by simp [x_gs, h1, h2]⟩
  · skip
    refine lv_iconst (v := 0) hx hb dM_init_178 (by decide) ?_
    refine lv_goto (tgt := 194) hx hb dM_init_179 (by decide) ?_
    refine s_puti hC hW gc_M iw_M 1 (by decide) uw_391 (Or.inr ⟨rfl, hnm, rfl⟩) rfl rfl rfl (sh_nA (sh_nA (sh_nA (sh_nA (sh_nA (sh_nA (sh_nA (sh_nA (sh_nA (sh_nA (sh_nA (sh_nA (sh_nA (sh_nA (sh_nA (sh_nA (sh_nA (sh_nA (sh_nA hY f7) f15) f23) f31) f39) f47) f56) f65) f74) f83) f92) f101) f109) f125) f134) f143) f152) f160) f168) dM_init_194 (fun H locs hW => ?_)
    exact s_vret hC hr hlocks hW dM_init_197 ⟨i_Ji hJ, by simp [x_gs], by simp [x_gs, f_depthM, c_175], fun k h1 h2 => by simp [x_gs, h1, h2]⟩
