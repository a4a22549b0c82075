/-! the reference's constructor -/
def N0 (n : Nat) : Mem := fun t _ _ k => if t = 0 then (if k = 1 then nI n else 0) else if t = 2 ∨ t = 3 then (if k < 4 then -1 else 0) else 0
theorem szT {n0 : Int32} {n : Nat} (h : szI n0 = nI n) : (if 2 ≤ n0 then (if n0 ≤ 6 then n0 else 6) else 2) = nI n := by
  rw [← h]
  unfold szI
  by_cases h1 : n0 < 6
  · rw [if_pos h1]
    by_cases h2 : (2 : Int32) < n0
    · rw [if_pos h2, if_pos (Int32.le_of_lt h2), if_pos (Int32.le_of_lt h1)]
    · rw [if_neg h2]
      by_cases h3 : (2 : Int32) ≤ n0
      · rw [if_pos h3, if_pos (Int32.le_of_lt h1)]
        exact Int32.le_antisymm (Int32.not_lt.mp h2) h3
      · rw [if_neg h3]
  · rw [if_neg h1, if_pos (show (2 : Int32) ≤ n0 from Int32.le_trans (by decide) (Int32.not_lt.mp h1)), if_pos (show (2 : Int32) < 6 by decide)]
    by_cases h3 : n0 ≤ 6
    · rw [if_pos h3]
      exact Int32.le_antisymm h3 (Int32.not_lt.mp h1)
    · rw [if_neg h3]
theorem in_Model9 : ∀ w ∈ u_ws R_Model F_Model 24, w ∈ WS := in_Model
set_option maxHeartbeats 8000000 in
set_option maxRecDepth 100000 in
theorem i_Model {l : Launch} {D : va_G} {G : Nat → ClassId} {h n : Nat} {E : Nat → va_E} {n0 : Int32} (hn : 2 ≤ n ∧ n ≤ 6) (hsz : szI n0 = nI n) (he : E 0 = .inr (5, [.int 0, .int 0, .null, .null, .null, .null, .null, .null, .int 0, .int 0, .null, .null, .null, .null, .null, .null, .int 0, .int 0, .int 0, .int 0, .int 0, .int 0, .null, .null])) :
    Met l y_Model_init (wc y_Model_init b_Model_init 3 none) { frames := 1, cells := 14, slots := 2306, locals := 20 } (va_Pc [.ref (h + 0), .int n0] (ctB D G h 1 E)) (ctQ D h 15 (fun E' => ∀ k, k < 15 → E' k = tE (fun k => h + k) G (N0 n) k)) 14 2306 (fun q => h ≤ q) := by
  refine k_metC (by decide) (Nat.le_of_ble_eq_true rfl) ?_
  intro p e s m args below meth c S hin hr hlk hB ls hl
  obtain ⟨hx, hb, hml, hown, hts⟩ := id S
  obtain ⟨hz, hP, hK, hk⟩ := hB
  have hl : lv_has ls 3 [(0, .ref (h + 0)), (1, .int n0)] := hl
  have hS : va_S (fun q => h ≤ q) s.heap s.heap [] := va_S.rf
  refine lv_aload_n hx hb d_Model_init_0 rfl (lv_at hl 0 rfl) ?_
  refine W.objInit hx hb hown (hts _ oi_Model) (hts _ oi_m) (hts _ oi_c) rfl (by rw [hml]; exact hl.1) rfl d_Model_init_1 (Nat.le_of_ble_eq_true rfl) (Nat.le_of_ble_eq_true rfl) ?_
  refine W.eq (g2 := F0 m 4 ls []) rfl ?_
  refine lv_aload_n hx hb d_Model_init_4 rfl (lv_at hl 0 rfl) ?_
  refine lv_bipush (v := 36) hx hb d_Model_init_5 (by decide) ?_
  refine p_newa (atype := .int) (ty := .int) (a0 := (36, .inl (fun _ => 0))) (N' := 36) hx hb (hts _ ac_int) rfl hK hP hz hS 0 rfl (fun q => q) rfl (by decide) (by decide) (by decide) (by decide) (by decide) d_Model_init_7 (fun H hP hz hS => ?_)
  refine p_put (i := 0) (v := .ref (h + 1)) (ty := .array .int) (C := R_Model) (T := F_Model) (N := 24) hx hb hts in_Model t_Model ty_Model nm_Model hown hK hP hz hS (by decide) ((va_up_ne _ _ (by decide)).trans he) rfl 2 (by decide) (hts _ fi_Model_7) rfl (by decide +kernel) rfl rfl (Nat.le_of_ble_eq_true rfl) d_Model_init_9 (fun H locs hP hz hS => ?_)
  obtain ⟨E1, o1, p1, q1, hP⟩ : ∃ X9 : Nat → va_E, X9 0 = .inr (5, [.int 0, .int 0, .ref (h + 1), .null, .null, .null, .null, .null, .int 0, .int 0, .null, .null, .null, .null, .null, .null, .int 0, .int 0, .int 0, .int 0, .int 0, .int 0, .null, .null]) ∧ X9 1 = .inl (G 0, 36, .inl (fun _ => 0)) ∧ (∀ a, a ≠ 0 → a ≠ 1 → X9 a = E a) ∧ va_P D cls (aw h 2 X9) H := ⟨_, va_up_self _ _ _, (va_up_ne _ _ (by decide)).trans (va_up_self _ _ _), fun a h1 h2 => (va_up_ne _ _ h1).trans (va_up_ne _ _ h2), hP⟩
  have hz : H.size = h + 2 := hz
  refine lv_aload_n hx hb d_Model_init_12 rfl (lv_at hl 0 rfl) ?_
  refine lv_iconst (v := 4) hx hb d_Model_init_13 (by decide) ?_
  refine p_newa (atype := .int) (ty := .int) (a0 := (4, .inl (fun _ => 0))) (N' := 4) hx hb (hts _ ac_int) rfl hK hP hz hS 0 rfl (fun q => q) rfl (by decide) (by decide) (by decide) (by decide) (by decide) d_Model_init_14 (fun H hP hz hS => ?_)
  refine p_put (i := 0) (v := .ref (h + 2)) (ty := .array .int) (C := R_Model) (T := F_Model) (N := 24) hx hb hts in_Model t_Model ty_Model nm_Model hown hK hP hz hS (by decide) ((va_up_ne _ _ (by decide)).trans o1) rfl 3 (by decide) (hts _ fi_Model_13) rfl (by decide +kernel) rfl rfl (Nat.le_of_ble_eq_true rfl) d_Model_init_16 (fun H locs hP hz hS => ?_)
  obtain ⟨E2, o2, p2, q2, hP⟩ : ∃ X9 : Nat → va_E, X9 0 = .inr (5, [.int 0, .int 0, .ref (h + 1), .ref (h + 2), .null, .null, .null, .null, .int 0, .int 0, .null, .null, .null, .null, .null, .null, .int 0, .int 0, .int 0, .int 0, .int 0, .int 0, .null, .null]) ∧ X9 2 = .inl (G 0, 4, .inl (fun _ => 0)) ∧ (∀ a, a ≠ 0 → a ≠ 2 → X9 a = E1 a) ∧ va_P D cls (aw h 3 X9) H := ⟨_, va_up_self _ _ _, (va_up_ne _ _ (by decide)).trans (va_up_self _ _ _), fun a h1 h2 => (va_up_ne _ _ h1).trans (va_up_ne _ _ h2), hP⟩
  have hz : H.size = h + 3 := hz
  refine lv_aload_n hx hb d_Model_init_19 rfl (lv_at hl 0 rfl) ?_
  refine lv_iconst (v := 4) hx hb d_Model_init_20 (by decide) ?_
  refine p_newa (atype := .int) (ty := .int) (a0 := (4, .inl (fun _ => 0))) (N' := 4) hx hb (hts _ ac_int) rfl hK hP hz hS 0 rfl (fun q => q) rfl (by decide) (by decide) (by decide) (by decide) (by decide) d_Model_init_21 (fun H hP hz hS => ?_)
  refine p_put (i := 0) (v := .ref (h + 3)) (ty := .array .int) (C := R_Model) (T := F_Model) (N := 24) hx hb hts in_Model t_Model ty_Model nm_Model hown hK hP hz hS (by decide) ((va_up_ne _ _ (by decide)).trans o2) rfl 4 (by decide) (hts _ fi_Model_16) rfl (by decide +kernel) rfl rfl (Nat.le_of_ble_eq_true rfl) d_Model_init_23 (fun H locs hP hz hS => ?_)
  obtain ⟨E3, o3, p3, q3, hP⟩ : ∃ X9 : Nat → va_E, X9 0 = .inr (5, [.int 0, .int 0, .ref (h + 1), .ref (h + 2), .ref (h + 3), .null, .null, .null, .int 0, .int 0, .null, .null, .null, .null, .null, .null, .int 0, .int 0, .int 0, .int 0, .int 0, .int 0, .null, .null]) ∧ X9 3 = .inl (G 0, 4, .inl (fun _ => 0)) ∧ (∀ a, a ≠ 0 → a ≠ 3 → X9 a = E2 a) ∧ va_P D cls (aw h 4 X9) H := ⟨_, va_up_self _ _ _, (va_up_ne _ _ (by decide)).trans (va_up_self _ _ _), fun a h1 h2 => (va_up_ne _ _ h1).trans (va_up_ne _ _ h2), hP⟩
  have hz : H.size = h + 4 := hz
  refine lv_aload_n hx hb d_Model_init_26 rfl (lv_at hl 0 rfl) ?_
  refine lv_bipush (v := 24) hx hb d_Model_init_27 (by decide) ?_
  refine p_newa (atype := .int) (ty := .int) (a0 := (24, .inl (fun _ => 0))) (N' := 24) hx hb (hts _ ac_int) rfl hK hP hz hS 0 rfl (fun q => q) rfl (by decide) (by decide) (by decide) (by decide) (by decide) d_Model_init_29 (fun H hP hz hS => ?_)
  refine p_put (i := 0) (v := .ref (h + 4)) (ty := .array .int) (C := R_Model) (T := F_Model) (N := 24) hx hb hts in_Model t_Model ty_Model nm_Model hown hK hP hz hS (by decide) ((va_up_ne _ _ (by decide)).trans o3) rfl 5 (by decide) (hts _ fi_Model_19) rfl (by decide +kernel) rfl rfl (Nat.le_of_ble_eq_true rfl) d_Model_init_31 (fun H locs hP hz hS => ?_)
  obtain ⟨E4, o4, p4, q4, hP⟩ : ∃ X9 : Nat → va_E, X9 0 = .inr (5, [.int 0, .int 0, .ref (h + 1), .ref (h + 2), .ref (h + 3), .ref (h + 4), .null, .null, .int 0, .int 0, .null, .null, .null, .null, .null, .null, .int 0, .int 0, .int 0, .int 0, .int 0, .int 0, .null, .null]) ∧ X9 4 = .inl (G 0, 24, .inl (fun _ => 0)) ∧ (∀ a, a ≠ 0 → a ≠ 4 → X9 a = E3 a) ∧ va_P D cls (aw h 5 X9) H := ⟨_, va_up_self _ _ _, (va_up_ne _ _ (by decide)).trans (va_up_self _ _ _), fun a h1 h2 => (va_up_ne _ _ h1).trans (va_up_ne _ _ h2), hP⟩
  have hz : H.size = h + 5 := hz
  refine lv_aload_n hx hb d_Model_init_34 rfl (lv_at hl 0 rfl) ?_
  refine lv_sipush (v := 144) hx hb d_Model_init_35 (by decide) ?_
  refine p_newa (atype := .int) (ty := .int) (a0 := (144, .inl (fun _ => 0))) (N' := 144) hx hb (hts _ ac_int) rfl hK hP hz hS 0 rfl (fun q => q) rfl (by decide) (by decide) (by decide) (by decide) (by decide) d_Model_init_38 (fun H hP hz hS => ?_)
  refine p_put (i := 0) (v := .ref (h + 5)) (ty := .array .int) (C := R_Model) (T := F_Model) (N := 24) hx hb hts in_Model t_Model ty_Model nm_Model hown hK hP hz hS (by decide) ((va_up_ne _ _ (by decide)).trans o4) rfl 6 (by decide) (hts _ fi_Model_22) rfl (by decide +kernel) rfl rfl (Nat.le_of_ble_eq_true rfl) d_Model_init_40 (fun H locs hP hz hS => ?_)
  obtain ⟨E5, o5, p5, q5, hP⟩ : ∃ X9 : Nat → va_E, X9 0 = .inr (5, [.int 0, .int 0, .ref (h + 1), .ref (h + 2), .ref (h + 3), .ref (h + 4), .ref (h + 5), .null, .int 0, .int 0, .null, .null, .null, .null, .null, .null, .int 0, .int 0, .int 0, .int 0, .int 0, .int 0, .null, .null]) ∧ X9 5 = .inl (G 0, 144, .inl (fun _ => 0)) ∧ (∀ a, a ≠ 0 → a ≠ 5 → X9 a = E4 a) ∧ va_P D cls (aw h 6 X9) H := ⟨_, va_up_self _ _ _, (va_up_ne _ _ (by decide)).trans (va_up_self _ _ _), fun a h1 h2 => (va_up_ne _ _ h1).trans (va_up_ne _ _ h2), hP⟩
  have hz : H.size = h + 6 := hz
  refine lv_aload_n hx hb d_Model_init_43 rfl (lv_at hl 0 rfl) ?_
  refine lv_sipush (v := 288) hx hb d_Model_init_44 (by decide) ?_
  refine p_newa (atype := .boolean) (ty := .boolean) (a0 := (288, .inl (fun _ => 0))) (N' := 288) hx hb (hts _ ac_boolean) rfl hK hP hz hS 3 rfl (fun q => q) rfl (by decide) (by decide) (by decide) (by decide) (by decide) d_Model_init_47 (fun H hP hz hS => ?_)
  refine p_put (i := 0) (v := .ref (h + 6)) (ty := .array .boolean) (C := R_Model) (T := F_Model) (N := 24) hx hb hts in_Model t_Model ty_Model nm_Model hown hK hP hz hS (by decide) ((va_up_ne _ _ (by decide)).trans o5) rfl 7 (by decide) (hts _ fi_Model_25) rfl (by decide +kernel) rfl rfl (Nat.le_of_ble_eq_true rfl) d_Model_init_49 (fun H locs hP hz hS => ?_)
  obtain ⟨E6, o6, p6, q6, hP⟩ : ∃ X9 : Nat → va_E, X9 0 = .inr (5, [.int 0, .int 0, .ref (h + 1), .ref (h + 2), .ref (h + 3), .ref (h + 4), .ref (h + 5), .ref (h + 6), .int 0, .int 0, .null, .null, .null, .null, .null, .null, .int 0, .int 0, .int 0, .int 0, .int 0, .int 0, .null, .null]) ∧ X9 6 = .inl (G 3, 288, .inl (fun _ => 0)) ∧ (∀ a, a ≠ 0 → a ≠ 6 → X9 a = E5 a) ∧ va_P D cls (aw h 7 X9) H := ⟨_, va_up_self _ _ _, (va_up_ne _ _ (by decide)).trans (va_up_self _ _ _), fun a h1 h2 => (va_up_ne _ _ h1).trans (va_up_ne _ _ h2), hP⟩
  have hz : H.size = h + 7 := hz
  refine lv_aload_n hx hb d_Model_init_52 rfl (lv_at hl 0 rfl) ?_
  refine lv_sipush (v := 240) hx hb d_Model_init_53 (by decide) ?_
  refine p_newa (atype := .int) (ty := .int) (a0 := (240, .inl (fun _ => 0))) (N' := 240) hx hb (hts _ ac_int) rfl hK hP hz hS 0 rfl (fun q => q) rfl (by decide) (by decide) (by decide) (by decide) (by decide) d_Model_init_56 (fun H hP hz hS => ?_)
  refine p_put (i := 0) (v := .ref (h + 7)) (ty := .array .int) (C := R_Model) (T := F_Model) (N := 24) hx hb hts in_Model t_Model ty_Model nm_Model hown hK hP hz hS (by decide) ((va_up_ne _ _ (by decide)).trans o6) rfl 10 (by decide) (hts _ fi_Model_29) rfl (by decide +kernel) rfl rfl (Nat.le_of_ble_eq_true rfl) d_Model_init_58 (fun H locs hP hz hS => ?_)
  obtain ⟨E7, o7, p7, q7, hP⟩ : ∃ X9 : Nat → va_E, X9 0 = .inr (5, [.int 0, .int 0, .ref (h + 1), .ref (h + 2), .ref (h + 3), .ref (h + 4), .ref (h + 5), .ref (h + 6), .int 0, .int 0, .ref (h + 7), .null, .null, .null, .null, .null, .int 0, .int 0, .int 0, .int 0, .int 0, .int 0, .null, .null]) ∧ X9 7 = .inl (G 0, 240, .inl (fun _ => 0)) ∧ (∀ a, a ≠ 0 → a ≠ 7 → X9 a = E6 a) ∧ va_P D cls (aw h 8 X9) H := ⟨_, va_up_self _ _ _, (va_up_ne _ _ (by decide)).trans (va_up_self _ _ _), fun a h1 h2 => (va_up_ne _ _ h1).trans (va_up_ne _ _ h2), hP⟩
  have hz : H.size = h + 8 := hz
  refine lv_aload_n hx hb d_Model_init_61 rfl (lv_at hl 0 rfl) ?_
  refine lv_sipush (v := 240) hx hb d_Model_init_62 (by decide) ?_
  refine p_newa (atype := .int) (ty := .int) (a0 := (240, .inl (fun _ => 0))) (N' := 240) hx hb (hts _ ac_int) rfl hK hP hz hS 0 rfl (fun q => q) rfl (by decide) (by decide) (by decide) (by decide) (by decide) d_Model_init_65 (fun H hP hz hS => ?_)
  refine p_put (i := 0) (v := .ref (h + 8)) (ty := .array .int) (C := R_Model) (T := F_Model) (N := 24) hx hb hts in_Model t_Model ty_Model nm_Model hown hK hP hz hS (by decide) ((va_up_ne _ _ (by decide)).trans o7) rfl 11 (by decide) (hts _ fi_Model_32) rfl (by decide +kernel) rfl rfl (Nat.le_of_ble_eq_true rfl) d_Model_init_67 (fun H locs hP hz hS => ?_)
  obtain ⟨E8, o8, p8, q8, hP⟩ : ∃ X9 : Nat → va_E, X9 0 = .inr (5, [.int 0, .int 0, .ref (h + 1), .ref (h + 2), .ref (h + 3), .ref (h + 4), .ref (h + 5), .ref (h + 6), .int 0, .int 0, .ref (h + 7), .ref (h + 8), .null, .null, .null, .null, .int 0, .int 0, .int 0, .int 0, .int 0, .int 0, .null, .null]) ∧ X9 8 = .inl (G 0, 240, .inl (fun _ => 0)) ∧ (∀ a, a ≠ 0 → a ≠ 8 → X9 a = E7 a) ∧ va_P D cls (aw h 9 X9) H := ⟨_, va_up_self _ _ _, (va_up_ne _ _ (by decide)).trans (va_up_self _ _ _), fun a h1 h2 => (va_up_ne _ _ h1).trans (va_up_ne _ _ h2), hP⟩
  have hz : H.size = h + 9 := hz
  refine lv_aload_n hx hb d_Model_init_70 rfl (lv_at hl 0 rfl) ?_
  refine lv_sipush (v := 240) hx hb d_Model_init_71 (by decide) ?_
  refine p_newa (atype := .int) (ty := .int) (a0 := (240, .inl (fun _ => 0))) (N' := 240) hx hb (hts _ ac_int) rfl hK hP hz hS 0 rfl (fun q => q) rfl (by decide) (by decide) (by decide) (by decide) (by decide) d_Model_init_74 (fun H hP hz hS => ?_)
  refine p_put (i := 0) (v := .ref (h + 9)) (ty := .array .int) (C := R_Model) (T := F_Model) (N := 24) hx hb hts in_Model t_Model ty_Model nm_Model hown hK hP hz hS (by decide) ((va_up_ne _ _ (by decide)).trans o8) rfl 12 (by decide) (hts _ fi_Model_35) rfl (by decide +kernel) rfl rfl (Nat.le_of_ble_eq_true rfl) d_Model_init_76 (fun H locs hP hz hS => ?_)
  obtain ⟨E9, o9, p9, q9, hP⟩ : ∃ X9 : Nat → va_E, X9 0 = .inr (5, [.int 0, .int 0, .ref (h + 1), .ref (h + 2), .ref (h + 3), .ref (h + 4), .ref (h + 5), .ref (h + 6), .int 0, .int 0, .ref (h + 7), .ref (h + 8), .ref (h + 9), .null, .null, .null, .int 0, .int 0, .int 0, .int 0, .int 0, .int 0, .null, .null]) ∧ X9 9 = .inl (G 0, 240, .inl (fun _ => 0)) ∧ (∀ a, a ≠ 0 → a ≠ 9 → X9 a = E8 a) ∧ va_P D cls (aw h 10 X9) H := ⟨_, va_up_self _ _ _, (va_up_ne _ _ (by decide)).trans (va_up_self _ _ _), fun a h1 h2 => (va_up_ne _ _ h1).trans (va_up_ne _ _ h2), hP⟩
  have hz : H.size = h + 10 := hz
  refine lv_aload_n hx hb d_Model_init_79 rfl (lv_at hl 0 rfl) ?_
  refine lv_sipush (v := 240) hx hb d_Model_init_80 (by decide) ?_
  refine p_newa (atype := .int) (ty := .int) (a0 := (240, .inl (fun _ => 0))) (N' := 240) hx hb (hts _ ac_int) rfl hK hP hz hS 0 rfl (fun q => q) rfl (by decide) (by decide) (by decide) (by decide) (by decide) d_Model_init_83 (fun H hP hz hS => ?_)
  refine p_put (i := 0) (v := .ref (h + 10)) (ty := .array .int) (C := R_Model) (T := F_Model) (N := 24) hx hb hts in_Model t_Model ty_Model nm_Model hown hK hP hz hS (by decide) ((va_up_ne _ _ (by decide)).trans o9) rfl 13 (by decide) (hts _ fi_Model_38) rfl (by decide +kernel) rfl rfl (Nat.le_of_ble_eq_true rfl) d_Model_init_85 (fun H locs hP hz hS => ?_)
  obtain ⟨E10, o10, p10, q10, hP⟩ : ∃ X9 : Nat → va_E, X9 0 = .inr (5, [.int 0, .int 0, .ref (h + 1), .ref (h + 2), .ref (h + 3), .ref (h + 4), .ref (h + 5), .ref (h + 6), .int 0, .int 0, .ref (h + 7), .ref (h + 8), .ref (h + 9), .ref (h + 10), .null, .null, .int 0, .int 0, .int 0, .int 0, .int 0, .int 0, .null, .null]) ∧ X9 10 = .inl (G 0, 240, .inl (fun _ => 0)) ∧ (∀ a, a ≠ 0 → a ≠ 10 → X9 a = E9 a) ∧ va_P D cls (aw h 11 X9) H := ⟨_, va_up_self _ _ _, (va_up_ne _ _ (by decide)).trans (va_up_self _ _ _), fun a h1 h2 => (va_up_ne _ _ h1).trans (va_up_ne _ _ h2), hP⟩
  have hz : H.size = h + 11 := hz
  refine lv_aload_n hx hb d_Model_init_88 rfl (lv_at hl 0 rfl) ?_
  refine lv_sipush (v := 240) hx hb d_Model_init_89 (by decide) ?_
  refine p_newa (atype := .int) (ty := .int) (a0 := (240, .inl (fun _ => 0))) (N' := 240) hx hb (hts _ ac_int) rfl hK hP hz hS 0 rfl (fun q => q) rfl (by decide) (by decide) (by decide) (by decide) (by decide) d_Model_init_92 (fun H hP hz hS => ?_)
  refine p_put (i := 0) (v := .ref (h + 11)) (ty := .array .int) (C := R_Model) (T := F_Model) (N := 24) hx hb hts in_Model t_Model ty_Model nm_Model hown hK hP hz hS (by decide) ((va_up_ne _ _ (by decide)).trans o10) rfl 14 (by decide) (hts _ fi_Model_41) rfl (by decide +kernel) rfl rfl (Nat.le_of_ble_eq_true rfl) d_Model_init_94 (fun H locs hP hz hS => ?_)
  obtain ⟨E11, o11, p11, q11, hP⟩ : ∃ X9 : Nat → va_E, X9 0 = .inr (5, [.int 0, .int 0, .ref (h + 1), .ref (h + 2), .ref (h + 3), .ref (h + 4), .ref (h + 5), .ref (h + 6), .int 0, .int 0, .ref (h + 7), .ref (h + 8), .ref (h + 9), .ref (h + 10), .ref (h + 11), .null, .int 0, .int 0, .int 0, .int 0, .int 0, .int 0, .null, .null]) ∧ X9 11 = .inl (G 0, 240, .inl (fun _ => 0)) ∧ (∀ a, a ≠ 0 → a ≠ 11 → X9 a = E10 a) ∧ va_P D cls (aw h 12 X9) H := ⟨_, va_up_self _ _ _, (va_up_ne _ _ (by decide)).trans (va_up_self _ _ _), fun a h1 h2 => (va_up_ne _ _ h1).trans (va_up_ne _ _ h2), hP⟩
  have hz : H.size = h + 12 := hz
  refine lv_aload_n hx hb d_Model_init_97 rfl (lv_at hl 0 rfl) ?_
  refine lv_bipush (v := 6) hx hb d_Model_init_98 (by decide) ?_
  refine p_newa (atype := .int) (ty := .int) (a0 := (6, .inl (fun _ => 0))) (N' := 6) hx hb (hts _ ac_int) rfl hK hP hz hS 0 rfl (fun q => q) rfl (by decide) (by decide) (by decide) (by decide) (by decide) d_Model_init_100 (fun H hP hz hS => ?_)
  refine p_put (i := 0) (v := .ref (h + 12)) (ty := .array .int) (C := R_Model) (T := F_Model) (N := 24) hx hb hts in_Model t_Model ty_Model nm_Model hown hK hP hz hS (by decide) ((va_up_ne _ _ (by decide)).trans o11) rfl 15 (by decide) (hts _ fi_Model_44) rfl (by decide +kernel) rfl rfl (Nat.le_of_ble_eq_true rfl) d_Model_init_102 (fun H locs hP hz hS => ?_)
  obtain ⟨E12, o12, p12, q12, hP⟩ : ∃ X9 : Nat → va_E, X9 0 = .inr (5, [.int 0, .int 0, .ref (h + 1), .ref (h + 2), .ref (h + 3), .ref (h + 4), .ref (h + 5), .ref (h + 6), .int 0, .int 0, .ref (h + 7), .ref (h + 8), .ref (h + 9), .ref (h + 10), .ref (h + 11), .ref (h + 12), .int 0, .int 0, .int 0, .int 0, .int 0, .int 0, .null, .null]) ∧ X9 12 = .inl (G 0, 6, .inl (fun _ => 0)) ∧ (∀ a, a ≠ 0 → a ≠ 12 → X9 a = E11 a) ∧ va_P D cls (aw h 13 X9) H := ⟨_, va_up_self _ _ _, (va_up_ne _ _ (by decide)).trans (va_up_self _ _ _), fun a h1 h2 => (va_up_ne _ _ h1).trans (va_up_ne _ _ h2), hP⟩
  have hz : H.size = h + 13 := hz
  refine lv_aload_n hx hb d_Model_init_105 rfl (lv_at hl 0 rfl) ?_
  refine lv_sipush (v := 300) hx hb d_Model_init_106 (by decide) ?_
  refine p_newa (atype := .int) (ty := .int) (a0 := (300, .inl (fun _ => 0))) (N' := 300) hx hb (hts _ ac_int) rfl hK hP hz hS 0 rfl (fun q => q) rfl (by decide) (by decide) (by decide) (by decide) (by decide) d_Model_init_109 (fun H hP hz hS => ?_)
  refine p_put (i := 0) (v := .ref (h + 13)) (ty := .array .int) (C := R_Model) (T := F_Model) (N := 24) hx hb hts in_Model t_Model ty_Model nm_Model hown hK hP hz hS (by decide) ((va_up_ne _ _ (by decide)).trans o12) rfl 22 (by decide) (hts _ fi_Model_47) rfl (by decide +kernel) rfl rfl (Nat.le_of_ble_eq_true rfl) d_Model_init_111 (fun H locs hP hz hS => ?_)
  obtain ⟨E13, o13, p13, q13, hP⟩ : ∃ X9 : Nat → va_E, X9 0 = .inr (5, [.int 0, .int 0, .ref (h + 1), .ref (h + 2), .ref (h + 3), .ref (h + 4), .ref (h + 5), .ref (h + 6), .int 0, .int 0, .ref (h + 7), .ref (h + 8), .ref (h + 9), .ref (h + 10), .ref (h + 11), .ref (h + 12), .int 0, .int 0, .int 0, .int 0, .int 0, .int 0, .ref (h + 13), .null]) ∧ X9 13 = .inl (G 0, 300, .inl (fun _ => 0)) ∧ (∀ a, a ≠ 0 → a ≠ 13 → X9 a = E12 a) ∧ va_P D cls (aw h 14 X9) H := ⟨_, va_up_self _ _ _, (va_up_ne _ _ (by decide)).trans (va_up_self _ _ _), fun a h1 h2 => (va_up_ne _ _ h1).trans (va_up_ne _ _ h2), hP⟩
  have hz : H.size = h + 14 := hz
  refine lv_aload_n hx hb d_Model_init_114 rfl (lv_at hl 0 rfl) ?_
  refine lv_sipush (v := 300) hx hb d_Model_init_115 (by decide) ?_
  refine p_newa (atype := .int) (ty := .int) (a0 := (300, .inl (fun _ => 0))) (N' := 300) hx hb (hts _ ac_int) rfl hK hP hz hS 0 rfl (fun q => q) rfl (by decide) (by decide) (by decide) (by decide) (by decide) d_Model_init_118 (fun H hP hz hS => ?_)
  refine p_put (i := 0) (v := .ref (h + 14)) (ty := .array .int) (C := R_Model) (T := F_Model) (N := 24) hx hb hts in_Model t_Model ty_Model nm_Model hown hK hP hz hS (by decide) ((va_up_ne _ _ (by decide)).trans o13) rfl 23 (by decide) (hts _ fi_Model_50) rfl (by decide +kernel) rfl rfl (Nat.le_of_ble_eq_true rfl) d_Model_init_120 (fun H locs hP hz hS => ?_)
  obtain ⟨E14, o14, p14, q14, hP⟩ : ∃ X9 : Nat → va_E, X9 0 = .inr (5, [.int 0, .int 0, .ref (h + 1), .ref (h + 2), .ref (h + 3), .ref (h + 4), .ref (h + 5), .ref (h + 6), .int 0, .int 0, .ref (h + 7), .ref (h + 8), .ref (h + 9), .ref (h + 10), .ref (h + 11), .ref (h + 12), .int 0, .int 0, .int 0, .int 0, .int 0, .int 0, .ref (h + 13), .ref (h + 14)]) ∧ X9 14 = .inl (G 0, 300, .inl (fun _ => 0)) ∧ (∀ a, a ≠ 0 → a ≠ 14 → X9 a = E13 a) ∧ va_P D cls (aw h 15 X9) H := ⟨_, va_up_self _ _ _, (va_up_ne _ _ (by decide)).trans (va_up_self _ _ _), fun a h1 h2 => (va_up_ne _ _ h1).trans (va_up_ne _ _ h2), hP⟩
  have hz : H.size = h + 15 := hz
  have F0' : ∀ a, 1 ≤ a → a < 15 → E14 a = tE (fun k => h + k) G (fun _ _ _ _ => 0) a := by
    intro a h1 h2
    rcases (show a = 1 ∨ a = 2 ∨ a = 3 ∨ a = 4 ∨ a = 5 ∨ a = 6 ∨ a = 7 ∨ a = 8 ∨ a = 9 ∨ a = 10 ∨ a = 11 ∨ a = 12 ∨ a = 13 ∨ a = 14 by omega) with rfl | rfl | rfl | rfl | rfl | rfl | rfl | rfl | rfl | rfl | rfl | rfl | rfl | rfl
    · exact (q14 _ (by decide) (by decide)).trans ((q13 _ (by decide) (by decide)).trans ((q12 _ (by decide) (by decide)).trans ((q11 _ (by decide) (by decide)).trans ((q10 _ (by decide) (by decide)).trans ((q9 _ (by decide) (by decide)).trans ((q8 _ (by decide) (by decide)).trans ((q7 _ (by decide) (by decide)).trans ((q6 _ (by decide) (by decide)).trans ((q5 _ (by decide) (by decide)).trans ((q4 _ (by decide) (by decide)).trans ((q3 _ (by decide) (by decide)).trans ((q2 _ (by decide) (by decide)).trans (p1)))))))))))))
    · exact (q14 _ (by decide) (by decide)).trans ((q13 _ (by decide) (by decide)).trans ((q12 _ (by decide) (by decide)).trans ((q11 _ (by decide) (by decide)).trans ((q10 _ (by decide) (by decide)).trans ((q9 _ (by decide) (by decide)).trans ((q8 _ (by decide) (by decide)).trans ((q7 _ (by decide) (by decide)).trans ((q6 _ (by decide) (by decide)).trans ((q5 _ (by decide) (by decide)).trans ((q4 _ (by decide) (by decide)).trans ((q3 _ (by decide) (by decide)).trans (p2))))))))))))
    · exact (q14 _ (by decide) (by decide)).trans ((q13 _ (by decide) (by decide)).trans ((q12 _ (by decide) (by decide)).trans ((q11 _ (by decide) (by decide)).trans ((q10 _ (by decide) (by decide)).trans ((q9 _ (by decide) (by decide)).trans ((q8 _ (by decide) (by decide)).trans ((q7 _ (by decide) (by decide)).trans ((q6 _ (by decide) (by decide)).trans ((q5 _ (by decide) (by decide)).trans ((q4 _ (by decide) (by decide)).trans (p3)))))))))))
    · exact (q14 _ (by decide) (by decide)).trans ((q13 _ (by decide) (by decide)).trans ((q12 _ (by decide) (by decide)).trans ((q11 _ (by decide) (by decide)).trans ((q10 _ (by decide) (by decide)).trans ((q9 _ (by decide) (by decide)).trans ((q8 _ (by decide) (by decide)).trans ((q7 _ (by decide) (by decide)).trans ((q6 _ (by decide) (by decide)).trans ((q5 _ (by decide) (by decide)).trans (p4))))))))))
    · exact (q14 _ (by decide) (by decide)).trans ((q13 _ (by decide) (by decide)).trans ((q12 _ (by decide) (by decide)).trans ((q11 _ (by decide) (by decide)).trans ((q10 _ (by decide) (by decide)).trans ((q9 _ (by decide) (by decide)).trans ((q8 _ (by decide) (by decide)).trans ((q7 _ (by decide) (by decide)).trans ((q6 _ (by decide) (by decide)).trans (p5)))))))))
    · exact (q14 _ (by decide) (by decide)).trans ((q13 _ (by decide) (by decide)).trans ((q12 _ (by decide) (by decide)).trans ((q11 _ (by decide) (by decide)).trans ((q10 _ (by decide) (by decide)).trans ((q9 _ (by decide) (by decide)).trans ((q8 _ (by decide) (by decide)).trans ((q7 _ (by decide) (by decide)).trans (p6))))))))
    · exact (q14 _ (by decide) (by decide)).trans ((q13 _ (by decide) (by decide)).trans ((q12 _ (by decide) (by decide)).trans ((q11 _ (by decide) (by decide)).trans ((q10 _ (by decide) (by decide)).trans ((q9 _ (by decide) (by decide)).trans ((q8 _ (by decide) (by decide)).trans (p7)))))))
    · exact (q14 _ (by decide) (by decide)).trans ((q13 _ (by decide) (by decide)).trans ((q12 _ (by decide) (by decide)).trans ((q11 _ (by decide) (by decide)).trans ((q10 _ (by decide) (by decide)).trans ((q9 _ (by decide) (by decide)).trans (p8))))))
    · exact (q14 _ (by decide) (by decide)).trans ((q13 _ (by decide) (by decide)).trans ((q12 _ (by decide) (by decide)).trans ((q11 _ (by decide) (by decide)).trans ((q10 _ (by decide) (by decide)).trans (p9)))))
    · exact (q14 _ (by decide) (by decide)).trans ((q13 _ (by decide) (by decide)).trans ((q12 _ (by decide) (by decide)).trans ((q11 _ (by decide) (by decide)).trans (p10))))
    · exact (q14 _ (by decide) (by decide)).trans ((q13 _ (by decide) (by decide)).trans ((q12 _ (by decide) (by decide)).trans (p11)))
    · exact (q14 _ (by decide) (by decide)).trans ((q13 _ (by decide) (by decide)).trans (p12))
    · exact (q14 _ (by decide) (by decide)).trans (p13)
    · exact p14
  have J : ∀ (v : Int32), v = nI n → W p l e { frames := 1, cells := 14, slots := 2306, locals := 20 } s m args below meth c H locs 14 2306 (MQ below (ctQ D h 15 (fun E' => ∀ k, k < 15 → E' k = tE (fun k => h + k) G (N0 n) k)) args s 14 2306 (fun q => h ≤ q)) (F0 m 145 ls [.int v, .ref (h + 0)]) := by
    intro v hv
    subst hv
    refine p_put (i := 0) (v := .int (nI n)) (ty := .int) (C := R_Model) (T := F_Model) (N := 24) hx hb hts in_Model t_Model ty_Model nm_Model hown hK hP hz hS (by decide) o14 rfl 1 (by decide) (hts _ fi_Model_53) rfl (by decide +kernel) rfl rfl (Nat.le_of_ble_eq_true rfl) d_Model_init_145 (fun H locs hP hz hS => ?_)
    obtain ⟨E15, a1, a2, hP⟩ : ∃ E1 : Nat → va_E, E1 0 = .inr (5, [.int 0, .int (nI n), .ref (h + 1), .ref (h + 2), .ref (h + 3), .ref (h + 4), .ref (h + 5), .ref (h + 6), .int 0, .int 0, .ref (h + 7), .ref (h + 8), .ref (h + 9), .ref (h + 10), .ref (h + 11), .ref (h + 12), .int 0, .int 0, .int 0, .int 0, .int 0, .int 0, .ref (h + 13), .ref (h + 14)]) ∧ (∀ a, a ≠ 0 → E1 a = E14 a) ∧ va_P D cls (aw h 15 E1) H := ⟨_, va_up_self _ _ _, fun a h1 => va_up_ne _ _ h1, hP⟩
    have hz : H.size = h + 15 := hz
    refine lv_iconst (v := 0) hx hb d_Model_init_148 (by decide) ?_
    refine lv_istore_n (lv' := [(2, .int 0), (0, .ref (h + 0)), (1, .int n0)]) hx hb d_Model_init_149 rfl hl (by decide) rfl (fun ls hl => ?_)
    have L : ∀ (d k : Nat) (F : Nat → va_E) (H : Heap) (locs : List Loc) (ls : Array Slot), k + d = 4 → (∀ a, a ≠ 2 → a ≠ 3 → F a = E15 a) → F 2 = .inl (G 0, 4, .inl (fun a => if a < k then -1 else 0)) → F 3 = .inl (G 0, 4, .inl (fun a => if a < k then -1 else 0)) → lv_has ls 3 [(2, .int (nI k)), (0, .ref (h + 0)), (1, .int n0)] → va_P D cls (aw h 15 F) H → H.size = h + 15 → va_S (fun q => h ≤ q) s.heap H locs →
        W p l e { frames := 1, cells := 14, slots := 2306, locals := 20 } s m args below meth c H locs 14 2306 (MQ below (ctQ D h 15 (fun E' => ∀ k, k < 15 → E' k = tE (fun k => h + k) G (N0 n) k)) args s 14 2306 (fun q => h ≤ q)) (F0 m 150 ls []) := by
      intro d
      induction d with
      | zero =>
        intro k F H locs ls hkd y1 y2 y3 hl hP hz hS
        have hk9 : k = 4 := by omega
        subst hk9
        refine lv_iload_n hx hb d_Model_init_150 rfl (lv_at hl 0 rfl) ?_
        refine lv_iconst (v := 4) hx hb d_Model_init_151 (by decide) ?_
        refine lv_icmp_ge (tgt := 175) hx hb d_Model_init_152 (by decide) (fun _ => ?_) (fun h9 => absurd h9 (by decide))
        refine i_ret hx hb hr hlk (fun a ha => ?_) hz hP hS d_Model_init_175
        by_cases b0 : a = 0
        · subst b0; exact (y1 0 (by decide) (by decide)).trans a1
        · by_cases b2 : a = 2
          · subst b2; exact y2
          · by_cases b3 : a = 3
            · subst b3; exact y3
            · rw [y1 a b2 b3, a2 a b0, F0' a (by omega) ha]
              rcases (show a = 1 ∨ a = 4 ∨ a = 5 ∨ a = 6 ∨ a = 7 ∨ a = 8 ∨ a = 9 ∨ a = 10 ∨ a = 11 ∨ a = 12 ∨ a = 13 ∨ a = 14 by omega) with rfl | rfl | rfl | rfl | rfl | rfl | rfl | rfl | rfl | rfl | rfl | rfl <;> rfl
      | succ d ih =>
        intro k F H locs ls hkd y1 y2 y3 hl hP hz hS
        have e9 : upd (fun a => if a < k then -1 else 0) k (-1) = fun a => if a < k + 1 then (-1 : Int32) else 0 := by
          funext a
          unfold upd
          by_cases h1 : a = k
          · rw [if_pos h1, if_pos (by omega)]
          · rw [if_neg h1]
            show (if a < k then (-1 : Int32) else 0) = if a < k + 1 then -1 else 0
            by_cases h2 : a < k
            · rw [if_pos h2, if_pos (by omega)]
            · rw [if_neg h2, if_neg (by omega)]
        refine lv_iload_n hx hb d_Model_init_150 rfl (lv_at hl 0 rfl) ?_
        refine lv_iconst (v := 4) hx hb d_Model_init_151 (by decide) ?_
        refine lv_icmp_ge (tgt := 175) hx hb d_Model_init_152 (by decide) (fun h9 => absurd h9 (nI_ge (a := k) (b := 4) (by omega) (by decide))) (fun _ => ?_)
        refine lv_aload_n hx hb d_Model_init_155 rfl (lv_at hl 1 rfl) ?_
        refine va_get (D := D) (ci := 5) (v := .ref (h + 2)) (C := R_Model) (T := F_Model) (N := 24) hx hb hts in_Model hown hK hP 0 (wl_to (by decide) ((y1 0 (by decide) (by decide)).trans a1)) rfl 3 (by decide) (hts _ fi_Model_13) (fun _ h => h) rfl d_Model_init_156 ?_
        refine lv_iload_n hx hb d_Model_init_159 rfl (lv_at hl 0 rfl) ?_
        refine lv_iconst (v := (-1)) hx hb d_Model_init_160 (by decide) ?_
        refine p_iast (i := 2) hx hb hK hP hz hS (by decide) 0 y2 rfl (ix_nI (show k < 4 by omega) (by decide)) d_Model_init_161 (fun H locs hP hz hS => ?_)
        refine lv_aload_n hx hb d_Model_init_162 rfl (lv_at hl 1 rfl) ?_
        refine va_get (D := D) (ci := 5) (v := .ref (h + 3)) (C := R_Model) (T := F_Model) (N := 24) hx hb hts in_Model hown hK hP 0 (wl_to (by decide) ((va_up_ne _ _ (by decide)).trans ((y1 0 (by decide) (by decide)).trans a1))) rfl 4 (by decide) (hts _ fi_Model_16) (fun _ h => h) rfl d_Model_init_163 ?_
        refine lv_iload_n hx hb d_Model_init_166 rfl (lv_at hl 0 rfl) ?_
        refine lv_iconst (v := (-1)) hx hb d_Model_init_167 (by decide) ?_
        refine p_iast (i := 3) hx hb hK hP hz hS (by decide) 0 ((va_up_ne _ _ (by decide)).trans y3) rfl (ix_nI (show k < 4 by omega) (by decide)) d_Model_init_168 (fun H locs hP hz hS => ?_)
        refine lv_iinc (v := nI k + 1) (lv' := [(2, .int (nI k + 1)), (0, .ref (h + 0)), (1, .int n0)]) hx hb d_Model_init_169 hl (k := 0) rfl rfl (by decide) rfl (fun ls hl => ?_)
        refine lv_goto (tgt := 150) hx hb d_Model_init_172 (by decide) ?_
        rw [nI_1] at hl
        refine ih (k + 1) _ H locs ls (by omega) (fun a h1 h2 => (va_up_ne _ _ h2).trans ((va_up_ne _ _ h1).trans (y1 a h1 h2))) ?_ ?_ hl hP hz hS
        · rw [va_up_ne _ _ (by decide), va_up_self, e9]
        · rw [va_up_self, e9]
    refine L 4 0 E15 H locs ls (by omega) (fun _ _ _ => rfl) ?_ ?_ hl hP hz hS
    · rw [a2 2 (by decide), F0' 2 (by decide) (by decide)]; rfl
    · rw [a2 3 (by decide), F0' 3 (by decide) (by decide)]; rfl
  have hv := szT hsz
  refine lv_aload_n hx hb d_Model_init_123 rfl (lv_at hl 0 rfl) ?_
  refine lv_iload_n hx hb d_Model_init_124 rfl (lv_at hl 1 rfl) ?_
  refine lv_iconst (v := 2) hx hb d_Model_init_125 (by decide) ?_
  refine lv_icmp_ge (tgt := 133) hx hb d_Model_init_126 (by decide) (fun h1 => ?_) (fun h1 => ?_)
  · rw [if_pos h1] at hv
    refine lv_iload_n hx hb d_Model_init_133 rfl (lv_at hl 1 rfl) ?_
    refine lv_bipush (v := 6) hx hb d_Model_init_134 (by decide) ?_
    refine lv_icmp_le (tgt := 144) hx hb d_Model_init_136 (by decide) (fun h2 => ?_) (fun h2 => ?_)
    · rw [if_pos h2] at hv
      refine lv_iload_n hx hb d_Model_init_144 rfl (lv_at hl 1 rfl) ?_
      exact J n0 hv
    · rw [if_neg h2] at hv
      refine lv_bipush (v := 6) hx hb d_Model_init_139 (by decide) ?_
      refine lv_goto (tgt := 145) hx hb d_Model_init_141 (by decide) ?_
      exact J 6 hv
  · rw [if_neg h1] at hv
    refine lv_iconst (v := 2) hx hb d_Model_init_129 (by decide) ?_
    refine lv_goto (tgt := 145) hx hb d_Model_init_130 (by decide) ?_
    exact J 2 hv
