def f_Model_thrown (M : Mem) : Option (Int32) :=
  some (M 0 0 0 0)
abbrev rm_Model_thrown : Room := { frames := 0, cells := 0, slots := 0, locals := 0 }
set_option maxHeartbeats 4000000 in
set_option maxRecDepth 100000 in
theorem c_Model_thrown {l : Launch} {D : va_G} {ad : Nat → Nat} {G : Nat → ClassId}  {M : Mem} {x : Int32} (hf : f_Model_thrown M = some x) : Met l y_Model_thrown (wc y_Model_thrown b_Model_thrown 1 (some .int)) rm_Model_thrown (va_Pc [.ref (ad 0)] (tB D ad G M)) (rd_Q (some (.int x))) 0 0 (fun _ => False) := by
  refine k_met (by decide) (Nat.le_of_ble_eq_true rfl) ?_
  intro p e s m args below meth c S hr hlk hB ls hl
  obtain ⟨hx, hb, hml, hown, hts⟩ := id S
  obtain ⟨hP, hK, hA0⟩ := hB
  have hA := wl_own hA0
  have hl : lv_has ls 1 [(0, .ref (ad 0))] := hl
  unfold f_Model_thrown at hf
  refine lv_aload_n hx hb d_Model_thrown_0 rfl (lv_at hl 0 rfl) ?_
  refine va_get (D := D) (ci := 5) (v := .int (M 0 0 0 0)) (C := R_Model) (T := F_Model) (N := 24) hx hb hts in_Model hown hK hP 0 (wl_to (by decide) (MO_at)) rfl 0 (by decide) (hts _ fl_Model_57) (fun _ h => h) rfl d_Model_thrown_1 ?_
  cases hf
  exact r_iret hx hb hr hlk d_Model_thrown_4
def f_Model_within (a : Int32) (b : Int32) (z : Int32) : Option (Int32) :=
  if a < b then (some 0) else (if z < a then (some 0) else (some 1))
abbrev rm_Model_within : Room := { frames := 0, cells := 0, slots := 0, locals := 0 }
set_option maxHeartbeats 4000000 in
set_option maxRecDepth 100000 in
theorem c_Model_within {l : Launch} {D : va_G} {ad : Nat → Nat} {G : Nat → ClassId} {a : Int32} {b : Int32} {z : Int32}  {M : Mem} {x : Int32} (hf : f_Model_within a b z = some x) : Met l y_Model_within (wc y_Model_within b_Model_within 3 (some .boolean)) rm_Model_within (va_Pc [.int a, .int b, .int z] (tB D ad G M)) (rd_Q (some (.int x))) 0 0 (fun _ => False) := by
  refine k_met (by decide) (Nat.le_of_ble_eq_true rfl) ?_
  intro p e s m args below meth c S hr hlk hB ls hl
  obtain ⟨hx, hb, hml, hown, hts⟩ := id S
  obtain ⟨hP, hK, hA0⟩ := hB
  have hA := wl_own hA0
  have hl : lv_has ls 3 [(0, .int a), (1, .int b), (2, .int z)] := hl
  unfold f_Model_within at hf
  refine lv_iload_n hx hb d_Model_within_0 rfl (lv_at hl 0 rfl) ?_
  refine lv_iload_n hx hb d_Model_within_1 rfl (lv_at hl 1 rfl) ?_
  refine lv_icmp_lt (tgt := 14) hx hb d_Model_within_2 (by decide) (fun h2 => ?_) (fun h2 => ?_)
  · rw [if_pos h2] at hf
    refine lv_iconst (v := 0) hx hb d_Model_within_14 (by decide) ?_
    cases hf
    exact r_zret hx hb hr hlk (by decide) d_Model_within_15
  · rw [if_neg h2] at hf
    refine lv_iload_n hx hb d_Model_within_5 rfl (lv_at hl 0 rfl) ?_
    refine lv_iload_n hx hb d_Model_within_6 rfl (lv_at hl 2 rfl) ?_
    refine lv_icmp_gt (tgt := 14) hx hb d_Model_within_7 (by decide) (fun h7 => ?_) (fun h7 => ?_)
    · rw [if_pos h7] at hf
      refine lv_iconst (v := 0) hx hb d_Model_within_14 (by decide) ?_
      cases hf
      exact r_zret hx hb hr hlk (by decide) d_Model_within_15
    · rw [if_neg h7] at hf
      refine lv_iconst (v := 1) hx hb d_Model_within_10 (by decide) ?_
      refine lv_goto (tgt := 15) hx hb d_Model_within_11 (by decide) ?_
      cases hf
      exact r_zret hx hb hr hlk (by decide) d_Model_within_15
def f_Model_isRouter (a : Int32) (M : Mem) : Option (Int32) :=
  (f_Model_within a 0 ((M 0 0 0 1) - 1)).bind fun r8 => if r8 = 0 ∨ r8 = 1 then (some r8) else none
abbrev rm_Model_isRouter : Room := { frames := 1, cells := 0, slots := 0, locals := 22 }
set_option maxHeartbeats 4000000 in
set_option maxRecDepth 100000 in
theorem c_Model_isRouter {l : Launch} {D : va_G} {ad : Nat → Nat} {G : Nat → ClassId} {a : Int32}  {M : Mem} {x : Int32} (hf : f_Model_isRouter a M = some x) : Met l y_Model_isRouter (wc y_Model_isRouter b_Model_isRouter 2 (some .boolean)) rm_Model_isRouter (va_Pc [.ref (ad 0), .int a] (tB D ad G M)) (rd_Q (some (.int x))) 0 0 (fun _ => False) := by
  refine k_met (by decide) (Nat.le_of_ble_eq_true rfl) ?_
  intro p e s m args below meth c S hr hlk hB ls hl
  obtain ⟨hx, hb, hml, hown, hts⟩ := id S
  obtain ⟨hP, hK, hA0⟩ := hB
  have hA := wl_own hA0
  have hl : lv_has ls 2 [(0, .ref (ad 0)), (1, .int a)] := hl
  unfold f_Model_isRouter at hf
  refine lv_iload_n hx hb d_Model_isRouter_0 rfl (lv_at hl 1 rfl) ?_
  refine lv_iconst (v := 0) hx hb d_Model_isRouter_1 (by decide) ?_
  refine lv_aload_n hx hb d_Model_isRouter_2 rfl (lv_at hl 0 rfl) ?_
  refine va_get (D := D) (ci := 5) (v := .int (M 0 0 0 1)) (C := R_Model) (T := F_Model) (N := 24) hx hb hts in_Model hown hK hP 0 (wl_to (by decide) (MO_at)) rfl 1 (by decide) (hts _ fl_Model_53) (fun _ h => h) rfl d_Model_isRouter_3 ?_
  refine lv_iconst (v := 1) hx hb d_Model_isRouter_6 (by decide) ?_
  refine lv_isub hx hb d_Model_isRouter_7 ?_
  obtain ⟨r8, hc8, hf⟩ := ob hf
  refine k_rdi (k_sta S (c_Model_within (l := l) (D := D) (ad := ad) (G := G) hc8) g_Model_60 hd_Model_within ⟨rfl, rfl⟩ ⟨Nat.le_of_ble_eq_true rfl, Nat.le_of_ble_eq_true rfl⟩ wl_blind (wl_pre hP hK hA) rfl hl.1 rfl (Nat.le_of_ble_eq_true rfl) d_Model_isRouter_8 (Nat.zero_le _) (Nat.zero_le _)) ?_
  by_cases hz : r8 = 0 ∨ r8 = 1
  case neg => rw [if_neg hz] at hf; cases hf
  rw [if_pos hz] at hf
  cases hf
  exact r_zret hx hb hr hlk (zb hz) d_Model_isRouter_11
def f_Model_isPair (a : Int32) (b : Int32) (M : Mem) : Option (Int32) :=
  (f_Model_isRouter a M).bind fun r2 => if r2 = 0 then (some 0) else ((f_Model_isRouter b M).bind fun r10 => if r10 = 0 then (some 0) else (if a = b then (some 0) else (some 1)))
abbrev rm_Model_isPair : Room := { frames := 2, cells := 0, slots := 0, locals := 43 }
set_option maxHeartbeats 4000000 in
set_option maxRecDepth 100000 in
theorem c_Model_isPair {l : Launch} {D : va_G} {ad : Nat → Nat} {G : Nat → ClassId} {a : Int32} {b : Int32}  {M : Mem} {x : Int32} (hf : f_Model_isPair a b M = some x) : Met l y_Model_isPair (wc y_Model_isPair b_Model_isPair 3 (some .boolean)) rm_Model_isPair (va_Pc [.ref (ad 0), .int a, .int b] (tB D ad G M)) (rd_Q (some (.int x))) 0 0 (fun _ => False) := by
  refine k_met (by decide) (Nat.le_of_ble_eq_true rfl) ?_
  intro p e s m args below meth c S hr hlk hB ls hl
  obtain ⟨hx, hb, hml, hown, hts⟩ := id S
  obtain ⟨hP, hK, hA0⟩ := hB
  have hA := wl_own hA0
  have hl : lv_has ls 3 [(0, .ref (ad 0)), (1, .int a), (2, .int b)] := hl
  unfold f_Model_isPair at hf
  refine lv_aload_n hx hb d_Model_isPair_0 rfl (lv_at hl 0 rfl) ?_
  refine lv_iload_n hx hb d_Model_isPair_1 rfl (lv_at hl 1 rfl) ?_
  obtain ⟨r2, hc2, hf⟩ := ob hf
  refine k_rdi (k_vir S (c_Model_isRouter (l := l) (D := D) (ad := ad) (G := G) hc2) g_Model_64 hd_Model_isRouter ⟨rfl, rfl⟩ ⟨Nat.le_of_ble_eq_true rfl, Nat.le_of_ble_eq_true rfl⟩ wl_blind (va_recv hK hP rfl (wl_to (by decide) (MO_at))) (wl_pre hP hK hA) rfl hl.1 rfl (Nat.le_of_ble_eq_true rfl) d_Model_isPair_2 (Nat.zero_le _) (Nat.zero_le _)) ?_
  refine lv_if_eq (tgt := 25) hx hb d_Model_isPair_5 (by decide) (fun h5 => ?_) (fun h5 => ?_)
  · rw [if_pos h5] at hf
    refine lv_iconst (v := 0) hx hb d_Model_isPair_25 (by decide) ?_
    cases hf
    exact r_zret hx hb hr hlk (by decide) d_Model_isPair_26
  · rw [if_neg h5] at hf
    refine lv_aload_n hx hb d_Model_isPair_8 rfl (lv_at hl 0 rfl) ?_
    refine lv_iload_n hx hb d_Model_isPair_9 rfl (lv_at hl 2 rfl) ?_
    obtain ⟨r10, hc10, hf⟩ := ob hf
    refine k_rdi (k_vir S (c_Model_isRouter (l := l) (D := D) (ad := ad) (G := G) hc10) g_Model_64 hd_Model_isRouter ⟨rfl, rfl⟩ ⟨Nat.le_of_ble_eq_true rfl, Nat.le_of_ble_eq_true rfl⟩ wl_blind (va_recv hK hP rfl (wl_to (by decide) (MO_at))) (wl_pre hP hK hA) rfl hl.1 rfl (Nat.le_of_ble_eq_true rfl) d_Model_isPair_10 (Nat.zero_le _) (Nat.zero_le _)) ?_
    refine lv_if_eq (tgt := 25) hx hb d_Model_isPair_13 (by decide) (fun h13 => ?_) (fun h13 => ?_)
    · rw [if_pos h13] at hf
      refine lv_iconst (v := 0) hx hb d_Model_isPair_25 (by decide) ?_
      cases hf
      exact r_zret hx hb hr hlk (by decide) d_Model_isPair_26
    · rw [if_neg h13] at hf
      refine lv_iload_n hx hb d_Model_isPair_16 rfl (lv_at hl 1 rfl) ?_
      refine lv_iload_n hx hb d_Model_isPair_17 rfl (lv_at hl 2 rfl) ?_
      refine lv_icmp_eq (tgt := 25) hx hb d_Model_isPair_18 (by decide) (fun h18 => ?_) (fun h18 => ?_)
      · rw [if_pos h18] at hf
        refine lv_iconst (v := 0) hx hb d_Model_isPair_25 (by decide) ?_
        cases hf
        exact r_zret hx hb hr hlk (by decide) d_Model_isPair_26
      · rw [if_neg h18] at hf
        refine lv_iconst (v := 1) hx hb d_Model_isPair_21 (by decide) ?_
        refine lv_goto (tgt := 26) hx hb d_Model_isPair_22 (by decide) ?_
        cases hf
        exact r_zret hx hb hr hlk (by decide) d_Model_isPair_26
def f_Model_good (a : Int32) (M : Mem) : Option (Int32 × Mem) :=
  if a = 0 then (if a = 0 ∨ a = 1 then (some (a, (mset M 0 0 0 0 1))) else none) else (if a = 0 ∨ a = 1 then (some (a, (mset M 0 0 0 0 0))) else none)
abbrev rm_Model_good : Room := { frames := 0, cells := 0, slots := 0, locals := 0 }
set_option maxHeartbeats 4000000 in
set_option maxRecDepth 100000 in
theorem c_Model_good {l : Launch} {D : va_G} {ad : Nat → Nat} {G : Nat → ClassId} {a : Int32}  {M : Mem} {x : Int32 × Mem} (hf : f_Model_good a M = some x) : Met l y_Model_good (wc y_Model_good b_Model_good 2 (some .boolean)) rm_Model_good (va_Pc [.ref (ad 0), .int a] (tB D ad G M)) (wr_Q (some (.int x.1)) D cls 15 ad (tE ad G x.2)) 0 0 (wl_A 15 ad) := by
  refine k_met (by decide) (Nat.le_of_ble_eq_true rfl) ?_
  intro p e s m args below meth c S hr hlk hB ls hl
  obtain ⟨hx, hb, hml, hown, hts⟩ := id S
  obtain ⟨hP, hK, hA0⟩ := hB
  have hA := wl_own hA0
  have hl : lv_has ls 2 [(0, .ref (ad 0)), (1, .int a)] := hl
  have hS : va_S (wl_A 15 ad) s.heap s.heap [] := va_S.rf
  unfold f_Model_good at hf
  refine lv_aload_n hx hb d_Model_good_0 rfl (lv_at hl 0 rfl) ?_
  refine lv_iload_n hx hb d_Model_good_1 rfl (lv_at hl 1 rfl) ?_
  refine lv_if_eq (tgt := 9) hx hb d_Model_good_2 (by decide) (fun h2 => ?_) (fun h2 => ?_)
  · rw [if_pos h2] at hf
    refine lv_iconst (v := 1) hx hb d_Model_good_9 (by decide) ?_
    refine m_put (t := 0) (a := 0) (b := 0) (x := 1) (ci := 5) (C := R_Model) (T := F_Model) (N := 24) hx hb hts in_Model t_Model ty_Model nm_Model hown hK hP hA hS tJ 0 (by decide) (Model_fs ad) (fun _ => rfl) ⟨rfl, rfl, rfl⟩ rfl 0 (by decide) (hts _ fl_Model_57) rfl (by decide +kernel) (fun _ => ⟨Nat.le_of_ble_eq_true rfl, rfl⟩) d_Model_good_10 (fun H locs hP hS => ?_)
    refine lv_iload_n hx hb d_Model_good_13 rfl (lv_at hl 1 rfl) ?_
    by_cases hz : a = 0 ∨ a = 1
    case neg => rw [if_neg hz] at hf; cases hf
    rw [if_pos hz] at hf
    cases hf
    exact w_zret hx hb hr hlk (zb hz) hP hS d_Model_good_14
  · rw [if_neg h2] at hf
    refine lv_iconst (v := 0) hx hb d_Model_good_5 (by decide) ?_
    refine lv_goto (tgt := 10) hx hb d_Model_good_6 (by decide) ?_
    refine m_put (t := 0) (a := 0) (b := 0) (x := 0) (ci := 5) (C := R_Model) (T := F_Model) (N := 24) hx hb hts in_Model t_Model ty_Model nm_Model hown hK hP hA hS tJ 0 (by decide) (Model_fs ad) (fun _ => rfl) ⟨rfl, rfl, rfl⟩ rfl 0 (by decide) (hts _ fl_Model_57) rfl (by decide +kernel) (fun _ => ⟨Nat.le_of_ble_eq_true rfl, rfl⟩) d_Model_good_10 (fun H locs hP hS => ?_)
    refine lv_iload_n hx hb d_Model_good_13 rfl (lv_at hl 1 rfl) ?_
    by_cases hz : a = 0 ∨ a = 1
    case neg => rw [if_neg hz] at hf; cases hf
    rw [if_pos hz] at hf
    cases hf
    exact w_zret hx hb hr hlk (zb hz) hP hS d_Model_good_14
def f_Model_measure_j151 (v3_49 : Int32) (N49 : Mem) (kk49 : Int32 → Mem → Option (Mem)) (s0_151 : Int32) : Option (Mem) :=
    (ix (v3_49 - v3_49 / 6 * 6) 6).bind fun j151 => kk49 (v3_49 + 1) (mset N49 12 0 0 j151 s0_151)
def f_Model_measure_j104 (v3_49 : Int32) (N49 : Mem) (kk49 : Int32 → Mem → Option (Mem)) (s0_104 : Int32) : Option (Mem) :=
    if s0_104 < 0 then ((ix (v3_49 - v3_49 / 6 * 6) 6).bind fun j150 => f_Model_measure_j151 v3_49 N49 (fun u0 u1 => kk49 u0 u1) (N49 12 0 0 j150)) else ((ix (v3_49 - v3_49 / 6 * 6) 6).bind fun j123 => if (N49 12 0 0 j123) < 0 then (f_Model_measure_j151 v3_49 N49 (fun u0 u1 => kk49 u0 u1) s0_104) else ((ix (v3_49 - v3_49 / 6 * 6) 6).bind fun j135 => if (N49 12 0 0 j135) ≤ s0_104 then ((ix (v3_49 - v3_49 / 6 * 6) 6).bind fun j150 => f_Model_measure_j151 v3_49 N49 (fun u0 u1 => kk49 u0 u1) (N49 12 0 0 j150)) else (f_Model_measure_j151 v3_49 N49 (fun u0 u1 => kk49 u0 u1) s0_104)))
def f_Model_measure_49 (v2_39 : Int32) (kk39 : Int32 → Mem → Option (Mem)) : Nat → Int32 → Mem → Option (Mem)
  | 0, _, _ => none
  | k49 + 1, v3_49, N49 =>
    if 36 ≤ v3_49 then (kk39 (v2_39 + 1) N49) else ((ix v3_49 36).bind fun j72 => if (N49 1 0 0 j72) ≤ 0 then (f_Model_measure_j104 v3_49 N49 (fun u0 u1 => f_Model_measure_49 v2_39 kk39 k49 u0 u1) (-1)) else ((ix (v3_49 / 6) 6).bind fun j82 => if (N49 12 0 0 j82) < 0 then (f_Model_measure_j104 v3_49 N49 (fun u0 u1 => f_Model_measure_49 v2_39 kk39 k49 u0 u1) (-1)) else ((ix (v3_49 / 6) 6).bind fun j92 => (ix v3_49 36).bind fun j98 => f_Model_measure_j104 v3_49 N49 (fun u0 u1 => f_Model_measure_49 v2_39 kk39 k49 u0 u1) ((N49 12 0 0 j92) + (N49 1 0 0 j98)))))
def f_Model_measure_39 : Nat → Int32 → Mem → Option (Mem)
  | 0, _, _ => none
  | k39 + 1, v2_39, N39 =>
    if (N39 0 0 0 1) ≤ v2_39 then (some N39) else (f_Model_measure_49 v2_39 (fun u0 u1 => f_Model_measure_39 k39 u0 u1) 1000 0 N39)
def f_Model_measure_j30 (v2_2 : Int32) (N2 : Mem) (kk2 : Int32 → Mem → Option (Mem)) (s0_30 : Int32) : Option (Mem) :=
    (ix v2_2 6).bind fun j30 => kk2 (v2_2 + 1) (mset N2 12 0 0 j30 s0_30)
def f_Model_measure_2 (a : Int32) : Nat → Int32 → Mem → Option (Mem)
  | 0, _, _ => none
  | k2 + 1, v2_2, N2 =>
    if (N2 0 0 0 1) ≤ v2_2 then (f_Model_measure_39 1000 1 N2) else ((ix a 4).bind fun j20 => if (N2 2 0 0 j20) = v2_2 then (f_Model_measure_j30 v2_2 N2 (fun u0 u1 => f_Model_measure_2 a k2 u0 u1) 0) else (f_Model_measure_j30 v2_2 N2 (fun u0 u1 => f_Model_measure_2 a k2 u0 u1) (-1)))
def f_Model_measure (a : Int32) (M : Mem) : Option (Mem) :=
  f_Model_measure_2 a 1000 0 M
abbrev rm_Model_measure : Room := { frames := 0, cells := 0, slots := 0, locals := 0 }
set_option maxHeartbeats 4000000 in
set_option maxRecDepth 100000 in
theorem c_Model_measure {l : Launch} {D : va_G} {ad : Nat → Nat} {G : Nat → ClassId} {a : Int32}  {M : Mem} {x : Mem} (hf : f_Model_measure a M = some x) : Met l y_Model_measure (wc y_Model_measure b_Model_measure 7 (none)) rm_Model_measure (va_Pc [.ref (ad 0), .int a] (tB D ad G M)) (wr_Q (none) D cls 15 ad (tE ad G x)) 0 0 (wl_A 15 ad) := by
  refine k_met (by decide) (Nat.le_of_ble_eq_true rfl) ?_
  intro p e s m args below meth c S hr hlk hB ls hl
  obtain ⟨hx, hb, hml, hown, hts⟩ := id S
  obtain ⟨hP, hK, hA0⟩ := hB
  have hA := wl_own hA0
  have hl : lv_has ls 7 [(0, .ref (ad 0)), (1, .int a)] := hl
  have hS : va_S (wl_A 15 ad) s.heap s.heap [] := va_S.rf
  unfold f_Model_measure at hf
  refine lv_iconst (v := 0) hx hb d_Model_measure_0 (by decide) ?_
  refine lv_istore_n (lv' := [(2, .int 0), (0, .ref (ad 0)), (1, .int a)]) hx hb d_Model_measure_1 rfl hl (by decide) rfl (fun ls hl => ?_)
  have L2 : ∀ (k2 : Nat) (v2_2 : Int32) (N2 : Mem) (H : Heap) (locs : List Loc) (ls : Array Slot), lv_has ls 7 [(2, .int v2_2), (0, .ref (ad 0)), (1, .int a)] → va_P D cls (tW ad G N2) H → va_S (wl_A 15 ad) s.heap H locs → f_Model_measure_2 a k2 v2_2 N2 = some x → W p l e rm_Model_measure s m args below meth c H locs 0 0 (MQ below (wr_Q (none) D cls 15 ad (tE ad G x)) args s 0 0 (wl_A 15 ad)) (F0 m 2 ls []) := by
    intro k2
    induction k2 with
    | zero =>
      intro v2_2 N2 H locs ls hl hP hS hf
      simp [f_Model_measure_2] at hf
    | succ k2 ih2 =>
      intro v2_2 N2 H locs ls hl hP hS hf
      rw [f_Model_measure_2] at hf
      refine lv_iload_n hx hb d_Model_measure_2 rfl (lv_at hl 0 rfl) ?_
      refine lv_aload_n hx hb d_Model_measure_3 rfl (lv_at hl 1 rfl) ?_
      refine va_get (D := D) (ci := 5) (v := .int (N2 0 0 0 1)) (C := R_Model) (T := F_Model) (N := 24) hx hb hts in_Model hown hK hP 0 (wl_to (by decide) (MO_at)) rfl 1 (by decide) (hts _ fl_Model_53) (fun _ h => h) rfl d_Model_measure_4 ?_
      refine lv_icmp_ge (tgt := 37) hx hb d_Model_measure_7 (by decide) (fun h7 => ?_) (fun h7 => ?_)
      · rw [if_pos h7] at hf
        refine lv_iconst (v := 1) hx hb d_Model_measure_37 (by decide) ?_
        refine lv_istore_n (lv' := [(2, .int 1), (0, .ref (ad 0)), (1, .int a)]) hx hb d_Model_measure_38 rfl hl (by decide) rfl (fun ls hl => ?_)
        have L39 : ∀ (k39 : Nat) (v2_39 : Int32) (N39 : Mem) (H : Heap) (locs : List Loc) (ls : Array Slot), lv_has ls 7 [(2, .int v2_39), (0, .ref (ad 0)), (1, .int a)] → va_P D cls (tW ad G N39) H → va_S (wl_A 15 ad) s.heap H locs → f_Model_measure_39 k39 v2_39 N39 = some x → W p l e rm_Model_measure s m args below meth c H locs 0 0 (MQ below (wr_Q (none) D cls 15 ad (tE ad G x)) args s 0 0 (wl_A 15 ad)) (F0 m 39 ls []) := by
          intro k39
          induction k39 with
          | zero =>
            intro v2_39 N39 H locs ls hl hP hS hf
            simp [f_Model_measure_39] at hf
          | succ k39 ih39 =>
            intro v2_39 N39 H locs ls hl hP hS hf
            rw [f_Model_measure_39] at hf
            refine lv_iload_n hx hb d_Model_measure_39 rfl (lv_at hl 0 rfl) ?_
            refine lv_aload_n hx hb d_Model_measure_40 rfl (lv_at hl 1 rfl) ?_
            refine va_get (D := D) (ci := 5) (v := .int (N39 0 0 0 1)) (C := R_Model) (T := F_Model) (N := 24) hx hb hts in_Model hown hK hP 0 (wl_to (by decide) (MO_at)) rfl 1 (by decide) (hts _ fl_Model_53) (fun _ h => h) rfl d_Model_measure_41 ?_
            refine lv_icmp_ge (tgt := 164) hx hb d_Model_measure_44 (by decide) (fun h44 => ?_) (fun h44 => ?_)
            · rw [if_pos h44] at hf
              cases hf
              exact w_vret hx hb hr hlk hP hS d_Model_measure_164
            · rw [if_neg h44] at hf
              refine lv_iconst (v := 0) hx hb d_Model_measure_47 (by decide) ?_
              refine lv_istore_n (lv' := [(3, .int 0), (2, .int v2_39), (0, .ref (ad 0)), (1, .int a)]) hx hb d_Model_measure_48 rfl hl (by decide) rfl (fun ls hl => ?_)
              have L49 : ∀ (k49 : Nat) (v3_49 : Int32) (N49 : Mem) (H : Heap) (locs : List Loc) (ls : Array Slot), lv_has ls 7 [(3, .int v3_49), (2, .int v2_39), (0, .ref (ad 0)), (1, .int a)] → va_P D cls (tW ad G N49) H → va_S (wl_A 15 ad) s.heap H locs → f_Model_measure_49 v2_39 (fun u0 u1 => f_Model_measure_39 k39 u0 u1) k49 v3_49 N49 = some x → W p l e rm_Model_measure s m args below meth c H locs 0 0 (MQ below (wr_Q (none) D cls 15 ad (tE ad G x)) args s 0 0 (wl_A 15 ad)) (F0 m 49 ls []) := by
                intro k49
                induction k49 with
                | zero =>
                  intro v3_49 N49 H locs ls hl hP hS hf
                  simp [f_Model_measure_49] at hf
                | succ k49 ih49 =>
                  intro v3_49 N49 H locs ls hl hP hS hf
                  rw [f_Model_measure_49] at hf
                  refine lv_iload_n hx hb d_Model_measure_49 rfl (lv_at hl 0 rfl) ?_
                  refine lv_bipush (v := 36) hx hb d_Model_measure_50 (by decide) ?_
                  refine lv_icmp_ge (tgt := 158) hx hb d_Model_measure_52 (by decide) (fun h52 => ?_) (fun h52 => ?_)
                  · rw [if_pos h52] at hf
                    refine lv_iinc (v := (v2_39 + 1)) (lv' := [(2, .int (v2_39 + 1)), (3, .int v3_49), (0, .ref (ad 0)), (1, .int a)]) hx hb d_Model_measure_158 hl (k := 1) rfl rfl (by decide) rfl (fun ls hl => ?_)
                    refine lv_goto (tgt := 39) hx hb d_Model_measure_161 (by decide) ?_
                    exact ih39 _ _ _ _ _ (lv_sub hl [0, 2, 3] rfl) hP hS hf
                  · rw [if_neg h52] at hf
                    refine lv_iload_n hx hb d_Model_measure_55 rfl (lv_at hl 0 rfl) ?_
                    refine lv_bipush (v := 6) hx hb d_Model_measure_56 (by decide) ?_
                    refine lv_idiv hx hb d_Model_measure_58 (by decide) ?_
                    refine lv_istore (lv' := [(4, .int (v3_49 / 6)), (3, .int v3_49), (2, .int v2_39), (0, .ref (ad 0)), (1, .int a)]) hx hb d_Model_measure_59 hl (by decide) rfl (fun ls hl => ?_)
                    refine lv_iload_n hx hb d_Model_measure_61 rfl (lv_at hl 1 rfl) ?_
                    refine lv_bipush (v := 6) hx hb d_Model_measure_62 (by decide) ?_
                    refine lv_irem hx hb d_Model_measure_64 (by decide) ?_
                    refine lv_istore (lv' := [(5, .int (v3_49 - v3_49 / 6 * 6)), (4, .int (v3_49 / 6)), (3, .int v3_49), (2, .int v2_39), (0, .ref (ad 0)), (1, .int a)]) hx hb d_Model_measure_65 hl (by decide) rfl (fun ls hl => ?_)
                    refine lv_aload_n hx hb d_Model_measure_67 rfl (lv_at hl 4 rfl) ?_
                    refine va_get (D := D) (ci := 5) (v := .ref (ad 1)) (C := R_Model) (T := F_Model) (N := 24) hx hb hts in_Model hown hK hP 0 (wl_to (by decide) (MO_at)) rfl 2 (by decide) (hts _ fl_Model_7) (fun _ h => h) rfl d_Model_measure_68 ?_
                    refine lv_iload_n hx hb d_Model_measure_71 rfl (lv_at hl 2 rfl) ?_
                    obtain ⟨j72, hj72, hf⟩ := ob hf
                    refine k_iald hx hb hK hP 1 0 (by decide) (COST_at) rfl hj72 d_Model_measure_72 ?_
                    have J104 : ∀ (s0_104 : Int32) (ls : Array Slot), lv_has ls 7 [(5, .int (v3_49 - v3_49 / 6 * 6)), (4, .int (v3_49 / 6)), (3, .int v3_49), (2, .int v2_39), (0, .ref (ad 0)), (1, .int a)] → f_Model_measure_j104 v3_49 N49 (fun u0 u1 => f_Model_measure_49 v2_39 (fun u0 u1 => f_Model_measure_39 k39 u0 u1) k49 u0 u1) s0_104 = some x → W p l e rm_Model_measure s m args below meth c H locs 0 0 (MQ below (wr_Q (none) D cls 15 ad (tE ad G x)) args s 0 0 (wl_A 15 ad)) (F0 m 104 ls [.int s0_104]) := by
                      intro s0_104 ls hl hf
                      unfold f_Model_measure_j104 at hf
                      refine lv_istore (lv' := [(6, .int s0_104), (5, .int (v3_49 - v3_49 / 6 * 6)), (4, .int (v3_49 / 6)), (3, .int v3_49), (2, .int v2_39), (0, .ref (ad 0)), (1, .int a)]) hx hb d_Model_measure_104 hl (by decide) rfl (fun ls hl => ?_)
                      refine lv_aload_n hx hb d_Model_measure_106 rfl (lv_at hl 5 rfl) ?_
                      refine va_get (D := D) (ci := 5) (v := .ref (ad 12)) (C := R_Model) (T := F_Model) (N := 24) hx hb hts in_Model hown hK hP 0 (wl_to (by decide) (MO_at)) rfl 15 (by decide) (hts _ fl_Model_44) (fun _ h => h) rfl d_Model_measure_107 ?_
                      refine lv_iload hx hb d_Model_measure_110 (lv_at hl 1 rfl) ?_
                      refine lv_iload hx hb d_Model_measure_112 (lv_at hl 0 rfl) ?_
                      have J151 : ∀ (s0_151 : Int32) (ls : Array Slot), lv_has ls 7 [(6, .int s0_104), (5, .int (v3_49 - v3_49 / 6 * 6)), (4, .int (v3_49 / 6)), (3, .int v3_49), (2, .int v2_39), (0, .ref (ad 0)), (1, .int a)] → f_Model_measure_j151 v3_49 N49 (fun u0 u1 => f_Model_measure_49 v2_39 (fun u0 u1 => f_Model_measure_39 k39 u0 u1) k49 u0 u1) s0_151 = some x → W p l e rm_Model_measure s m args below meth c H locs 0 0 (MQ below (wr_Q (none) D cls 15 ad (tE ad G x)) args s 0 0 (wl_A 15 ad)) (F0 m 151 ls [.int s0_151, .int (v3_49 - v3_49 / 6 * 6), .ref (ad 12)]) := by
                        intro s0_151 ls hl hf
                        unfold f_Model_measure_j151 at hf
                        obtain ⟨j151, hj151, hf⟩ := ob hf
                        refine m_iast (t := 12) (a := 0) (b := 0) (x := s0_151) hx hb hK hP hA hS tJ 12 0 (by decide) ⟨rfl, rfl, rfl⟩ (fun f => FAR_row f) rfl hj151 d_Model_measure_151 (fun H locs hP hS => ?_)
                        refine lv_iinc (v := (v3_49 + 1)) (lv' := [(3, .int (v3_49 + 1)), (6, .int s0_104), (5, .int (v3_49 - v3_49 / 6 * 6)), (4, .int (v3_49 / 6)), (2, .int v2_39), (0, .ref (ad 0)), (1, .int a)]) hx hb d_Model_measure_152 hl (k := 3) rfl rfl (by decide) rfl (fun ls hl => ?_)
                        refine lv_goto (tgt := 49) hx hb d_Model_measure_155 (by decide) ?_
                        exact ih49 _ _ _ _ _ (lv_sub hl [0, 4, 5, 6] rfl) hP hS hf
                      refine lv_if_lt (tgt := 144) hx hb d_Model_measure_114 (by decide) (fun h114 => ?_) (fun h114 => ?_)
                      · rw [if_pos h114] at hf
                        refine lv_aload_n hx hb d_Model_measure_144 rfl (lv_at hl 5 rfl) ?_
                        refine va_get (D := D) (ci := 5) (v := .ref (ad 12)) (C := R_Model) (T := F_Model) (N := 24) hx hb hts in_Model hown hK hP 0 (wl_to (by decide) (MO_at)) rfl 15 (by decide) (hts _ fl_Model_44) (fun _ h => h) rfl d_Model_measure_145 ?_
                        refine lv_iload hx hb d_Model_measure_148 (lv_at hl 1 rfl) ?_
                        obtain ⟨j150, hj150, hf⟩ := ob hf
                        refine k_iald hx hb hK hP 12 0 (by decide) (FAR_at) rfl hj150 d_Model_measure_150 ?_
                        exact J151 _ _ (lv_sub hl [0, 1, 2, 3, 4, 5, 6] rfl) hf
                      · rw [if_neg h114] at hf
                        refine lv_aload_n hx hb d_Model_measure_117 rfl (lv_at hl 5 rfl) ?_
                        refine va_get (D := D) (ci := 5) (v := .ref (ad 12)) (C := R_Model) (T := F_Model) (N := 24) hx hb hts in_Model hown hK hP 0 (wl_to (by decide) (MO_at)) rfl 15 (by decide) (hts _ fl_Model_44) (fun _ h => h) rfl d_Model_measure_118 ?_
                        refine lv_iload hx hb d_Model_measure_121 (lv_at hl 1 rfl) ?_
                        obtain ⟨j123, hj123, hf⟩ := ob hf
                        refine k_iald hx hb hK hP 12 0 (by decide) (FAR_at) rfl hj123 d_Model_measure_123 ?_
                        refine lv_if_lt (tgt := 139) hx hb d_Model_measure_124 (by decide) (fun h124 => ?_) (fun h124 => ?_)
                        · rw [if_pos h124] at hf
                          refine lv_iload hx hb d_Model_measure_139 (lv_at hl 0 rfl) ?_
                          refine lv_goto (tgt := 151) hx hb d_Model_measure_141 (by decide) ?_
                          exact J151 _ _ (lv_sub hl [0, 1, 2, 3, 4, 5, 6] rfl) hf
                        · rw [if_neg h124] at hf
                          refine lv_iload hx hb d_Model_measure_127 (lv_at hl 0 rfl) ?_
                          refine lv_aload_n hx hb d_Model_measure_129 rfl (lv_at hl 5 rfl) ?_
                          refine va_get (D := D) (ci := 5) (v := .ref (ad 12)) (C := R_Model) (T := F_Model) (N := 24) hx hb hts in_Model hown hK hP 0 (wl_to (by decide) (MO_at)) rfl 15 (by decide) (hts _ fl_Model_44) (fun _ h => h) rfl d_Model_measure_130 ?_
                          refine lv_iload hx hb d_Model_measure_133 (lv_at hl 1 rfl) ?_
                          obtain ⟨j135, hj135, hf⟩ := ob hf
                          refine k_iald hx hb hK hP 12 0 (by decide) (FAR_at) rfl hj135 d_Model_measure_135 ?_
                          refine lv_icmp_ge (tgt := 144) hx hb d_Model_measure_136 (by decide) (fun h136 => ?_) (fun h136 => ?_)
                          · rw [if_pos h136] at hf
                            refine lv_aload_n hx hb d_Model_measure_144 rfl (lv_at hl 5 rfl) ?_
                            refine va_get (D := D) (ci := 5) (v := .ref (ad 12)) (C := R_Model) (T := F_Model) (N := 24) hx hb hts in_Model hown hK hP 0 (wl_to (by decide) (MO_at)) rfl 15 (by decide) (hts _ fl_Model_44) (fun _ h => h) rfl d_Model_measure_145 ?_
                            refine lv_iload hx hb d_Model_measure_148 (lv_at hl 1 rfl) ?_
                            obtain ⟨j150, hj150, hf⟩ := ob hf
                            refine k_iald hx hb hK hP 12 0 (by decide) (FAR_at) rfl hj150 d_Model_measure_150 ?_
                            exact J151 _ _ (lv_sub hl [0, 1, 2, 3, 4, 5, 6] rfl) hf
                          · rw [if_neg h136] at hf
                            refine lv_iload hx hb d_Model_measure_139 (lv_at hl 0 rfl) ?_
                            refine lv_goto (tgt := 151) hx hb d_Model_measure_141 (by decide) ?_
                            exact J151 _ _ (lv_sub hl [0, 1, 2, 3, 4, 5, 6] rfl) hf
                    refine lv_if_le (tgt := 103) hx hb d_Model_measure_73 (by decide) (fun h73 => ?_) (fun h73 => ?_)
                    · rw [if_pos h73] at hf
                      refine lv_iconst (v := (-1)) hx hb d_Model_measure_103 (by decide) ?_
                      exact J104 _ _ (lv_sub hl [0, 1, 2, 3, 4, 5] rfl) hf
                    · rw [if_neg h73] at hf
                      refine lv_aload_n hx hb d_Model_measure_76 rfl (lv_at hl 4 rfl) ?_
                      refine va_get (D := D) (ci := 5) (v := .ref (ad 12)) (C := R_Model) (T := F_Model) (N := 24) hx hb hts in_Model hown hK hP 0 (wl_to (by decide) (MO_at)) rfl 15 (by decide) (hts _ fl_Model_44) (fun _ h => h) rfl d_Model_measure_77 ?_
                      refine lv_iload hx hb d_Model_measure_80 (lv_at hl 1 rfl) ?_
                      obtain ⟨j82, hj82, hf⟩ := ob hf
                      refine k_iald hx hb hK hP 12 0 (by decide) (FAR_at) rfl hj82 d_Model_measure_82 ?_
                      refine lv_if_lt (tgt := 103) hx hb d_Model_measure_83 (by decide) (fun h83 => ?_) (fun h83 => ?_)
                      · rw [if_pos h83] at hf
                        refine lv_iconst (v := (-1)) hx hb d_Model_measure_103 (by decide) ?_
                        exact J104 _ _ (lv_sub hl [0, 1, 2, 3, 4, 5] rfl) hf
                      · rw [if_neg h83] at hf
                        refine lv_aload_n hx hb d_Model_measure_86 rfl (lv_at hl 4 rfl) ?_
                        refine va_get (D := D) (ci := 5) (v := .ref (ad 12)) (C := R_Model) (T := F_Model) (N := 24) hx hb hts in_Model hown hK hP 0 (wl_to (by decide) (MO_at)) rfl 15 (by decide) (hts _ fl_Model_44) (fun _ h => h) rfl d_Model_measure_87 ?_
                        refine lv_iload hx hb d_Model_measure_90 (lv_at hl 1 rfl) ?_
                        obtain ⟨j92, hj92, hf⟩ := ob hf
                        refine k_iald hx hb hK hP 12 0 (by decide) (FAR_at) rfl hj92 d_Model_measure_92 ?_
                        refine lv_aload_n hx hb d_Model_measure_93 rfl (lv_at hl 4 rfl) ?_
                        refine va_get (D := D) (ci := 5) (v := .ref (ad 1)) (C := R_Model) (T := F_Model) (N := 24) hx hb hts in_Model hown hK hP 0 (wl_to (by decide) (MO_at)) rfl 2 (by decide) (hts _ fl_Model_7) (fun _ h => h) rfl d_Model_measure_94 ?_
                        refine lv_iload_n hx hb d_Model_measure_97 rfl (lv_at hl 2 rfl) ?_
                        obtain ⟨j98, hj98, hf⟩ := ob hf
                        refine k_iald hx hb hK hP 1 0 (by decide) (COST_at) rfl hj98 d_Model_measure_98 ?_
                        refine lv_iadd hx hb d_Model_measure_99 ?_
                        refine lv_goto (tgt := 104) hx hb d_Model_measure_100 (by decide) ?_
                        exact J104 _ _ (lv_sub hl [0, 1, 2, 3, 4, 5] rfl) hf
              exact L49 _ _ _ _ _ _ (lv_sub hl [0, 1, 2, 3] rfl) hP hS hf
        exact L39 _ _ _ _ _ _ (lv_sub hl [0, 1, 2] rfl) hP hS hf
      · rw [if_neg h7] at hf
        refine lv_aload_n hx hb d_Model_measure_10 rfl (lv_at hl 1 rfl) ?_
        refine va_get (D := D) (ci := 5) (v := .ref (ad 12)) (C := R_Model) (T := F_Model) (N := 24) hx hb hts in_Model hown hK hP 0 (wl_to (by decide) (MO_at)) rfl 15 (by decide) (hts _ fl_Model_44) (fun _ h => h) rfl d_Model_measure_11 ?_
        refine lv_iload_n hx hb d_Model_measure_14 rfl (lv_at hl 0 rfl) ?_
        refine lv_aload_n hx hb d_Model_measure_15 rfl (lv_at hl 1 rfl) ?_
        refine va_get (D := D) (ci := 5) (v := .ref (ad 2)) (C := R_Model) (T := F_Model) (N := 24) hx hb hts in_Model hown hK hP 0 (wl_to (by decide) (MO_at)) rfl 3 (by decide) (hts _ fl_Model_13) (fun _ h => h) rfl d_Model_measure_16 ?_
        refine lv_iload_n hx hb d_Model_measure_19 rfl (lv_at hl 2 rfl) ?_
        obtain ⟨j20, hj20, hf⟩ := ob hf
        refine k_iald hx hb hK hP 2 0 (by decide) (OWN_at) rfl hj20 d_Model_measure_20 ?_
        refine lv_iload_n hx hb d_Model_measure_21 rfl (lv_at hl 0 rfl) ?_
        have J30 : ∀ (s0_30 : Int32) (ls : Array Slot), lv_has ls 7 [(2, .int v2_2), (0, .ref (ad 0)), (1, .int a)] → f_Model_measure_j30 v2_2 N2 (fun u0 u1 => f_Model_measure_2 a k2 u0 u1) s0_30 = some x → W p l e rm_Model_measure s m args below meth c H locs 0 0 (MQ below (wr_Q (none) D cls 15 ad (tE ad G x)) args s 0 0 (wl_A 15 ad)) (F0 m 30 ls [.int s0_30, .int v2_2, .ref (ad 12)]) := by
          intro s0_30 ls hl hf
          unfold f_Model_measure_j30 at hf
          obtain ⟨j30, hj30, hf⟩ := ob hf
          refine m_iast (t := 12) (a := 0) (b := 0) (x := s0_30) hx hb hK hP hA hS tJ 12 0 (by decide) ⟨rfl, rfl, rfl⟩ (fun f => FAR_row f) rfl hj30 d_Model_measure_30 (fun H locs hP hS => ?_)
          refine lv_iinc (v := (v2_2 + 1)) (lv' := [(2, .int (v2_2 + 1)), (0, .ref (ad 0)), (1, .int a)]) hx hb d_Model_measure_31 hl (k := 0) rfl rfl (by decide) rfl (fun ls hl => ?_)
          refine lv_goto (tgt := 2) hx hb d_Model_measure_34 (by decide) ?_
          exact ih2 _ _ _ _ _ (lv_sub hl [0, 1, 2] rfl) hP hS hf
        refine lv_icmp_ne (tgt := 29) hx hb d_Model_measure_22 (by decide) (fun h22 => ?_) (fun h22 => ?_)
        · rw [if_neg h22] at hf
          refine lv_iconst (v := (-1)) hx hb d_Model_measure_29 (by decide) ?_
          exact J30 _ _ (lv_sub hl [0, 1, 2] rfl) hf
        · rw [if_pos h22] at hf
          refine lv_iconst (v := 0) hx hb d_Model_measure_25 (by decide) ?_
          refine lv_goto (tgt := 30) hx hb d_Model_measure_26 (by decide) ?_
          exact J30 _ _ (lv_sub hl [0, 1, 2] rfl) hf
  exact L2 _ _ _ _ _ _ (lv_sub hl [0, 1, 2] rfl) hP hS hf
def f_Model_nextOf_j83 (v4_15 : Int32) (N15 : Mem) (kk15 : Int32 → Int32 → Mem → Option (Int32 × Mem)) (s0_83 : Int32) : Option (Int32 × Mem) :=
    kk15 (v4_15 + (-1)) s0_83 N15
def f_Model_nextOf_15 (a : Int32) : Nat → Int32 → Int32 → Mem → Option (Int32 × Mem)
  | 0, _, _, _ => none
  | k15 + 1, v4_15, v3_15, N15 =>
    if v4_15 < 0 then (some (v3_15, N15)) else ((ix ((6 * a) + v4_15) 36).bind fun j31 => if (N15 1 0 0 j31) ≤ 0 then (f_Model_nextOf_j83 v4_15 N15 (fun u0 u1 u2 => f_Model_nextOf_15 a k15 u0 u1 u2) v3_15) else ((ix v4_15 6).bind fun j45 => if (N15 12 0 0 j45) < 0 then (f_Model_nextOf_j83 v4_15 N15 (fun u0 u1 u2 => f_Model_nextOf_15 a k15 u0 u1 u2) v3_15) else ((ix a 6).bind fun j54 => if (N15 12 0 0 j54) ≤ 0 then (f_Model_nextOf_j83 v4_15 N15 (fun u0 u1 u2 => f_Model_nextOf_15 a k15 u0 u1 u2) v3_15) else ((ix v4_15 6).bind fun j64 => (ix a 6).bind fun j73 => if ((N15 12 0 0 j64) + (N15 1 0 0 j31)) = (N15 12 0 0 j73) then (f_Model_nextOf_j83 v4_15 N15 (fun u0 u1 u2 => f_Model_nextOf_15 a k15 u0 u1 u2) v4_15) else (f_Model_nextOf_j83 v4_15 N15 (fun u0 u1 u2 => f_Model_nextOf_15 a k15 u0 u1 u2) v3_15)))))
def f_Model_nextOf (a : Int32) (b : Int32) (M : Mem) : Option (Int32 × Mem) :=
  (f_Model_measure b M).bind fun r2 => f_Model_nextOf_15 a 1000 ((r2 0 0 0 1) - 1) (-1) r2
abbrev rm_Model_nextOf : Room := { frames := 1, cells := 0, slots := 0, locals := 26 }
set_option maxHeartbeats 4000000 in
set_option maxRecDepth 100000 in
theorem c_Model_nextOf {l : Launch} {D : va_G} {ad : Nat → Nat} {G : Nat → ClassId} {a : Int32} {b : Int32}  {M : Mem} {x : Int32 × Mem} (hf : f_Model_nextOf a b M = some x) : Met l y_Model_nextOf (wc y_Model_nextOf b_Model_nextOf 6 (some .int)) rm_Model_nextOf (va_Pc [.ref (ad 0), .int a, .int b] (tB D ad G M)) (wr_Q (some (.int x.1)) D cls 15 ad (tE ad G x.2)) 0 0 (wl_A 15 ad) := by
  refine k_met (by decide) (Nat.le_of_ble_eq_true rfl) ?_
  intro p e s m args below meth c S hr hlk hB ls hl
  obtain ⟨hx, hb, hml, hown, hts⟩ := id S
  obtain ⟨hP, hK, hA0⟩ := hB
  have hA := wl_own hA0
  have hl : lv_has ls 6 [(0, .ref (ad 0)), (1, .int a), (2, .int b)] := hl
  have hS : va_S (wl_A 15 ad) s.heap s.heap [] := va_S.rf
  unfold f_Model_nextOf at hf
  refine lv_aload_n hx hb d_Model_nextOf_0 rfl (lv_at hl 0 rfl) ?_
  refine lv_iload_n hx hb d_Model_nextOf_1 rfl (lv_at hl 2 rfl) ?_
  obtain ⟨r2, hc2, hf⟩ := ob hf
  refine k_wrv (k_vir S (c_Model_measure (l := l) (D := D) (ad := ad) (G := G) hc2) g_Model_68 hd_Model_measure ⟨rfl, rfl⟩ ⟨Nat.le_of_ble_eq_true rfl, Nat.le_of_ble_eq_true rfl⟩ wl_blind (va_recv hK hP rfl (wl_to (by decide) (MO_at))) (wl_pre hP hK hA) rfl hl.1 rfl (Nat.le_of_ble_eq_true rfl) d_Model_nextOf_2 (Nat.zero_le _) (Nat.zero_le _)) hS (fun _ h => h) (fun H locs hP _ _ hS => ?_)
  refine lv_iconst (v := (-1)) hx hb d_Model_nextOf_5 (by decide) ?_
  refine lv_istore_n (lv' := [(3, .int (-1)), (0, .ref (ad 0)), (1, .int a), (2, .int b)]) hx hb d_Model_nextOf_6 rfl hl (by decide) rfl (fun ls hl => ?_)
  refine lv_aload_n hx hb d_Model_nextOf_7 rfl (lv_at hl 1 rfl) ?_
  refine va_get (D := D) (ci := 5) (v := .int (r2 0 0 0 1)) (C := R_Model) (T := F_Model) (N := 24) hx hb hts in_Model hown hK hP 0 (wl_to (by decide) (MO_at)) rfl 1 (by decide) (hts _ fl_Model_53) (fun _ h => h) rfl d_Model_nextOf_8 ?_
  refine lv_iconst (v := 1) hx hb d_Model_nextOf_11 (by decide) ?_
  refine lv_isub hx hb d_Model_nextOf_12 ?_
  refine lv_istore (lv' := [(4, .int ((r2 0 0 0 1) - 1)), (3, .int (-1)), (0, .ref (ad 0)), (1, .int a), (2, .int b)]) hx hb d_Model_nextOf_13 hl (by decide) rfl (fun ls hl => ?_)
  have L15 : ∀ (k15 : Nat) (v4_15 : Int32) (v3_15 : Int32) (N15 : Mem) (H : Heap) (locs : List Loc) (ls : Array Slot), lv_has ls 6 [(4, .int v4_15), (3, .int v3_15), (0, .ref (ad 0)), (1, .int a), (2, .int b)] → va_P D cls (tW ad G N15) H → va_S (wl_A 15 ad) s.heap H locs → f_Model_nextOf_15 a k15 v4_15 v3_15 N15 = some x → W p l e rm_Model_nextOf s m args below meth c H locs 0 0 (MQ below (wr_Q (some (.int x.1)) D cls 15 ad (tE ad G x.2)) args s 0 0 (wl_A 15 ad)) (F0 m 15 ls []) := by
    intro k15
    induction k15 with
    | zero =>
      intro v4_15 v3_15 N15 H locs ls hl hP hS hf
      simp [f_Model_nextOf_15] at hf
    | succ k15 ih15 =>
      intro v4_15 v3_15 N15 H locs ls hl hP hS hf
      rw [f_Model_nextOf_15] at hf
      refine lv_iload hx hb d_Model_nextOf_15 (lv_at hl 0 rfl) ?_
      refine lv_if_lt (tgt := 90) hx hb d_Model_nextOf_17 (by decide) (fun h17 => ?_) (fun h17 => ?_)
      · rw [if_pos h17] at hf
        refine lv_iload_n hx hb d_Model_nextOf_90 rfl (lv_at hl 1 rfl) ?_
        cases hf
        exact w_iret hx hb hr hlk hP hS d_Model_nextOf_91
      · rw [if_neg h17] at hf
        refine lv_aload_n hx hb d_Model_nextOf_20 rfl (lv_at hl 2 rfl) ?_
        refine va_get (D := D) (ci := 5) (v := .ref (ad 1)) (C := R_Model) (T := F_Model) (N := 24) hx hb hts in_Model hown hK hP 0 (wl_to (by decide) (MO_at)) rfl 2 (by decide) (hts _ fl_Model_7) (fun _ h => h) rfl d_Model_nextOf_21 ?_
        refine lv_bipush (v := 6) hx hb d_Model_nextOf_24 (by decide) ?_
        refine lv_iload_n hx hb d_Model_nextOf_26 rfl (lv_at hl 3 rfl) ?_
        refine lv_imul hx hb d_Model_nextOf_27 ?_
        refine lv_iload hx hb d_Model_nextOf_28 (lv_at hl 0 rfl) ?_
        refine lv_iadd hx hb d_Model_nextOf_30 ?_
        obtain ⟨j31, hj31, hf⟩ := ob hf
        refine k_iald hx hb hK hP 1 0 (by decide) (COST_at) rfl hj31 d_Model_nextOf_31 ?_
        refine lv_istore (lv' := [(5, .int (N15 1 0 0 j31)), (4, .int v4_15), (3, .int v3_15), (0, .ref (ad 0)), (1, .int a), (2, .int b)]) hx hb d_Model_nextOf_32 hl (by decide) rfl (fun ls hl => ?_)
        refine lv_iload hx hb d_Model_nextOf_34 (lv_at hl 0 rfl) ?_
        have J83 : ∀ (s0_83 : Int32) (ls : Array Slot), lv_has ls 6 [(5, .int (N15 1 0 0 j31)), (4, .int v4_15), (3, .int v3_15), (0, .ref (ad 0)), (1, .int a), (2, .int b)] → f_Model_nextOf_j83 v4_15 N15 (fun u0 u1 u2 => f_Model_nextOf_15 a k15 u0 u1 u2) s0_83 = some x → W p l e rm_Model_nextOf s m args below meth c H locs 0 0 (MQ below (wr_Q (some (.int x.1)) D cls 15 ad (tE ad G x.2)) args s 0 0 (wl_A 15 ad)) (F0 m 83 ls [.int s0_83]) := by
          intro s0_83 ls hl hf
          unfold f_Model_nextOf_j83 at hf
          refine lv_istore_n (lv' := [(3, .int s0_83), (5, .int (N15 1 0 0 j31)), (4, .int v4_15), (0, .ref (ad 0)), (1, .int a), (2, .int b)]) hx hb d_Model_nextOf_83 rfl hl (by decide) rfl (fun ls hl => ?_)
          refine lv_iinc (v := (v4_15 + (-1))) (lv' := [(4, .int (v4_15 + (-1))), (3, .int s0_83), (5, .int (N15 1 0 0 j31)), (0, .ref (ad 0)), (1, .int a), (2, .int b)]) hx hb d_Model_nextOf_84 hl (k := 2) rfl rfl (by decide) rfl (fun ls hl => ?_)
          refine lv_goto (tgt := 15) hx hb d_Model_nextOf_87 (by decide) ?_
          exact ih15 _ _ _ _ _ _ (lv_sub hl [0, 1, 3, 4, 5] rfl) hP hS hf
        refine lv_if_le (tgt := 82) hx hb d_Model_nextOf_36 (by decide) (fun h36 => ?_) (fun h36 => ?_)
        · rw [if_pos h36] at hf
          refine lv_iload_n hx hb d_Model_nextOf_82 rfl (lv_at hl 2 rfl) ?_
          exact J83 _ _ (lv_sub hl [0, 1, 2, 3, 4, 5] rfl) hf
        · rw [if_neg h36] at hf
          refine lv_aload_n hx hb d_Model_nextOf_39 rfl (lv_at hl 3 rfl) ?_
          refine va_get (D := D) (ci := 5) (v := .ref (ad 12)) (C := R_Model) (T := F_Model) (N := 24) hx hb hts in_Model hown hK hP 0 (wl_to (by decide) (MO_at)) rfl 15 (by decide) (hts _ fl_Model_44) (fun _ h => h) rfl d_Model_nextOf_40 ?_
          refine lv_iload hx hb d_Model_nextOf_43 (lv_at hl 1 rfl) ?_
          obtain ⟨j45, hj45, hf⟩ := ob hf
          refine k_iald hx hb hK hP 12 0 (by decide) (FAR_at) rfl hj45 d_Model_nextOf_45 ?_
          refine lv_if_lt (tgt := 82) hx hb d_Model_nextOf_46 (by decide) (fun h46 => ?_) (fun h46 => ?_)
          · rw [if_pos h46] at hf
            refine lv_iload_n hx hb d_Model_nextOf_82 rfl (lv_at hl 2 rfl) ?_
            exact J83 _ _ (lv_sub hl [0, 1, 2, 3, 4, 5] rfl) hf
          · rw [if_neg h46] at hf
            refine lv_aload_n hx hb d_Model_nextOf_49 rfl (lv_at hl 3 rfl) ?_
            refine va_get (D := D) (ci := 5) (v := .ref (ad 12)) (C := R_Model) (T := F_Model) (N := 24) hx hb hts in_Model hown hK hP 0 (wl_to (by decide) (MO_at)) rfl 15 (by decide) (hts _ fl_Model_44) (fun _ h => h) rfl d_Model_nextOf_50 ?_
            refine lv_iload_n hx hb d_Model_nextOf_53 rfl (lv_at hl 4 rfl) ?_
            obtain ⟨j54, hj54, hf⟩ := ob hf
            refine k_iald hx hb hK hP 12 0 (by decide) (FAR_at) rfl hj54 d_Model_nextOf_54 ?_
            refine lv_if_le (tgt := 82) hx hb d_Model_nextOf_55 (by decide) (fun h55 => ?_) (fun h55 => ?_)
            · rw [if_pos h55] at hf
              refine lv_iload_n hx hb d_Model_nextOf_82 rfl (lv_at hl 2 rfl) ?_
              exact J83 _ _ (lv_sub hl [0, 1, 2, 3, 4, 5] rfl) hf
            · rw [if_neg h55] at hf
              refine lv_aload_n hx hb d_Model_nextOf_58 rfl (lv_at hl 3 rfl) ?_
              refine va_get (D := D) (ci := 5) (v := .ref (ad 12)) (C := R_Model) (T := F_Model) (N := 24) hx hb hts in_Model hown hK hP 0 (wl_to (by decide) (MO_at)) rfl 15 (by decide) (hts _ fl_Model_44) (fun _ h => h) rfl d_Model_nextOf_59 ?_
              refine lv_iload hx hb d_Model_nextOf_62 (lv_at hl 1 rfl) ?_
              obtain ⟨j64, hj64, hf⟩ := ob hf
              refine k_iald hx hb hK hP 12 0 (by decide) (FAR_at) rfl hj64 d_Model_nextOf_64 ?_
              refine lv_iload hx hb d_Model_nextOf_65 (lv_at hl 0 rfl) ?_
              refine lv_iadd hx hb d_Model_nextOf_67 ?_
              refine lv_aload_n hx hb d_Model_nextOf_68 rfl (lv_at hl 3 rfl) ?_
              refine va_get (D := D) (ci := 5) (v := .ref (ad 12)) (C := R_Model) (T := F_Model) (N := 24) hx hb hts in_Model hown hK hP 0 (wl_to (by decide) (MO_at)) rfl 15 (by decide) (hts _ fl_Model_44) (fun _ h => h) rfl d_Model_nextOf_69 ?_
              refine lv_iload_n hx hb d_Model_nextOf_72 rfl (lv_at hl 4 rfl) ?_
              obtain ⟨j73, hj73, hf⟩ := ob hf
              refine k_iald hx hb hK hP 12 0 (by decide) (FAR_at) rfl hj73 d_Model_nextOf_73 ?_
              refine lv_icmp_ne (tgt := 82) hx hb d_Model_nextOf_74 (by decide) (fun h74 => ?_) (fun h74 => ?_)
              · rw [if_neg h74] at hf
                refine lv_iload_n hx hb d_Model_nextOf_82 rfl (lv_at hl 2 rfl) ?_
                exact J83 _ _ (lv_sub hl [0, 1, 2, 3, 4, 5] rfl) hf
              · rw [if_pos h74] at hf
                refine lv_iload hx hb d_Model_nextOf_77 (lv_at hl 1 rfl) ?_
                refine lv_goto (tgt := 83) hx hb d_Model_nextOf_79 (by decide) ?_
                exact J83 _ _ (lv_sub hl [0, 1, 2, 3, 4, 5] rfl) hf
  exact L15 _ _ _ _ _ _ _ (lv_sub hl [0, 1, 2, 3, 4] rfl) hP hS hf
def f_Model_isTaken_j84 (v4_48 : Int32) (kk48 : Int32 → Int32 → Option (Int32)) (s0_84 : Int32) : Option (Int32) :=
    kk48 (v4_48 + 1) s0_84
def f_Model_isTaken_48 (a : Int32) (b : Int32) (M : Mem) : Nat → Int32 → Int32 → Option (Int32)
  | 0, _, _ => none
  | k48 + 1, v4_48, v3_48 =>
    if 6 ≤ v4_48 then (if v3_48 = 0 ∨ v3_48 = 1 then (some v3_48) else none) else (if v3_48 = 0 then ((ix (((48 * a) + (8 * v4_48)) + b) 288).bind fun j75 => if (M 6 0 0 j75) = 0 then (f_Model_isTaken_j84 v4_48 (fun u0 u1 => f_Model_isTaken_48 a b M k48 u0 u1) 0) else (f_Model_isTaken_j84 v4_48 (fun u0 u1 => f_Model_isTaken_48 a b M k48 u0 u1) 1)) else (f_Model_isTaken_j84 v4_48 (fun u0 u1 => f_Model_isTaken_48 a b M k48 u0 u1) 1))
def f_Model_isTaken_j38 (v4_5 : Int32) (kk5 : Int32 → Int32 → Option (Int32)) (s0_38 : Int32) : Option (Int32) :=
    kk5 (v4_5 + 1) s0_38
def f_Model_isTaken_5 (a : Int32) (b : Int32) (M : Mem) : Nat → Int32 → Int32 → Option (Int32)
  | 0, _, _ => none
  | k5 + 1, v4_5, v3_5 =>
    if 4 ≤ v4_5 then (f_Model_isTaken_48 a b M 1000 0 v3_5) else (if v3_5 = 0 then ((ix ((4 * a) + v4_5) 24).bind fun j25 => if (M 4 0 0 j25) = (16 + b) then (f_Model_isTaken_j38 v4_5 (fun u0 u1 => f_Model_isTaken_5 a b M k5 u0 u1) 1) else (f_Model_isTaken_j38 v4_5 (fun u0 u1 => f_Model_isTaken_5 a b M k5 u0 u1) 0)) else (f_Model_isTaken_j38 v4_5 (fun u0 u1 => f_Model_isTaken_5 a b M k5 u0 u1) 1))
def f_Model_isTaken (a : Int32) (b : Int32) (M : Mem) : Option (Int32) :=
  f_Model_isTaken_5 a b M 1000 0 0
abbrev rm_Model_isTaken : Room := { frames := 0, cells := 0, slots := 0, locals := 0 }
set_option maxHeartbeats 4000000 in
set_option maxRecDepth 100000 in
theorem c_Model_isTaken {l : Launch} {D : va_G} {ad : Nat → Nat} {G : Nat → ClassId} {a : Int32} {b : Int32}  {M : Mem} {x : Int32} (hf : f_Model_isTaken a b M = some x) : Met l y_Model_isTaken (wc y_Model_isTaken b_Model_isTaken 5 (some .boolean)) rm_Model_isTaken (va_Pc [.ref (ad 0), .int a, .int b] (tB D ad G M)) (rd_Q (some (.int x))) 0 0 (fun _ => False) := by
  refine k_met (by decide) (Nat.le_of_ble_eq_true rfl) ?_
  intro p e s m args below meth c S hr hlk hB ls hl
  obtain ⟨hx, hb, hml, hown, hts⟩ := id S
  obtain ⟨hP, hK, hA0⟩ := hB
  have hA := wl_own hA0
  have hl : lv_has ls 5 [(0, .ref (ad 0)), (1, .int a), (2, .int b)] := hl
  unfold f_Model_isTaken at hf
  refine lv_iconst (v := 0) hx hb d_Model_isTaken_0 (by decide) ?_
  refine lv_istore_n (lv' := [(3, .int 0), (0, .ref (ad 0)), (1, .int a), (2, .int b)]) hx hb d_Model_isTaken_1 rfl hl (by decide) rfl (fun ls hl => ?_)
  refine lv_iconst (v := 0) hx hb d_Model_isTaken_2 (by decide) ?_
  refine lv_istore (lv' := [(4, .int 0), (3, .int 0), (0, .ref (ad 0)), (1, .int a), (2, .int b)]) hx hb d_Model_isTaken_3 hl (by decide) rfl (fun ls hl => ?_)
  have L5 : ∀ (k5 : Nat) (v4_5 : Int32) (v3_5 : Int32) (ls : Array Slot), lv_has ls 5 [(4, .int v4_5), (3, .int v3_5), (0, .ref (ad 0)), (1, .int a), (2, .int b)] → f_Model_isTaken_5 a b M k5 v4_5 v3_5 = some x → W p l e rm_Model_isTaken s m args below meth c s.heap [] 0 0 (MQ below (rd_Q (some (.int x))) args s 0 0 (fun _ => False)) (F0 m 5 ls []) := by
    intro k5
    induction k5 with
    | zero =>
      intro v4_5 v3_5 ls hl hf
      simp [f_Model_isTaken_5] at hf
    | succ k5 ih5 =>
      intro v4_5 v3_5 ls hl hf
      rw [f_Model_isTaken_5] at hf
      refine lv_iload hx hb d_Model_isTaken_5 (lv_at hl 0 rfl) ?_
      refine lv_iconst (v := 4) hx hb d_Model_isTaken_7 (by decide) ?_
      refine lv_icmp_ge (tgt := 45) hx hb d_Model_isTaken_8 (by decide) (fun h8 => ?_) (fun h8 => ?_)
      · rw [if_pos h8] at hf
        refine lv_iconst (v := 0) hx hb d_Model_isTaken_45 (by decide) ?_
        refine lv_istore (lv' := [(4, .int 0), (3, .int v3_5), (0, .ref (ad 0)), (1, .int a), (2, .int b)]) hx hb d_Model_isTaken_46 hl (by decide) rfl (fun ls hl => ?_)
        have L48 : ∀ (k48 : Nat) (v4_48 : Int32) (v3_48 : Int32) (ls : Array Slot), lv_has ls 5 [(4, .int v4_48), (3, .int v3_48), (0, .ref (ad 0)), (1, .int a), (2, .int b)] → f_Model_isTaken_48 a b M k48 v4_48 v3_48 = some x → W p l e rm_Model_isTaken s m args below meth c s.heap [] 0 0 (MQ below (rd_Q (some (.int x))) args s 0 0 (fun _ => False)) (F0 m 48 ls []) := by
          intro k48
          induction k48 with
          | zero =>
            intro v4_48 v3_48 ls hl hf
            simp [f_Model_isTaken_48] at hf
          | succ k48 ih48 =>
            intro v4_48 v3_48 ls hl hf
            rw [f_Model_isTaken_48] at hf
            refine lv_iload hx hb d_Model_isTaken_48 (lv_at hl 0 rfl) ?_
            refine lv_bipush (v := 6) hx hb d_Model_isTaken_50 (by decide) ?_
            refine lv_icmp_ge (tgt := 91) hx hb d_Model_isTaken_52 (by decide) (fun h52 => ?_) (fun h52 => ?_)
            · rw [if_pos h52] at hf
              refine lv_iload_n hx hb d_Model_isTaken_91 rfl (lv_at hl 1 rfl) ?_
              by_cases hz : v3_48 = 0 ∨ v3_48 = 1
              case neg => rw [if_neg hz] at hf; cases hf
              rw [if_pos hz] at hf
              cases hf
              exact r_zret hx hb hr hlk (zb hz) d_Model_isTaken_92
            · rw [if_neg h52] at hf
              refine lv_iload_n hx hb d_Model_isTaken_55 rfl (lv_at hl 1 rfl) ?_
              have J84 : ∀ (s0_84 : Int32) (ls : Array Slot), lv_has ls 5 [(4, .int v4_48), (3, .int v3_48), (0, .ref (ad 0)), (1, .int a), (2, .int b)] → f_Model_isTaken_j84 v4_48 (fun u0 u1 => f_Model_isTaken_48 a b M k48 u0 u1) s0_84 = some x → W p l e rm_Model_isTaken s m args below meth c s.heap [] 0 0 (MQ below (rd_Q (some (.int x))) args s 0 0 (fun _ => False)) (F0 m 84 ls [.int s0_84]) := by
                intro s0_84 ls hl hf
                unfold f_Model_isTaken_j84 at hf
                refine lv_istore_n (lv' := [(3, .int s0_84), (4, .int v4_48), (0, .ref (ad 0)), (1, .int a), (2, .int b)]) hx hb d_Model_isTaken_84 rfl hl (by decide) rfl (fun ls hl => ?_)
                refine lv_iinc (v := (v4_48 + 1)) (lv' := [(4, .int (v4_48 + 1)), (3, .int s0_84), (0, .ref (ad 0)), (1, .int a), (2, .int b)]) hx hb d_Model_isTaken_85 hl (k := 1) rfl rfl (by decide) rfl (fun ls hl => ?_)
                refine lv_goto (tgt := 48) hx hb d_Model_isTaken_88 (by decide) ?_
                exact ih48 _ _ _ (lv_sub hl [0, 1, 2, 3, 4] rfl) hf
              refine lv_if_ne (tgt := 79) hx hb d_Model_isTaken_56 (by decide) (fun h56 => ?_) (fun h56 => ?_)
              · rw [if_neg h56] at hf
                refine lv_iconst (v := 1) hx hb d_Model_isTaken_79 (by decide) ?_
                refine lv_goto (tgt := 84) hx hb d_Model_isTaken_80 (by decide) ?_
                exact J84 _ _ (lv_sub hl [0, 1, 2, 3, 4] rfl) hf
              · rw [if_pos h56] at hf
                refine lv_aload_n hx hb d_Model_isTaken_59 rfl (lv_at hl 2 rfl) ?_
                refine va_get (D := D) (ci := 5) (v := .ref (ad 6)) (C := R_Model) (T := F_Model) (N := 24) hx hb hts in_Model hown hK hP 0 (wl_to (by decide) (MO_at)) rfl 7 (by decide) (hts _ fl_Model_25) (fun _ h => h) rfl d_Model_isTaken_60 ?_
                refine lv_bipush (v := 48) hx hb d_Model_isTaken_63 (by decide) ?_
                refine lv_iload_n hx hb d_Model_isTaken_65 rfl (lv_at hl 3 rfl) ?_
                refine lv_imul hx hb d_Model_isTaken_66 ?_
                refine lv_bipush (v := 8) hx hb d_Model_isTaken_67 (by decide) ?_
                refine lv_iload hx hb d_Model_isTaken_69 (lv_at hl 0 rfl) ?_
                refine lv_imul hx hb d_Model_isTaken_71 ?_
                refine lv_iadd hx hb d_Model_isTaken_72 ?_
                refine lv_iload_n hx hb d_Model_isTaken_73 rfl (lv_at hl 4 rfl) ?_
                refine lv_iadd hx hb d_Model_isTaken_74 ?_
                obtain ⟨j75, hj75, hf⟩ := ob hf
                refine k_zald hx hb hK hP 6 3 (by decide) (OWE_at) rfl hj75 d_Model_isTaken_75 ?_
                refine lv_if_eq (tgt := 83) hx hb d_Model_isTaken_76 (by decide) (fun h76 => ?_) (fun h76 => ?_)
                · rw [if_pos h76] at hf
                  refine lv_iconst (v := 0) hx hb d_Model_isTaken_83 (by decide) ?_
                  exact J84 _ _ (lv_sub hl [0, 1, 2, 3, 4] rfl) hf
                · rw [if_neg h76] at hf
                  refine lv_iconst (v := 1) hx hb d_Model_isTaken_79 (by decide) ?_
                  refine lv_goto (tgt := 84) hx hb d_Model_isTaken_80 (by decide) ?_
                  exact J84 _ _ (lv_sub hl [0, 1, 2, 3, 4] rfl) hf
        exact L48 _ _ _ _ (lv_sub hl [0, 1, 2, 3, 4] rfl) hf
      · rw [if_neg h8] at hf
        refine lv_iload_n hx hb d_Model_isTaken_11 rfl (lv_at hl 1 rfl) ?_
        have J38 : ∀ (s0_38 : Int32) (ls : Array Slot), lv_has ls 5 [(4, .int v4_5), (3, .int v3_5), (0, .ref (ad 0)), (1, .int a), (2, .int b)] → f_Model_isTaken_j38 v4_5 (fun u0 u1 => f_Model_isTaken_5 a b M k5 u0 u1) s0_38 = some x → W p l e rm_Model_isTaken s m args below meth c s.heap [] 0 0 (MQ below (rd_Q (some (.int x))) args s 0 0 (fun _ => False)) (F0 m 38 ls [.int s0_38]) := by
          intro s0_38 ls hl hf
          unfold f_Model_isTaken_j38 at hf
          refine lv_istore_n (lv' := [(3, .int s0_38), (4, .int v4_5), (0, .ref (ad 0)), (1, .int a), (2, .int b)]) hx hb d_Model_isTaken_38 rfl hl (by decide) rfl (fun ls hl => ?_)
          refine lv_iinc (v := (v4_5 + 1)) (lv' := [(4, .int (v4_5 + 1)), (3, .int s0_38), (0, .ref (ad 0)), (1, .int a), (2, .int b)]) hx hb d_Model_isTaken_39 hl (k := 1) rfl rfl (by decide) rfl (fun ls hl => ?_)
          refine lv_goto (tgt := 5) hx hb d_Model_isTaken_42 (by decide) ?_
          exact ih5 _ _ _ (lv_sub hl [0, 1, 2, 3, 4] rfl) hf
        refine lv_if_ne (tgt := 33) hx hb d_Model_isTaken_12 (by decide) (fun h12 => ?_) (fun h12 => ?_)
        · rw [if_neg h12] at hf
          refine lv_iconst (v := 1) hx hb d_Model_isTaken_33 (by decide) ?_
          refine lv_goto (tgt := 38) hx hb d_Model_isTaken_34 (by decide) ?_
          exact J38 _ _ (lv_sub hl [0, 1, 2, 3, 4] rfl) hf
        · rw [if_pos h12] at hf
          refine lv_aload_n hx hb d_Model_isTaken_15 rfl (lv_at hl 2 rfl) ?_
          refine va_get (D := D) (ci := 5) (v := .ref (ad 4)) (C := R_Model) (T := F_Model) (N := 24) hx hb hts in_Model hown hK hP 0 (wl_to (by decide) (MO_at)) rfl 5 (by decide) (hts _ fl_Model_19) (fun _ h => h) rfl d_Model_isTaken_16 ?_
          refine lv_iconst (v := 4) hx hb d_Model_isTaken_19 (by decide) ?_
          refine lv_iload_n hx hb d_Model_isTaken_20 rfl (lv_at hl 3 rfl) ?_
          refine lv_imul hx hb d_Model_isTaken_21 ?_
          refine lv_iload hx hb d_Model_isTaken_22 (lv_at hl 0 rfl) ?_
          refine lv_iadd hx hb d_Model_isTaken_24 ?_
          obtain ⟨j25, hj25, hf⟩ := ob hf
          refine k_iald hx hb hK hP 4 0 (by decide) (LAB_at) rfl hj25 d_Model_isTaken_25 ?_
          refine lv_bipush (v := 16) hx hb d_Model_isTaken_26 (by decide) ?_
          refine lv_iload_n hx hb d_Model_isTaken_28 rfl (lv_at hl 4 rfl) ?_
          refine lv_iadd hx hb d_Model_isTaken_29 ?_
          refine lv_icmp_ne (tgt := 37) hx hb d_Model_isTaken_30 (by decide) (fun h30 => ?_) (fun h30 => ?_)
          · rw [if_neg h30] at hf
            refine lv_iconst (v := 0) hx hb d_Model_isTaken_37 (by decide) ?_
            exact J38 _ _ (lv_sub hl [0, 1, 2, 3, 4] rfl) hf
          · rw [if_pos h30] at hf
            refine lv_iconst (v := 1) hx hb d_Model_isTaken_33 (by decide) ?_
            refine lv_goto (tgt := 38) hx hb d_Model_isTaken_34 (by decide) ?_
            exact J38 _ _ (lv_sub hl [0, 1, 2, 3, 4] rfl) hf
  exact L5 _ _ _ _ (lv_sub hl [0, 1, 2, 3, 4] rfl) hf
def f_Model_takenOf_j26 (v3_4 : Int32) (kk4 : Int32 → Int32 → Option (Int32)) (s0_26 : Int32) : Option (Int32) :=
    kk4 (v3_4 + 1) s0_26
def f_Model_takenOf_4 (a : Int32) (M : Mem) : Nat → Int32 → Int32 → Option (Int32)
  | 0, _, _ => none
  | k4 + 1, v3_4, v2_4 =>
    if 8 ≤ v3_4 then (some v2_4) else ((f_Model_isTaken a v3_4 M).bind fun r13 => if r13 = 0 then (f_Model_takenOf_j26 v3_4 (fun u0 u1 => f_Model_takenOf_4 a M k4 u0 u1) v2_4) else (f_Model_takenOf_j26 v3_4 (fun u0 u1 => f_Model_takenOf_4 a M k4 u0 u1) (v2_4 + 1)))
def f_Model_takenOf (a : Int32) (M : Mem) : Option (Int32) :=
  f_Model_takenOf_4 a M 1000 0 0
abbrev rm_Model_takenOf : Room := { frames := 1, cells := 0, slots := 0, locals := 24 }
set_option maxHeartbeats 4000000 in
set_option maxRecDepth 100000 in
theorem c_Model_takenOf {l : Launch} {D : va_G} {ad : Nat → Nat} {G : Nat → ClassId} {a : Int32}  {M : Mem} {x : Int32} (hf : f_Model_takenOf a M = some x) : Met l y_Model_takenOf (wc y_Model_takenOf b_Model_takenOf 4 (some .int)) rm_Model_takenOf (va_Pc [.ref (ad 0), .int a] (tB D ad G M)) (rd_Q (some (.int x))) 0 0 (fun _ => False) := by
  refine k_met (by decide) (Nat.le_of_ble_eq_true rfl) ?_
  intro p e s m args below meth c S hr hlk hB ls hl
  obtain ⟨hx, hb, hml, hown, hts⟩ := id S
  obtain ⟨hP, hK, hA0⟩ := hB
  have hA := wl_own hA0
  have hl : lv_has ls 4 [(0, .ref (ad 0)), (1, .int a)] := hl
  unfold f_Model_takenOf at hf
  refine lv_iconst (v := 0) hx hb d_Model_takenOf_0 (by decide) ?_
  refine lv_istore_n (lv' := [(2, .int 0), (0, .ref (ad 0)), (1, .int a)]) hx hb d_Model_takenOf_1 rfl hl (by decide) rfl (fun ls hl => ?_)
  refine lv_iconst (v := 0) hx hb d_Model_takenOf_2 (by decide) ?_
  refine lv_istore_n (lv' := [(3, .int 0), (2, .int 0), (0, .ref (ad 0)), (1, .int a)]) hx hb d_Model_takenOf_3 rfl hl (by decide) rfl (fun ls hl => ?_)
  have L4 : ∀ (k4 : Nat) (v3_4 : Int32) (v2_4 : Int32) (ls : Array Slot), lv_has ls 4 [(3, .int v3_4), (2, .int v2_4), (0, .ref (ad 0)), (1, .int a)] → f_Model_takenOf_4 a M k4 v3_4 v2_4 = some x → W p l e rm_Model_takenOf s m args below meth c s.heap [] 0 0 (MQ below (rd_Q (some (.int x))) args s 0 0 (fun _ => False)) (F0 m 4 ls []) := by
    intro k4
    induction k4 with
    | zero =>
      intro v3_4 v2_4 ls hl hf
      simp [f_Model_takenOf_4] at hf
    | succ k4 ih4 =>
      intro v3_4 v2_4 ls hl hf
      rw [f_Model_takenOf_4] at hf
      refine lv_iload_n hx hb d_Model_takenOf_4 rfl (lv_at hl 0 rfl) ?_
      refine lv_bipush (v := 8) hx hb d_Model_takenOf_5 (by decide) ?_
      refine lv_icmp_ge (tgt := 33) hx hb d_Model_takenOf_7 (by decide) (fun h7 => ?_) (fun h7 => ?_)
      · rw [if_pos h7] at hf
        refine lv_iload_n hx hb d_Model_takenOf_33 rfl (lv_at hl 1 rfl) ?_
        cases hf
        exact r_iret hx hb hr hlk d_Model_takenOf_34
      · rw [if_neg h7] at hf
        refine lv_aload_n hx hb d_Model_takenOf_10 rfl (lv_at hl 2 rfl) ?_
        refine lv_iload_n hx hb d_Model_takenOf_11 rfl (lv_at hl 3 rfl) ?_
        refine lv_iload_n hx hb d_Model_takenOf_12 rfl (lv_at hl 0 rfl) ?_
        obtain ⟨r13, hc13, hf⟩ := ob hf
        refine k_rdi (k_vir S (c_Model_isTaken (l := l) (D := D) (ad := ad) (G := G) hc13) g_Model_72 hd_Model_isTaken ⟨rfl, rfl⟩ ⟨Nat.le_of_ble_eq_true rfl, Nat.le_of_ble_eq_true rfl⟩ wl_blind (va_recv hK hP rfl (wl_to (by decide) (MO_at))) (wl_pre hP hK hA) rfl hl.1 rfl (Nat.le_of_ble_eq_true rfl) d_Model_takenOf_13 (Nat.zero_le _) (Nat.zero_le _)) ?_
        have J26 : ∀ (s0_26 : Int32) (ls : Array Slot), lv_has ls 4 [(3, .int v3_4), (2, .int v2_4), (0, .ref (ad 0)), (1, .int a)] → f_Model_takenOf_j26 v3_4 (fun u0 u1 => f_Model_takenOf_4 a M k4 u0 u1) s0_26 = some x → W p l e rm_Model_takenOf s m args below meth c s.heap [] 0 0 (MQ below (rd_Q (some (.int x))) args s 0 0 (fun _ => False)) (F0 m 26 ls [.int s0_26]) := by
          intro s0_26 ls hl hf
          unfold f_Model_takenOf_j26 at hf
          refine lv_istore_n (lv' := [(2, .int s0_26), (3, .int v3_4), (0, .ref (ad 0)), (1, .int a)]) hx hb d_Model_takenOf_26 rfl hl (by decide) rfl (fun ls hl => ?_)
          refine lv_iinc (v := (v3_4 + 1)) (lv' := [(3, .int (v3_4 + 1)), (2, .int s0_26), (0, .ref (ad 0)), (1, .int a)]) hx hb d_Model_takenOf_27 hl (k := 1) rfl rfl (by decide) rfl (fun ls hl => ?_)
          refine lv_goto (tgt := 4) hx hb d_Model_takenOf_30 (by decide) ?_
          exact ih4 _ _ _ (lv_sub hl [0, 1, 2, 3] rfl) hf
        refine lv_if_eq (tgt := 25) hx hb d_Model_takenOf_16 (by decide) (fun h16 => ?_) (fun h16 => ?_)
        · rw [if_pos h16] at hf
          refine lv_iload_n hx hb d_Model_takenOf_25 rfl (lv_at hl 1 rfl) ?_
          exact J26 _ _ (lv_sub hl [0, 1, 2, 3] rfl) hf
        · rw [if_neg h16] at hf
          refine lv_iload_n hx hb d_Model_takenOf_19 rfl (lv_at hl 1 rfl) ?_
          refine lv_iconst (v := 1) hx hb d_Model_takenOf_20 (by decide) ?_
          refine lv_iadd hx hb d_Model_takenOf_21 ?_
          refine lv_goto (tgt := 26) hx hb d_Model_takenOf_22 (by decide) ?_
          exact J26 _ _ (lv_sub hl [0, 1, 2, 3] rfl) hf
  exact L4 _ _ _ _ (lv_sub hl [0, 1, 2, 3] rfl) hf
def f_Model_post (a : Int32) (b : Int32) (z : Int32) (d : Int32) (g : Int32) (M : Mem) : Option (Mem) :=
  if (M 0 0 0 8) = 240 then (some (mset M 0 0 0 9 ((M 0 0 0 9) + 1))) else ((ix (M 0 0 0 8) 240).bind fun j30 => (ix ((mset M 7 0 0 j30 a) 0 0 0 8) 240).bind fun j40 => (ix ((mset (mset M 7 0 0 j30 a) 8 0 0 j40 b) 0 0 0 8) 240).bind fun j50 => (ix ((mset (mset (mset M 7 0 0 j30 a) 8 0 0 j40 b) 9 0 0 j50 z) 0 0 0 8) 240).bind fun j61 => (ix ((mset (mset (mset (mset M 7 0 0 j30 a) 8 0 0 j40 b) 9 0 0 j50 z) 10 0 0 j61 d) 0 0 0 8) 240).bind fun j72 => some (mset (mset (mset (mset (mset (mset M 7 0 0 j30 a) 8 0 0 j40 b) 9 0 0 j50 z) 10 0 0 j61 d) 11 0 0 j72 g) 0 0 0 8 (((mset (mset (mset (mset (mset M 7 0 0 j30 a) 8 0 0 j40 b) 9 0 0 j50 z) 10 0 0 j61 d) 11 0 0 j72 g) 0 0 0 8) + 1)))
abbrev rm_Model_post : Room := { frames := 0, cells := 0, slots := 0, locals := 0 }
set_option maxHeartbeats 4000000 in
set_option maxRecDepth 100000 in
theorem c_Model_post {l : Launch} {D : va_G} {ad : Nat → Nat} {G : Nat → ClassId} {a : Int32} {b : Int32} {z : Int32} {d : Int32} {g : Int32}  {M : Mem} {x : Mem} (hf : f_Model_post a b z d g M = some x) : Met l y_Model_post (wc y_Model_post b_Model_post 6 (none)) rm_Model_post (va_Pc [.ref (ad 0), .int a, .int b, .int z, .int d, .int g] (tB D ad G M)) (wr_Q (none) D cls 15 ad (tE ad G x)) 0 0 (wl_A 15 ad) := by
  refine k_met (by decide) (Nat.le_of_ble_eq_true rfl) ?_
  intro p e s m args below meth c S hr hlk hB ls hl
  obtain ⟨hx, hb, hml, hown, hts⟩ := id S
  obtain ⟨hP, hK, hA0⟩ := hB
  have hA := wl_own hA0
  have hl : lv_has ls 6 [(0, .ref (ad 0)), (1, .int a), (2, .int b), (3, .int z), (4, .int d), (5, .int g)] := hl
  have hS : va_S (wl_A 15 ad) s.heap s.heap [] := va_S.rf
  unfold f_Model_post at hf
  refine lv_aload_n hx hb d_Model_post_0 rfl (lv_at hl 0 rfl) ?_
  refine va_get (D := D) (ci := 5) (v := .int (M 0 0 0 8)) (C := R_Model) (T := F_Model) (N := 24) hx hb hts in_Model hown hK hP 0 (wl_to (by decide) (MO_at)) rfl 8 (by decide) (hts _ fl_Model_76) (fun _ h => h) rfl d_Model_post_1 ?_
  refine lv_sipush (v := 240) hx hb d_Model_post_4 (by decide) ?_
  refine lv_icmp_ne (tgt := 21) hx hb d_Model_post_7 (by decide) (fun h7 => ?_) (fun h7 => ?_)
  · rw [if_neg h7] at hf
    refine lv_aload_n hx hb d_Model_post_21 rfl (lv_at hl 0 rfl) ?_
    refine va_get (D := D) (ci := 5) (v := .ref (ad 7)) (C := R_Model) (T := F_Model) (N := 24) hx hb hts in_Model hown hK hP 0 (wl_to (by decide) (MO_at)) rfl 10 (by decide) (hts _ fl_Model_29) (fun _ h => h) rfl d_Model_post_22 ?_
    refine lv_aload_n hx hb d_Model_post_25 rfl (lv_at hl 0 rfl) ?_
    refine va_get (D := D) (ci := 5) (v := .int (M 0 0 0 8)) (C := R_Model) (T := F_Model) (N := 24) hx hb hts in_Model hown hK hP 0 (wl_to (by decide) (MO_at)) rfl 8 (by decide) (hts _ fl_Model_76) (fun _ h => h) rfl d_Model_post_26 ?_
    refine lv_iload_n hx hb d_Model_post_29 rfl (lv_at hl 1 rfl) ?_
    obtain ⟨j30, hj30, hf⟩ := ob hf
    refine m_iast (t := 7) (a := 0) (b := 0) (x := a) hx hb hK hP hA hS tJ 7 0 (by decide) ⟨rfl, rfl, rfl⟩ (fun f => FROM_row f) rfl hj30 d_Model_post_30 (fun H locs hP hS => ?_)
    refine lv_aload_n hx hb d_Model_post_31 rfl (lv_at hl 0 rfl) ?_
    refine va_get (D := D) (ci := 5) (v := .ref (ad 8)) (C := R_Model) (T := F_Model) (N := 24) hx hb hts in_Model hown hK hP 0 (wl_to (by decide) (MO_at)) rfl 11 (by decide) (hts _ fl_Model_32) (fun _ h => h) rfl d_Model_post_32 ?_
    refine lv_aload_n hx hb d_Model_post_35 rfl (lv_at hl 0 rfl) ?_
    refine va_get (D := D) (ci := 5) (v := .int ((mset M 7 0 0 j30 a) 0 0 0 8)) (C := R_Model) (T := F_Model) (N := 24) hx hb hts in_Model hown hK hP 0 (wl_to (by decide) (MO_at)) rfl 8 (by decide) (hts _ fl_Model_76) (fun _ h => h) rfl d_Model_post_36 ?_
    refine lv_iload_n hx hb d_Model_post_39 rfl (lv_at hl 2 rfl) ?_
    obtain ⟨j40, hj40, hf⟩ := ob hf
    refine m_iast (t := 8) (a := 0) (b := 0) (x := b) hx hb hK hP hA hS tJ 8 0 (by decide) ⟨rfl, rfl, rfl⟩ (fun f => TOO_row f) rfl hj40 d_Model_post_40 (fun H locs hP hS => ?_)
    refine lv_aload_n hx hb d_Model_post_41 rfl (lv_at hl 0 rfl) ?_
    refine va_get (D := D) (ci := 5) (v := .ref (ad 9)) (C := R_Model) (T := F_Model) (N := 24) hx hb hts in_Model hown hK hP 0 (wl_to (by decide) (MO_at)) rfl 12 (by decide) (hts _ fl_Model_35) (fun _ h => h) rfl d_Model_post_42 ?_
    refine lv_aload_n hx hb d_Model_post_45 rfl (lv_at hl 0 rfl) ?_
    refine va_get (D := D) (ci := 5) (v := .int ((mset (mset M 7 0 0 j30 a) 8 0 0 j40 b) 0 0 0 8)) (C := R_Model) (T := F_Model) (N := 24) hx hb hts in_Model hown hK hP 0 (wl_to (by decide) (MO_at)) rfl 8 (by decide) (hts _ fl_Model_76) (fun _ h => h) rfl d_Model_post_46 ?_
    refine lv_iload_n hx hb d_Model_post_49 rfl (lv_at hl 3 rfl) ?_
    obtain ⟨j50, hj50, hf⟩ := ob hf
    refine m_iast (t := 9) (a := 0) (b := 0) (x := z) hx hb hK hP hA hS tJ 9 0 (by decide) ⟨rfl, rfl, rfl⟩ (fun f => KIND_row f) rfl hj50 d_Model_post_50 (fun H locs hP hS => ?_)
    refine lv_aload_n hx hb d_Model_post_51 rfl (lv_at hl 0 rfl) ?_
    refine va_get (D := D) (ci := 5) (v := .ref (ad 10)) (C := R_Model) (T := F_Model) (N := 24) hx hb hts in_Model hown hK hP 0 (wl_to (by decide) (MO_at)) rfl 13 (by decide) (hts _ fl_Model_38) (fun _ h => h) rfl d_Model_post_52 ?_
    refine lv_aload_n hx hb d_Model_post_55 rfl (lv_at hl 0 rfl) ?_
    refine va_get (D := D) (ci := 5) (v := .int ((mset (mset (mset M 7 0 0 j30 a) 8 0 0 j40 b) 9 0 0 j50 z) 0 0 0 8)) (C := R_Model) (T := F_Model) (N := 24) hx hb hts in_Model hown hK hP 0 (wl_to (by decide) (MO_at)) rfl 8 (by decide) (hts _ fl_Model_76) (fun _ h => h) rfl d_Model_post_56 ?_
    refine lv_iload hx hb d_Model_post_59 (lv_at hl 4 rfl) ?_
    obtain ⟨j61, hj61, hf⟩ := ob hf
    refine m_iast (t := 10) (a := 0) (b := 0) (x := d) hx hb hK hP hA hS tJ 10 0 (by decide) ⟨rfl, rfl, rfl⟩ (fun f => ABO_row f) rfl hj61 d_Model_post_61 (fun H locs hP hS => ?_)
    refine lv_aload_n hx hb d_Model_post_62 rfl (lv_at hl 0 rfl) ?_
    refine va_get (D := D) (ci := 5) (v := .ref (ad 11)) (C := R_Model) (T := F_Model) (N := 24) hx hb hts in_Model hown hK hP 0 (wl_to (by decide) (MO_at)) rfl 14 (by decide) (hts _ fl_Model_41) (fun _ h => h) rfl d_Model_post_63 ?_
    refine lv_aload_n hx hb d_Model_post_66 rfl (lv_at hl 0 rfl) ?_
    refine va_get (D := D) (ci := 5) (v := .int ((mset (mset (mset (mset M 7 0 0 j30 a) 8 0 0 j40 b) 9 0 0 j50 z) 10 0 0 j61 d) 0 0 0 8)) (C := R_Model) (T := F_Model) (N := 24) hx hb hts in_Model hown hK hP 0 (wl_to (by decide) (MO_at)) rfl 8 (by decide) (hts _ fl_Model_76) (fun _ h => h) rfl d_Model_post_67 ?_
    refine lv_iload hx hb d_Model_post_70 (lv_at hl 5 rfl) ?_
    obtain ⟨j72, hj72, hf⟩ := ob hf
    refine m_iast (t := 11) (a := 0) (b := 0) (x := g) hx hb hK hP hA hS tJ 11 0 (by decide) ⟨rfl, rfl, rfl⟩ (fun f => WHI_row f) rfl hj72 d_Model_post_72 (fun H locs hP hS => ?_)
    refine lv_aload_n hx hb d_Model_post_73 rfl (lv_at hl 0 rfl) ?_
    refine lv_dup hx hb d_Model_post_74 rfl ?_
    refine va_get (D := D) (ci := 5) (v := .int ((mset (mset (mset (mset (mset M 7 0 0 j30 a) 8 0 0 j40 b) 9 0 0 j50 z) 10 0 0 j61 d) 11 0 0 j72 g) 0 0 0 8)) (C := R_Model) (T := F_Model) (N := 24) hx hb hts in_Model hown hK hP 0 (wl_to (by decide) (MO_at)) rfl 8 (by decide) (hts _ fl_Model_76) (fun _ h => h) rfl d_Model_post_75 ?_
    refine lv_iconst (v := 1) hx hb d_Model_post_78 (by decide) ?_
    refine lv_iadd hx hb d_Model_post_79 ?_
    refine m_put (t := 0) (a := 0) (b := 0) (x := (((mset (mset (mset (mset (mset M 7 0 0 j30 a) 8 0 0 j40 b) 9 0 0 j50 z) 10 0 0 j61 d) 11 0 0 j72 g) 0 0 0 8) + 1)) (ci := 5) (C := R_Model) (T := F_Model) (N := 24) hx hb hts in_Model t_Model ty_Model nm_Model hown hK hP hA hS tJ 0 (by decide) (Model_fs ad) (fun _ => rfl) ⟨rfl, rfl, rfl⟩ rfl 8 (by decide) (hts _ fl_Model_76) rfl (by decide +kernel) (fun _ => ⟨Nat.le_of_ble_eq_true rfl, rfl⟩) d_Model_post_80 (fun H locs hP hS => ?_)
    cases hf
    exact w_vret hx hb hr hlk hP hS d_Model_post_83
  · rw [if_pos h7] at hf
    refine lv_aload_n hx hb d_Model_post_10 rfl (lv_at hl 0 rfl) ?_
    refine lv_dup hx hb d_Model_post_11 rfl ?_
    refine va_get (D := D) (ci := 5) (v := .int (M 0 0 0 9)) (C := R_Model) (T := F_Model) (N := 24) hx hb hts in_Model hown hK hP 0 (wl_to (by decide) (MO_at)) rfl 9 (by decide) (hts _ fl_Model_79) (fun _ h => h) rfl d_Model_post_12 ?_
    refine lv_iconst (v := 1) hx hb d_Model_post_15 (by decide) ?_
    refine lv_iadd hx hb d_Model_post_16 ?_
    refine m_put (t := 0) (a := 0) (b := 0) (x := ((M 0 0 0 9) + 1)) (ci := 5) (C := R_Model) (T := F_Model) (N := 24) hx hb hts in_Model t_Model ty_Model nm_Model hown hK hP hA hS tJ 0 (by decide) (Model_fs ad) (fun _ => rfl) ⟨rfl, rfl, rfl⟩ rfl 9 (by decide) (hts _ fl_Model_79) rfl (by decide +kernel) (fun _ => ⟨Nat.le_of_ble_eq_true rfl, rfl⟩) d_Model_post_17 (fun H locs hP hS => ?_)
    cases hf
    exact w_vret hx hb hr hlk hP hS d_Model_post_20
def f_Model_take_j84 (v4_47 : Int32) (kk47 : Int32 → Mem → Option (Mem)) (N84 : Mem) : Option (Mem) :=
    kk47 (v4_47 + 1) N84
def f_Model_take_47 (a : Int32) (b : Int32) (v3_2 : Int32) : Nat → Int32 → Mem → Option (Mem)
  | 0, _, _ => none
  | k47 + 1, v4_47, N47 =>
    if (N47 0 0 0 1) ≤ v4_47 then (some N47) else ((ix ((6 * a) + v4_47) 36).bind fun j67 => if (N47 1 0 0 j67) ≤ 0 then (f_Model_take_j84 v4_47 (fun u0 u1 => f_Model_take_47 a b v3_2 k47 u0 u1) N47) else ((f_Model_post a v4_47 1 b (16 + v3_2) N47).bind fun r81 => f_Model_take_j84 v4_47 (fun u0 u1 => f_Model_take_47 a b v3_2 k47 u0 u1) r81))
def f_Model_take_j23 (a : Int32) (b : Int32) (v3_2 : Int32) (N2 : Mem) : Option (Mem) :=
    if v3_2 = 8 then (some N2) else ((ix ((4 * a) + b) 24).bind fun j43 => f_Model_take_47 a b v3_2 1000 0 (mset N2 4 0 0 j43 (16 + v3_2)))
def f_Model_take_2 (a : Int32) (b : Int32) : Nat → Int32 → Mem → Option (Mem)
  | 0, _, _ => none
  | k2 + 1, v3_2, N2 =>
    if 8 ≤ v3_2 then (f_Model_take_j23 a b v3_2 N2) else ((f_Model_isTaken a v3_2 N2).bind fun r11 => if r11 = 0 then (f_Model_take_j23 a b v3_2 N2) else (f_Model_take_2 a b k2 (v3_2 + 1) N2))
def f_Model_take (a : Int32) (b : Int32) (M : Mem) : Option (Mem) :=
  f_Model_take_2 a b 1000 0 M
abbrev rm_Model_take : Room := { frames := 1, cells := 0, slots := 0, locals := 25 }
set_option maxHeartbeats 4000000 in
set_option maxRecDepth 100000 in
theorem c_Model_take {l : Launch} {D : va_G} {ad : Nat → Nat} {G : Nat → ClassId} {a : Int32} {b : Int32}  {M : Mem} {x : Mem} (hf : f_Model_take a b M = some x) : Met l y_Model_take (wc y_Model_take b_Model_take 5 (none)) rm_Model_take (va_Pc [.ref (ad 0), .int a, .int b] (tB D ad G M)) (wr_Q (none) D cls 15 ad (tE ad G x)) 0 0 (wl_A 15 ad) := by
  refine k_met (by decide) (Nat.le_of_ble_eq_true rfl) ?_
  intro p e s m args below meth c S hr hlk hB ls hl
  obtain ⟨hx, hb, hml, hown, hts⟩ := id S
  obtain ⟨hP, hK, hA0⟩ := hB
  have hA := wl_own hA0
  have hl : lv_has ls 5 [(0, .ref (ad 0)), (1, .int a), (2, .int b)] := hl
  have hS : va_S (wl_A 15 ad) s.heap s.heap [] := va_S.rf
  unfold f_Model_take at hf
  refine lv_iconst (v := 0) hx hb d_Model_take_0 (by decide) ?_
  refine lv_istore_n (lv' := [(3, .int 0), (0, .ref (ad 0)), (1, .int a), (2, .int b)]) hx hb d_Model_take_1 rfl hl (by decide) rfl (fun ls hl => ?_)
  have L2 : ∀ (k2 : Nat) (v3_2 : Int32) (N2 : Mem) (H : Heap) (locs : List Loc) (ls : Array Slot), lv_has ls 5 [(3, .int v3_2), (0, .ref (ad 0)), (1, .int a), (2, .int b)] → va_P D cls (tW ad G N2) H → va_S (wl_A 15 ad) s.heap H locs → f_Model_take_2 a b k2 v3_2 N2 = some x → W p l e rm_Model_take s m args below meth c H locs 0 0 (MQ below (wr_Q (none) D cls 15 ad (tE ad G x)) args s 0 0 (wl_A 15 ad)) (F0 m 2 ls []) := by
    intro k2
    induction k2 with
    | zero =>
      intro v3_2 N2 H locs ls hl hP hS hf
      simp [f_Model_take_2] at hf
    | succ k2 ih2 =>
      intro v3_2 N2 H locs ls hl hP hS hf
      rw [f_Model_take_2] at hf
      refine lv_iload_n hx hb d_Model_take_2 rfl (lv_at hl 0 rfl) ?_
      refine lv_bipush (v := 8) hx hb d_Model_take_3 (by decide) ?_
      have J23 : ∀ (ls : Array Slot), lv_has ls 5 [(3, .int v3_2), (0, .ref (ad 0)), (1, .int a), (2, .int b)] → f_Model_take_j23 a b v3_2 N2 = some x → W p l e rm_Model_take s m args below meth c H locs 0 0 (MQ below (wr_Q (none) D cls 15 ad (tE ad G x)) args s 0 0 (wl_A 15 ad)) (F0 m 23 ls []) := by
        intro ls hl hf
        unfold f_Model_take_j23 at hf
        refine lv_iload_n hx hb d_Model_take_23 rfl (lv_at hl 0 rfl) ?_
        refine lv_bipush (v := 8) hx hb d_Model_take_24 (by decide) ?_
        refine lv_icmp_ne (tgt := 30) hx hb d_Model_take_26 (by decide) (fun h26 => ?_) (fun h26 => ?_)
        · rw [if_neg h26] at hf
          refine lv_aload_n hx hb d_Model_take_30 rfl (lv_at hl 1 rfl) ?_
          refine va_get (D := D) (ci := 5) (v := .ref (ad 4)) (C := R_Model) (T := F_Model) (N := 24) hx hb hts in_Model hown hK hP 0 (wl_to (by decide) (MO_at)) rfl 5 (by decide) (hts _ fl_Model_19) (fun _ h => h) rfl d_Model_take_31 ?_
          refine lv_iconst (v := 4) hx hb d_Model_take_34 (by decide) ?_
          refine lv_iload_n hx hb d_Model_take_35 rfl (lv_at hl 2 rfl) ?_
          refine lv_imul hx hb d_Model_take_36 ?_
          refine lv_iload_n hx hb d_Model_take_37 rfl (lv_at hl 3 rfl) ?_
          refine lv_iadd hx hb d_Model_take_38 ?_
          refine lv_bipush (v := 16) hx hb d_Model_take_39 (by decide) ?_
          refine lv_iload_n hx hb d_Model_take_41 rfl (lv_at hl 0 rfl) ?_
          refine lv_iadd hx hb d_Model_take_42 ?_
          obtain ⟨j43, hj43, hf⟩ := ob hf
          refine m_iast (t := 4) (a := 0) (b := 0) (x := (16 + v3_2)) hx hb hK hP hA hS tJ 4 0 (by decide) ⟨rfl, rfl, rfl⟩ (fun f => LAB_row f) rfl hj43 d_Model_take_43 (fun H locs hP hS => ?_)
          refine lv_iconst (v := 0) hx hb d_Model_take_44 (by decide) ?_
          refine lv_istore (lv' := [(4, .int 0), (3, .int v3_2), (0, .ref (ad 0)), (1, .int a), (2, .int b)]) hx hb d_Model_take_45 hl (by decide) rfl (fun ls hl => ?_)
          have L47 : ∀ (k47 : Nat) (v4_47 : Int32) (N47 : Mem) (H : Heap) (locs : List Loc) (ls : Array Slot), lv_has ls 5 [(4, .int v4_47), (3, .int v3_2), (0, .ref (ad 0)), (1, .int a), (2, .int b)] → va_P D cls (tW ad G N47) H → va_S (wl_A 15 ad) s.heap H locs → f_Model_take_47 a b v3_2 k47 v4_47 N47 = some x → W p l e rm_Model_take s m args below meth c H locs 0 0 (MQ below (wr_Q (none) D cls 15 ad (tE ad G x)) args s 0 0 (wl_A 15 ad)) (F0 m 47 ls []) := by
            intro k47
            induction k47 with
            | zero =>
              intro v4_47 N47 H locs ls hl hP hS hf
              simp [f_Model_take_47] at hf
            | succ k47 ih47 =>
              intro v4_47 N47 H locs ls hl hP hS hf
              rw [f_Model_take_47] at hf
              refine lv_iload hx hb d_Model_take_47 (lv_at hl 0 rfl) ?_
              refine lv_aload_n hx hb d_Model_take_49 rfl (lv_at hl 2 rfl) ?_
              refine va_get (D := D) (ci := 5) (v := .int (N47 0 0 0 1)) (C := R_Model) (T := F_Model) (N := 24) hx hb hts in_Model hown hK hP 0 (wl_to (by decide) (MO_at)) rfl 1 (by decide) (hts _ fl_Model_53) (fun _ h => h) rfl d_Model_take_50 ?_
              refine lv_icmp_ge (tgt := 90) hx hb d_Model_take_53 (by decide) (fun h53 => ?_) (fun h53 => ?_)
              · rw [if_pos h53] at hf
                cases hf
                exact w_vret hx hb hr hlk hP hS d_Model_take_90
              · rw [if_neg h53] at hf
                refine lv_aload_n hx hb d_Model_take_56 rfl (lv_at hl 2 rfl) ?_
                refine va_get (D := D) (ci := 5) (v := .ref (ad 1)) (C := R_Model) (T := F_Model) (N := 24) hx hb hts in_Model hown hK hP 0 (wl_to (by decide) (MO_at)) rfl 2 (by decide) (hts _ fl_Model_7) (fun _ h => h) rfl d_Model_take_57 ?_
                refine lv_bipush (v := 6) hx hb d_Model_take_60 (by decide) ?_
                refine lv_iload_n hx hb d_Model_take_62 rfl (lv_at hl 3 rfl) ?_
                refine lv_imul hx hb d_Model_take_63 ?_
                refine lv_iload hx hb d_Model_take_64 (lv_at hl 0 rfl) ?_
                refine lv_iadd hx hb d_Model_take_66 ?_
                obtain ⟨j67, hj67, hf⟩ := ob hf
                refine k_iald hx hb hK hP 1 0 (by decide) (COST_at) rfl hj67 d_Model_take_67 ?_
                have J84 : ∀ (N84 : Mem) (H : Heap) (locs : List Loc) (ls : Array Slot), lv_has ls 5 [(4, .int v4_47), (3, .int v3_2), (0, .ref (ad 0)), (1, .int a), (2, .int b)] → va_P D cls (tW ad G N84) H → va_S (wl_A 15 ad) s.heap H locs → f_Model_take_j84 v4_47 (fun u0 u1 => f_Model_take_47 a b v3_2 k47 u0 u1) N84 = some x → W p l e rm_Model_take s m args below meth c H locs 0 0 (MQ below (wr_Q (none) D cls 15 ad (tE ad G x)) args s 0 0 (wl_A 15 ad)) (F0 m 84 ls []) := by
                  intro N84 H locs ls hl hP hS hf
                  unfold f_Model_take_j84 at hf
                  refine lv_iinc (v := (v4_47 + 1)) (lv' := [(4, .int (v4_47 + 1)), (3, .int v3_2), (0, .ref (ad 0)), (1, .int a), (2, .int b)]) hx hb d_Model_take_84 hl (k := 0) rfl rfl (by decide) rfl (fun ls hl => ?_)
                  refine lv_goto (tgt := 47) hx hb d_Model_take_87 (by decide) ?_
                  exact ih47 _ _ _ _ _ (lv_sub hl [0, 1, 2, 3, 4] rfl) hP hS hf
                refine lv_if_le (tgt := 84) hx hb d_Model_take_68 (by decide) (fun h68 => ?_) (fun h68 => ?_)
                · rw [if_pos h68] at hf
                  exact J84 _ _ _ _ (lv_sub hl [0, 1, 2, 3, 4] rfl) hP hS hf
                · rw [if_neg h68] at hf
                  refine lv_aload_n hx hb d_Model_take_71 rfl (lv_at hl 2 rfl) ?_
                  refine lv_iload_n hx hb d_Model_take_72 rfl (lv_at hl 3 rfl) ?_
                  refine lv_iload hx hb d_Model_take_73 (lv_at hl 0 rfl) ?_
                  refine lv_iconst (v := 1) hx hb d_Model_take_75 (by decide) ?_
                  refine lv_iload_n hx hb d_Model_take_76 rfl (lv_at hl 4 rfl) ?_
                  refine lv_bipush (v := 16) hx hb d_Model_take_77 (by decide) ?_
                  refine lv_iload_n hx hb d_Model_take_79 rfl (lv_at hl 1 rfl) ?_
                  refine lv_iadd hx hb d_Model_take_80 ?_
                  obtain ⟨r81, hc81, hf⟩ := ob hf
                  refine k_wrv (k_vir S (c_Model_post (l := l) (D := D) (ad := ad) (G := G) hc81) g_Model_82 hd_Model_post ⟨rfl, rfl⟩ ⟨Nat.le_of_ble_eq_true rfl, Nat.le_of_ble_eq_true rfl⟩ wl_blind (va_recv hK hP rfl (wl_to (by decide) (MO_at))) (wl_pre hP hK hA) rfl hl.1 rfl (Nat.le_of_ble_eq_true rfl) d_Model_take_81 (Nat.zero_le _) (Nat.zero_le _)) hS (fun _ h => h) (fun H locs hP _ _ hS => ?_)
                  exact J84 _ _ _ _ (lv_sub hl [0, 1, 2, 3, 4] rfl) hP hS hf
          exact L47 _ _ _ _ _ _ (lv_sub hl [0, 1, 2, 3, 4] rfl) hP hS hf
        · rw [if_pos h26] at hf
          cases hf
          exact w_vret hx hb hr hlk hP hS d_Model_take_29
      refine lv_icmp_ge (tgt := 23) hx hb d_Model_take_5 (by decide) (fun h5 => ?_) (fun h5 => ?_)
      · rw [if_pos h5] at hf
        exact J23 _ (lv_sub hl [0, 1, 2, 3] rfl) hf
      · rw [if_neg h5] at hf
        refine lv_aload_n hx hb d_Model_take_8 rfl (lv_at hl 1 rfl) ?_
        refine lv_iload_n hx hb d_Model_take_9 rfl (lv_at hl 2 rfl) ?_
        refine lv_iload_n hx hb d_Model_take_10 rfl (lv_at hl 0 rfl) ?_
        obtain ⟨r11, hc11, hf⟩ := ob hf
        refine k_rdi (k_vir S (c_Model_isTaken (l := l) (D := D) (ad := ad) (G := G) hc11) g_Model_72 hd_Model_isTaken ⟨rfl, rfl⟩ ⟨Nat.le_of_ble_eq_true rfl, Nat.le_of_ble_eq_true rfl⟩ wl_blind (va_recv hK hP rfl (wl_to (by decide) (MO_at))) (wl_pre hP hK hA) rfl hl.1 rfl (Nat.le_of_ble_eq_true rfl) d_Model_take_11 (Nat.zero_le _) (Nat.zero_le _)) ?_
        refine lv_if_eq (tgt := 23) hx hb d_Model_take_14 (by decide) (fun h14 => ?_) (fun h14 => ?_)
        · rw [if_pos h14] at hf
          exact J23 _ (lv_sub hl [0, 1, 2, 3] rfl) hf
        · rw [if_neg h14] at hf
          refine lv_iinc (v := (v3_2 + 1)) (lv' := [(3, .int (v3_2 + 1)), (0, .ref (ad 0)), (1, .int a), (2, .int b)]) hx hb d_Model_take_17 hl (k := 0) rfl rfl (by decide) rfl (fun ls hl => ?_)
          refine lv_goto (tgt := 2) hx hb d_Model_take_20 (by decide) ?_
          exact ih2 _ _ _ _ _ (lv_sub hl [0, 1, 2, 3] rfl) hP hS hf
  exact L2 _ _ _ _ _ _ (lv_sub hl [0, 1, 2, 3] rfl) hP hS hf
def f_Model_withdraw_j80 (v4_25 : Int32) (kk25 : Int32 → Mem → Option (Mem)) (N80 : Mem) : Option (Mem) :=
    kk25 (v4_25 + 1) N80
def f_Model_withdraw_25 (a : Int32) (b : Int32) (M : Mem) (j9 : Nat) : Nat → Int32 → Mem → Option (Mem)
  | 0, _, _ => none
  | k25 + 1, v4_25, N25 =>
    if (N25 0 0 0 1) ≤ v4_25 then (some N25) else ((ix ((6 * a) + v4_25) 36).bind fun j45 => if (N25 1 0 0 j45) ≤ 0 then (f_Model_withdraw_j80 v4_25 (fun u0 u1 => f_Model_withdraw_25 a b M j9 k25 u0 u1) N25) else ((f_Model_post a v4_25 2 b (M 4 0 0 j9) N25).bind fun r56 => (ix ((((48 * a) + (8 * v4_25)) + (M 4 0 0 j9)) - 16) 288).bind fun j79 => f_Model_withdraw_j80 v4_25 (fun u0 u1 => f_Model_withdraw_25 a b M j9 k25 u0 u1) (mset r56 6 0 0 j79 1)))
def f_Model_withdraw (a : Int32) (b : Int32) (M : Mem) : Option (Mem) :=
  (ix ((4 * a) + b) 24).bind fun j9 => (ix ((4 * a) + b) 24).bind fun j21 => f_Model_withdraw_25 a b M j9 1000 0 (mset M 4 0 0 j21 0)
abbrev rm_Model_withdraw : Room := { frames := 1, cells := 0, slots := 0, locals := 25 }
set_option maxHeartbeats 4000000 in
set_option maxRecDepth 100000 in
theorem c_Model_withdraw {l : Launch} {D : va_G} {ad : Nat → Nat} {G : Nat → ClassId} {a : Int32} {b : Int32}  {M : Mem} {x : Mem} (hf : f_Model_withdraw a b M = some x) : Met l y_Model_withdraw (wc y_Model_withdraw b_Model_withdraw 5 (none)) rm_Model_withdraw (va_Pc [.ref (ad 0), .int a, .int b] (tB D ad G M)) (wr_Q (none) D cls 15 ad (tE ad G x)) 0 0 (wl_A 15 ad) := by
  refine k_met (by decide) (Nat.le_of_ble_eq_true rfl) ?_
  intro p e s m args below meth c S hr hlk hB ls hl
  obtain ⟨hx, hb, hml, hown, hts⟩ := id S
  obtain ⟨hP, hK, hA0⟩ := hB
  have hA := wl_own hA0
  have hl : lv_has ls 5 [(0, .ref (ad 0)), (1, .int a), (2, .int b)] := hl
  have hS : va_S (wl_A 15 ad) s.heap s.heap [] := va_S.rf
  unfold f_Model_withdraw at hf
  refine lv_aload_n hx hb d_Model_withdraw_0 rfl (lv_at hl 0 rfl) ?_
  refine va_get (D := D) (ci := 5) (v := .ref (ad 4)) (C := R_Model) (T := F_Model) (N := 24) hx hb hts in_Model hown hK hP 0 (wl_to (by decide) (MO_at)) rfl 5 (by decide) (hts _ fl_Model_19) (fun _ h => h) rfl d_Model_withdraw_1 ?_
  refine lv_iconst (v := 4) hx hb d_Model_withdraw_4 (by decide) ?_
  refine lv_iload_n hx hb d_Model_withdraw_5 rfl (lv_at hl 1 rfl) ?_
  refine lv_imul hx hb d_Model_withdraw_6 ?_
  refine lv_iload_n hx hb d_Model_withdraw_7 rfl (lv_at hl 2 rfl) ?_
  refine lv_iadd hx hb d_Model_withdraw_8 ?_
  obtain ⟨j9, hj9, hf⟩ := ob hf
  refine k_iald hx hb hK hP 4 0 (by decide) (LAB_at) rfl hj9 d_Model_withdraw_9 ?_
  refine lv_istore_n (lv' := [(3, .int (M 4 0 0 j9)), (0, .ref (ad 0)), (1, .int a), (2, .int b)]) hx hb d_Model_withdraw_10 rfl hl (by decide) rfl (fun ls hl => ?_)
  refine lv_aload_n hx hb d_Model_withdraw_11 rfl (lv_at hl 1 rfl) ?_
  refine va_get (D := D) (ci := 5) (v := .ref (ad 4)) (C := R_Model) (T := F_Model) (N := 24) hx hb hts in_Model hown hK hP 0 (wl_to (by decide) (MO_at)) rfl 5 (by decide) (hts _ fl_Model_19) (fun _ h => h) rfl d_Model_withdraw_12 ?_
  refine lv_iconst (v := 4) hx hb d_Model_withdraw_15 (by decide) ?_
  refine lv_iload_n hx hb d_Model_withdraw_16 rfl (lv_at hl 2 rfl) ?_
  refine lv_imul hx hb d_Model_withdraw_17 ?_
  refine lv_iload_n hx hb d_Model_withdraw_18 rfl (lv_at hl 3 rfl) ?_
  refine lv_iadd hx hb d_Model_withdraw_19 ?_
  refine lv_iconst (v := 0) hx hb d_Model_withdraw_20 (by decide) ?_
  obtain ⟨j21, hj21, hf⟩ := ob hf
  refine m_iast (t := 4) (a := 0) (b := 0) (x := 0) hx hb hK hP hA hS tJ 4 0 (by decide) ⟨rfl, rfl, rfl⟩ (fun f => LAB_row f) rfl hj21 d_Model_withdraw_21 (fun H locs hP hS => ?_)
  refine lv_iconst (v := 0) hx hb d_Model_withdraw_22 (by decide) ?_
  refine lv_istore (lv' := [(4, .int 0), (3, .int (M 4 0 0 j9)), (0, .ref (ad 0)), (1, .int a), (2, .int b)]) hx hb d_Model_withdraw_23 hl (by decide) rfl (fun ls hl => ?_)
  have L25 : ∀ (k25 : Nat) (v4_25 : Int32) (N25 : Mem) (H : Heap) (locs : List Loc) (ls : Array Slot), lv_has ls 5 [(4, .int v4_25), (3, .int (M 4 0 0 j9)), (0, .ref (ad 0)), (1, .int a), (2, .int b)] → va_P D cls (tW ad G N25) H → va_S (wl_A 15 ad) s.heap H locs → f_Model_withdraw_25 a b M j9 k25 v4_25 N25 = some x → W p l e rm_Model_withdraw s m args below meth c H locs 0 0 (MQ below (wr_Q (none) D cls 15 ad (tE ad G x)) args s 0 0 (wl_A 15 ad)) (F0 m 25 ls []) := by
    intro k25
    induction k25 with
    | zero =>
      intro v4_25 N25 H locs ls hl hP hS hf
      simp [f_Model_withdraw_25] at hf
    | succ k25 ih25 =>
      intro v4_25 N25 H locs ls hl hP hS hf
      rw [f_Model_withdraw_25] at hf
      refine lv_iload hx hb d_Model_withdraw_25 (lv_at hl 0 rfl) ?_
      refine lv_aload_n hx hb d_Model_withdraw_27 rfl (lv_at hl 2 rfl) ?_
      refine va_get (D := D) (ci := 5) (v := .int (N25 0 0 0 1)) (C := R_Model) (T := F_Model) (N := 24) hx hb hts in_Model hown hK hP 0 (wl_to (by decide) (MO_at)) rfl 1 (by decide) (hts _ fl_Model_53) (fun _ h => h) rfl d_Model_withdraw_28 ?_
      refine lv_icmp_ge (tgt := 86) hx hb d_Model_withdraw_31 (by decide) (fun h31 => ?_) (fun h31 => ?_)
      · rw [if_pos h31] at hf
        cases hf
        exact w_vret hx hb hr hlk hP hS d_Model_withdraw_86
      · rw [if_neg h31] at hf
        refine lv_aload_n hx hb d_Model_withdraw_34 rfl (lv_at hl 2 rfl) ?_
        refine va_get (D := D) (ci := 5) (v := .ref (ad 1)) (C := R_Model) (T := F_Model) (N := 24) hx hb hts in_Model hown hK hP 0 (wl_to (by decide) (MO_at)) rfl 2 (by decide) (hts _ fl_Model_7) (fun _ h => h) rfl d_Model_withdraw_35 ?_
        refine lv_bipush (v := 6) hx hb d_Model_withdraw_38 (by decide) ?_
        refine lv_iload_n hx hb d_Model_withdraw_40 rfl (lv_at hl 3 rfl) ?_
        refine lv_imul hx hb d_Model_withdraw_41 ?_
        refine lv_iload hx hb d_Model_withdraw_42 (lv_at hl 0 rfl) ?_
        refine lv_iadd hx hb d_Model_withdraw_44 ?_
        obtain ⟨j45, hj45, hf⟩ := ob hf
        refine k_iald hx hb hK hP 1 0 (by decide) (COST_at) rfl hj45 d_Model_withdraw_45 ?_
        have J80 : ∀ (N80 : Mem) (H : Heap) (locs : List Loc) (ls : Array Slot), lv_has ls 5 [(4, .int v4_25), (3, .int (M 4 0 0 j9)), (0, .ref (ad 0)), (1, .int a), (2, .int b)] → va_P D cls (tW ad G N80) H → va_S (wl_A 15 ad) s.heap H locs → f_Model_withdraw_j80 v4_25 (fun u0 u1 => f_Model_withdraw_25 a b M j9 k25 u0 u1) N80 = some x → W p l e rm_Model_withdraw s m args below meth c H locs 0 0 (MQ below (wr_Q (none) D cls 15 ad (tE ad G x)) args s 0 0 (wl_A 15 ad)) (F0 m 80 ls []) := by
          intro N80 H locs ls hl hP hS hf
          unfold f_Model_withdraw_j80 at hf
          refine lv_iinc (v := (v4_25 + 1)) (lv' := [(4, .int (v4_25 + 1)), (3, .int (M 4 0 0 j9)), (0, .ref (ad 0)), (1, .int a), (2, .int b)]) hx hb d_Model_withdraw_80 hl (k := 0) rfl rfl (by decide) rfl (fun ls hl => ?_)
          refine lv_goto (tgt := 25) hx hb d_Model_withdraw_83 (by decide) ?_
          exact ih25 _ _ _ _ _ (lv_sub hl [0, 1, 2, 3, 4] rfl) hP hS hf
        refine lv_if_le (tgt := 80) hx hb d_Model_withdraw_46 (by decide) (fun h46 => ?_) (fun h46 => ?_)
        · rw [if_pos h46] at hf
          exact J80 _ _ _ _ (lv_sub hl [0, 1, 2, 3, 4] rfl) hP hS hf
        · rw [if_neg h46] at hf
          refine lv_aload_n hx hb d_Model_withdraw_49 rfl (lv_at hl 2 rfl) ?_
          refine lv_iload_n hx hb d_Model_withdraw_50 rfl (lv_at hl 3 rfl) ?_
          refine lv_iload hx hb d_Model_withdraw_51 (lv_at hl 0 rfl) ?_
          refine lv_iconst (v := 2) hx hb d_Model_withdraw_53 (by decide) ?_
          refine lv_iload_n hx hb d_Model_withdraw_54 rfl (lv_at hl 4 rfl) ?_
          refine lv_iload_n hx hb d_Model_withdraw_55 rfl (lv_at hl 1 rfl) ?_
          obtain ⟨r56, hc56, hf⟩ := ob hf
          refine k_wrv (k_vir S (c_Model_post (l := l) (D := D) (ad := ad) (G := G) hc56) g_Model_82 hd_Model_post ⟨rfl, rfl⟩ ⟨Nat.le_of_ble_eq_true rfl, Nat.le_of_ble_eq_true rfl⟩ wl_blind (va_recv hK hP rfl (wl_to (by decide) (MO_at))) (wl_pre hP hK hA) rfl hl.1 rfl (Nat.le_of_ble_eq_true rfl) d_Model_withdraw_56 (Nat.zero_le _) (Nat.zero_le _)) hS (fun _ h => h) (fun H locs hP _ _ hS => ?_)
          refine lv_aload_n hx hb d_Model_withdraw_59 rfl (lv_at hl 2 rfl) ?_
          refine va_get (D := D) (ci := 5) (v := .ref (ad 6)) (C := R_Model) (T := F_Model) (N := 24) hx hb hts in_Model hown hK hP 0 (wl_to (by decide) (MO_at)) rfl 7 (by decide) (hts _ fl_Model_25) (fun _ h => h) rfl d_Model_withdraw_60 ?_
          refine lv_bipush (v := 48) hx hb d_Model_withdraw_63 (by decide) ?_
          refine lv_iload_n hx hb d_Model_withdraw_65 rfl (lv_at hl 3 rfl) ?_
          refine lv_imul hx hb d_Model_withdraw_66 ?_
          refine lv_bipush (v := 8) hx hb d_Model_withdraw_67 (by decide) ?_
          refine lv_iload hx hb d_Model_withdraw_69 (lv_at hl 0 rfl) ?_
          refine lv_imul hx hb d_Model_withdraw_71 ?_
          refine lv_iadd hx hb d_Model_withdraw_72 ?_
          refine lv_iload_n hx hb d_Model_withdraw_73 rfl (lv_at hl 1 rfl) ?_
          refine lv_iadd hx hb d_Model_withdraw_74 ?_
          refine lv_bipush (v := 16) hx hb d_Model_withdraw_75 (by decide) ?_
          refine lv_isub hx hb d_Model_withdraw_77 ?_
          refine lv_iconst (v := 1) hx hb d_Model_withdraw_78 (by decide) ?_
          obtain ⟨j79, hj79, hf⟩ := ob hf
          refine m_zast (t := 6) (a := 0) (b := 0) (x := 1) hx hb hK hP hA hS tJ 6 3 (by decide) ⟨rfl, rfl, rfl⟩ (fun f => OWE_row f) rfl hj79 (by decide +kernel) d_Model_withdraw_79 (fun H locs hP hS => ?_)
          exact J80 _ _ _ _ (lv_sub hl [0, 1, 2, 3, 4] rfl) hP hS hf
  exact L25 _ _ _ _ _ _ (lv_sub hl [0, 1, 2, 3, 4] rfl) hP hS hf
def f_Model_settle_j65 (a : Int32) (b : Int32) (r3 : Int32 × Mem) (s0_45 : Int32) (s0_65 : Int32) : Option (Mem) :=
    if s0_45 = 0 then (if s0_45 = 0 then (if s0_65 = 0 then (some r3.2) else ((f_Model_withdraw a b r3.2).bind fun r99 => some r99)) else (some r3.2)) else (if s0_65 = 0 then ((f_Model_take a b r3.2).bind fun r80 => some r80) else (if s0_45 = 0 then (if s0_65 = 0 then (some r3.2) else ((f_Model_withdraw a b r3.2).bind fun r99 => some r99)) else (some r3.2)))
def f_Model_settle_j45 (a : Int32) (b : Int32) (r3 : Int32 × Mem) (s0_45 : Int32) : Option (Mem) :=
    (ix ((4 * a) + b) 24).bind fun j56 => if (r3.2 4 0 0 j56) ≤ 0 then (f_Model_settle_j65 a b r3 s0_45 0) else (f_Model_settle_j65 a b r3 s0_45 1)
def f_Model_settle (a : Int32) (b : Int32) (M : Mem) : Option (Mem) :=
  (f_Model_nextOf a b M).bind fun r3 => (ix b 4).bind fun j12 => if (r3.2 2 0 0 j12) = a then (f_Model_settle_j45 a b r3 1) else (if r3.1 = (-1) then (f_Model_settle_j45 a b r3 0) else ((ix (((24 * a) + (4 * r3.1)) + b) 144).bind fun j36 => if (r3.2 5 0 0 j36) ≤ 0 then (f_Model_settle_j45 a b r3 0) else (f_Model_settle_j45 a b r3 1)))
abbrev rm_Model_settle : Room := { frames := 2, cells := 0, slots := 0, locals := 51 }
set_option maxHeartbeats 4000000 in
set_option maxRecDepth 100000 in
theorem c_Model_settle {l : Launch} {D : va_G} {ad : Nat → Nat} {G : Nat → ClassId} {a : Int32} {b : Int32}  {M : Mem} {x : Mem} (hf : f_Model_settle a b M = some x) : Met l y_Model_settle (wc y_Model_settle b_Model_settle 6 (none)) rm_Model_settle (va_Pc [.ref (ad 0), .int a, .int b] (tB D ad G M)) (wr_Q (none) D cls 15 ad (tE ad G x)) 0 0 (wl_A 15 ad) := by
  refine k_met (by decide) (Nat.le_of_ble_eq_true rfl) ?_
  intro p e s m args below meth c S hr hlk hB ls hl
  obtain ⟨hx, hb, hml, hown, hts⟩ := id S
  obtain ⟨hP, hK, hA0⟩ := hB
  have hA := wl_own hA0
  have hl : lv_has ls 6 [(0, .ref (ad 0)), (1, .int a), (2, .int b)] := hl
  have hS : va_S (wl_A 15 ad) s.heap s.heap [] := va_S.rf
  unfold f_Model_settle at hf
  refine lv_aload_n hx hb d_Model_settle_0 rfl (lv_at hl 0 rfl) ?_
  refine lv_iload_n hx hb d_Model_settle_1 rfl (lv_at hl 1 rfl) ?_
  refine lv_iload_n hx hb d_Model_settle_2 rfl (lv_at hl 2 rfl) ?_
  obtain ⟨r3, hc3, hf⟩ := ob hf
  refine k_wri (k_vir S (c_Model_nextOf (l := l) (D := D) (ad := ad) (G := G) hc3) g_Model_86 hd_Model_nextOf ⟨rfl, rfl⟩ ⟨Nat.le_of_ble_eq_true rfl, Nat.le_of_ble_eq_true rfl⟩ wl_blind (va_recv hK hP rfl (wl_to (by decide) (MO_at))) (wl_pre hP hK hA) rfl hl.1 rfl (Nat.le_of_ble_eq_true rfl) d_Model_settle_3 (Nat.zero_le _) (Nat.zero_le _)) hS (fun _ h => h) (fun H locs hP _ _ hS => ?_)
  refine lv_istore_n (lv' := [(3, .int r3.1), (0, .ref (ad 0)), (1, .int a), (2, .int b)]) hx hb d_Model_settle_6 rfl hl (by decide) rfl (fun ls hl => ?_)
  refine lv_aload_n hx hb d_Model_settle_7 rfl (lv_at hl 1 rfl) ?_
  refine va_get (D := D) (ci := 5) (v := .ref (ad 2)) (C := R_Model) (T := F_Model) (N := 24) hx hb hts in_Model hown hK hP 0 (wl_to (by decide) (MO_at)) rfl 3 (by decide) (hts _ fl_Model_13) (fun _ h => h) rfl d_Model_settle_8 ?_
  refine lv_iload_n hx hb d_Model_settle_11 rfl (lv_at hl 3 rfl) ?_
  obtain ⟨j12, hj12, hf⟩ := ob hf
  refine k_iald hx hb hK hP 2 0 (by decide) (OWN_at) rfl hj12 d_Model_settle_12 ?_
  refine lv_iload_n hx hb d_Model_settle_13 rfl (lv_at hl 2 rfl) ?_
  have J45 : ∀ (s0_45 : Int32) (ls : Array Slot), lv_has ls 6 [(3, .int r3.1), (0, .ref (ad 0)), (1, .int a), (2, .int b)] → f_Model_settle_j45 a b r3 s0_45 = some x → W p l e rm_Model_settle s m args below meth c H locs 0 0 (MQ below (wr_Q (none) D cls 15 ad (tE ad G x)) args s 0 0 (wl_A 15 ad)) (F0 m 45 ls [.int s0_45]) := by
    intro s0_45 ls hl hf
    unfold f_Model_settle_j45 at hf
    refine lv_istore (lv' := [(4, .int s0_45), (3, .int r3.1), (0, .ref (ad 0)), (1, .int a), (2, .int b)]) hx hb d_Model_settle_45 hl (by decide) rfl (fun ls hl => ?_)
    refine lv_aload_n hx hb d_Model_settle_47 rfl (lv_at hl 2 rfl) ?_
    refine va_get (D := D) (ci := 5) (v := .ref (ad 4)) (C := R_Model) (T := F_Model) (N := 24) hx hb hts in_Model hown hK hP 0 (wl_to (by decide) (MO_at)) rfl 5 (by decide) (hts _ fl_Model_19) (fun _ h => h) rfl d_Model_settle_48 ?_
    refine lv_iconst (v := 4) hx hb d_Model_settle_51 (by decide) ?_
    refine lv_iload_n hx hb d_Model_settle_52 rfl (lv_at hl 3 rfl) ?_
    refine lv_imul hx hb d_Model_settle_53 ?_
    refine lv_iload_n hx hb d_Model_settle_54 rfl (lv_at hl 4 rfl) ?_
    refine lv_iadd hx hb d_Model_settle_55 ?_
    obtain ⟨j56, hj56, hf⟩ := ob hf
    refine k_iald hx hb hK hP 4 0 (by decide) (LAB_at) rfl hj56 d_Model_settle_56 ?_
    have J65 : ∀ (s0_65 : Int32) (ls : Array Slot), lv_has ls 6 [(4, .int s0_45), (3, .int r3.1), (0, .ref (ad 0)), (1, .int a), (2, .int b)] → f_Model_settle_j65 a b r3 s0_45 s0_65 = some x → W p l e rm_Model_settle s m args below meth c H locs 0 0 (MQ below (wr_Q (none) D cls 15 ad (tE ad G x)) args s 0 0 (wl_A 15 ad)) (F0 m 65 ls [.int s0_65]) := by
      intro s0_65 ls hl hf
      unfold f_Model_settle_j65 at hf
      refine lv_istore (lv' := [(5, .int s0_65), (4, .int s0_45), (3, .int r3.1), (0, .ref (ad 0)), (1, .int a), (2, .int b)]) hx hb d_Model_settle_65 hl (by decide) rfl (fun ls hl => ?_)
      refine lv_iload hx hb d_Model_settle_67 (lv_at hl 1 rfl) ?_
      refine lv_if_eq (tgt := 86) hx hb d_Model_settle_69 (by decide) (fun h69 => ?_) (fun h69 => ?_)
      · rw [if_pos h69] at hf
        refine lv_iload hx hb d_Model_settle_86 (lv_at hl 1 rfl) ?_
        refine lv_if_ne (tgt := 102) hx hb d_Model_settle_88 (by decide) (fun h88 => ?_) (fun h88 => ?_)
        · rw [if_neg h88] at hf
          cases hf
          exact w_vret hx hb hr hlk hP hS d_Model_settle_102
        · rw [if_pos h88] at hf
          refine lv_iload hx hb d_Model_settle_91 (lv_at hl 0 rfl) ?_
          refine lv_if_eq (tgt := 102) hx hb d_Model_settle_93 (by decide) (fun h93 => ?_) (fun h93 => ?_)
          · rw [if_pos h93] at hf
            cases hf
            exact w_vret hx hb hr hlk hP hS d_Model_settle_102
          · rw [if_neg h93] at hf
            refine lv_aload_n hx hb d_Model_settle_96 rfl (lv_at hl 3 rfl) ?_
            refine lv_iload_n hx hb d_Model_settle_97 rfl (lv_at hl 4 rfl) ?_
            refine lv_iload_n hx hb d_Model_settle_98 rfl (lv_at hl 5 rfl) ?_
            obtain ⟨r99, hc99, hf⟩ := ob hf
            refine k_wrv (k_vir S (c_Model_withdraw (l := l) (D := D) (ad := ad) (G := G) hc99) g_Model_94 hd_Model_withdraw ⟨rfl, rfl⟩ ⟨Nat.le_of_ble_eq_true rfl, Nat.le_of_ble_eq_true rfl⟩ wl_blind (va_recv hK hP rfl (wl_to (by decide) (MO_at))) (wl_pre hP hK hA) rfl hl.1 rfl (Nat.le_of_ble_eq_true rfl) d_Model_settle_99 (Nat.zero_le _) (Nat.zero_le _)) hS (fun _ h => h) (fun H locs hP _ _ hS => ?_)
            cases hf
            exact w_vret hx hb hr hlk hP hS d_Model_settle_102
      · rw [if_neg h69] at hf
        refine lv_iload hx hb d_Model_settle_72 (lv_at hl 0 rfl) ?_
        refine lv_if_ne (tgt := 86) hx hb d_Model_settle_74 (by decide) (fun h74 => ?_) (fun h74 => ?_)
        · rw [if_neg h74] at hf
          refine lv_iload hx hb d_Model_settle_86 (lv_at hl 1 rfl) ?_
          refine lv_if_ne (tgt := 102) hx hb d_Model_settle_88 (by decide) (fun h88 => ?_) (fun h88 => ?_)
          · rw [if_neg h88] at hf
            cases hf
            exact w_vret hx hb hr hlk hP hS d_Model_settle_102
          · rw [if_pos h88] at hf
            refine lv_iload hx hb d_Model_settle_91 (lv_at hl 0 rfl) ?_
            refine lv_if_eq (tgt := 102) hx hb d_Model_settle_93 (by decide) (fun h93 => ?_) (fun h93 => ?_)
            · rw [if_pos h93] at hf
              cases hf
              exact w_vret hx hb hr hlk hP hS d_Model_settle_102
            · rw [if_neg h93] at hf
              refine lv_aload_n hx hb d_Model_settle_96 rfl (lv_at hl 3 rfl) ?_
              refine lv_iload_n hx hb d_Model_settle_97 rfl (lv_at hl 4 rfl) ?_
              refine lv_iload_n hx hb d_Model_settle_98 rfl (lv_at hl 5 rfl) ?_
              obtain ⟨r99, hc99, hf⟩ := ob hf
              refine k_wrv (k_vir S (c_Model_withdraw (l := l) (D := D) (ad := ad) (G := G) hc99) g_Model_94 hd_Model_withdraw ⟨rfl, rfl⟩ ⟨Nat.le_of_ble_eq_true rfl, Nat.le_of_ble_eq_true rfl⟩ wl_blind (va_recv hK hP rfl (wl_to (by decide) (MO_at))) (wl_pre hP hK hA) rfl hl.1 rfl (Nat.le_of_ble_eq_true rfl) d_Model_settle_99 (Nat.zero_le _) (Nat.zero_le _)) hS (fun _ h => h) (fun H locs hP _ _ hS => ?_)
              cases hf
              exact w_vret hx hb hr hlk hP hS d_Model_settle_102
        · rw [if_pos h74] at hf
          refine lv_aload_n hx hb d_Model_settle_77 rfl (lv_at hl 3 rfl) ?_
          refine lv_iload_n hx hb d_Model_settle_78 rfl (lv_at hl 4 rfl) ?_
          refine lv_iload_n hx hb d_Model_settle_79 rfl (lv_at hl 5 rfl) ?_
          obtain ⟨r80, hc80, hf⟩ := ob hf
          refine k_wrv (k_vir S (c_Model_take (l := l) (D := D) (ad := ad) (G := G) hc80) g_Model_90 hd_Model_take ⟨rfl, rfl⟩ ⟨Nat.le_of_ble_eq_true rfl, Nat.le_of_ble_eq_true rfl⟩ wl_blind (va_recv hK hP rfl (wl_to (by decide) (MO_at))) (wl_pre hP hK hA) rfl hl.1 rfl (Nat.le_of_ble_eq_true rfl) d_Model_settle_80 (Nat.zero_le _) (Nat.zero_le _)) hS (fun _ h => h) (fun H locs hP _ _ hS => ?_)
          refine lv_goto (tgt := 102) hx hb d_Model_settle_83 (by decide) ?_
          cases hf
          exact w_vret hx hb hr hlk hP hS d_Model_settle_102
    refine lv_if_le (tgt := 64) hx hb d_Model_settle_57 (by decide) (fun h57 => ?_) (fun h57 => ?_)
    · rw [if_pos h57] at hf
      refine lv_iconst (v := 0) hx hb d_Model_settle_64 (by decide) ?_
      exact J65 _ _ (lv_sub hl [0, 1, 2, 3, 4] rfl) hf
    · rw [if_neg h57] at hf
      refine lv_iconst (v := 1) hx hb d_Model_settle_60 (by decide) ?_
      refine lv_goto (tgt := 65) hx hb d_Model_settle_61 (by decide) ?_
      exact J65 _ _ (lv_sub hl [0, 1, 2, 3, 4] rfl) hf
  refine lv_icmp_eq (tgt := 40) hx hb d_Model_settle_14 (by decide) (fun h14 => ?_) (fun h14 => ?_)
  · rw [if_pos h14] at hf
    refine lv_iconst (v := 1) hx hb d_Model_settle_40 (by decide) ?_
    refine lv_goto (tgt := 45) hx hb d_Model_settle_41 (by decide) ?_
    exact J45 _ _ (lv_sub hl [0, 1, 2, 3] rfl) hf
  · rw [if_neg h14] at hf
    refine lv_iload_n hx hb d_Model_settle_17 rfl (lv_at hl 0 rfl) ?_
    refine lv_iconst (v := (-1)) hx hb d_Model_settle_18 (by decide) ?_
    refine lv_icmp_eq (tgt := 44) hx hb d_Model_settle_19 (by decide) (fun h19 => ?_) (fun h19 => ?_)
    · rw [if_pos h19] at hf
      refine lv_iconst (v := 0) hx hb d_Model_settle_44 (by decide) ?_
      exact J45 _ _ (lv_sub hl [0, 1, 2, 3] rfl) hf
    · rw [if_neg h19] at hf
      refine lv_aload_n hx hb d_Model_settle_22 rfl (lv_at hl 1 rfl) ?_
      refine va_get (D := D) (ci := 5) (v := .ref (ad 5)) (C := R_Model) (T := F_Model) (N := 24) hx hb hts in_Model hown hK hP 0 (wl_to (by decide) (MO_at)) rfl 6 (by decide) (hts _ fl_Model_22) (fun _ h => h) rfl d_Model_settle_23 ?_
      refine lv_bipush (v := 24) hx hb d_Model_settle_26 (by decide) ?_
      refine lv_iload_n hx hb d_Model_settle_28 rfl (lv_at hl 2 rfl) ?_
      refine lv_imul hx hb d_Model_settle_29 ?_
      refine lv_iconst (v := 4) hx hb d_Model_settle_30 (by decide) ?_
      refine lv_iload_n hx hb d_Model_settle_31 rfl (lv_at hl 0 rfl) ?_
      refine lv_imul hx hb d_Model_settle_32 ?_
      refine lv_iadd hx hb d_Model_settle_33 ?_
      refine lv_iload_n hx hb d_Model_settle_34 rfl (lv_at hl 3 rfl) ?_
      refine lv_iadd hx hb d_Model_settle_35 ?_
      obtain ⟨j36, hj36, hf⟩ := ob hf
      refine k_iald hx hb hK hP 5 0 (by decide) (TLD_at) rfl hj36 d_Model_settle_36 ?_
      refine lv_if_le (tgt := 44) hx hb d_Model_settle_37 (by decide) (fun h37 => ?_) (fun h37 => ?_)
      · rw [if_pos h37] at hf
        refine lv_iconst (v := 0) hx hb d_Model_settle_44 (by decide) ?_
        exact J45 _ _ (lv_sub hl [0, 1, 2, 3] rfl) hf
      · rw [if_neg h37] at hf
        refine lv_iconst (v := 1) hx hb d_Model_settle_40 (by decide) ?_
        refine lv_goto (tgt := 45) hx hb d_Model_settle_41 (by decide) ?_
        exact J45 _ _ (lv_sub hl [0, 1, 2, 3] rfl) hf
def f_Model_settleAll_2 (a : Int32) : Nat → Int32 → Mem → Option (Mem)
  | 0, _, _ => none
  | k2 + 1, v2_2, N2 =>
    if 4 ≤ v2_2 then (some N2) else ((f_Model_settle a v2_2 N2).bind fun r10 => f_Model_settleAll_2 a k2 (v2_2 + 1) r10)
def f_Model_settleAll (a : Int32) (M : Mem) : Option (Mem) :=
  f_Model_settleAll_2 a 1000 0 M
abbrev rm_Model_settleAll : Room := { frames := 3, cells := 0, slots := 0, locals := 76 }
set_option maxHeartbeats 4000000 in
set_option maxRecDepth 100000 in
theorem c_Model_settleAll {l : Launch} {D : va_G} {ad : Nat → Nat} {G : Nat → ClassId} {a : Int32}  {M : Mem} {x : Mem} (hf : f_Model_settleAll a M = some x) : Met l y_Model_settleAll (wc y_Model_settleAll b_Model_settleAll 3 (none)) rm_Model_settleAll (va_Pc [.ref (ad 0), .int a] (tB D ad G M)) (wr_Q (none) D cls 15 ad (tE ad G x)) 0 0 (wl_A 15 ad) := by
  refine k_met (by decide) (Nat.le_of_ble_eq_true rfl) ?_
  intro p e s m args below meth c S hr hlk hB ls hl
  obtain ⟨hx, hb, hml, hown, hts⟩ := id S
  obtain ⟨hP, hK, hA0⟩ := hB
  have hA := wl_own hA0
  have hl : lv_has ls 3 [(0, .ref (ad 0)), (1, .int a)] := hl
  have hS : va_S (wl_A 15 ad) s.heap s.heap [] := va_S.rf
  unfold f_Model_settleAll at hf
  refine lv_iconst (v := 0) hx hb d_Model_settleAll_0 (by decide) ?_
  refine lv_istore_n (lv' := [(2, .int 0), (0, .ref (ad 0)), (1, .int a)]) hx hb d_Model_settleAll_1 rfl hl (by decide) rfl (fun ls hl => ?_)
  have L2 : ∀ (k2 : Nat) (v2_2 : Int32) (N2 : Mem) (H : Heap) (locs : List Loc) (ls : Array Slot), lv_has ls 3 [(2, .int v2_2), (0, .ref (ad 0)), (1, .int a)] → va_P D cls (tW ad G N2) H → va_S (wl_A 15 ad) s.heap H locs → f_Model_settleAll_2 a k2 v2_2 N2 = some x → W p l e rm_Model_settleAll s m args below meth c H locs 0 0 (MQ below (wr_Q (none) D cls 15 ad (tE ad G x)) args s 0 0 (wl_A 15 ad)) (F0 m 2 ls []) := by
    intro k2
    induction k2 with
    | zero =>
      intro v2_2 N2 H locs ls hl hP hS hf
      simp [f_Model_settleAll_2] at hf
    | succ k2 ih2 =>
      intro v2_2 N2 H locs ls hl hP hS hf
      rw [f_Model_settleAll_2] at hf
      refine lv_iload_n hx hb d_Model_settleAll_2 rfl (lv_at hl 0 rfl) ?_
      refine lv_iconst (v := 4) hx hb d_Model_settleAll_3 (by decide) ?_
      refine lv_icmp_ge (tgt := 19) hx hb d_Model_settleAll_4 (by decide) (fun h4 => ?_) (fun h4 => ?_)
      · rw [if_pos h4] at hf
        cases hf
        exact w_vret hx hb hr hlk hP hS d_Model_settleAll_19
      · rw [if_neg h4] at hf
        refine lv_aload_n hx hb d_Model_settleAll_7 rfl (lv_at hl 1 rfl) ?_
        refine lv_iload_n hx hb d_Model_settleAll_8 rfl (lv_at hl 2 rfl) ?_
        refine lv_iload_n hx hb d_Model_settleAll_9 rfl (lv_at hl 0 rfl) ?_
        obtain ⟨r10, hc10, hf⟩ := ob hf
        refine k_wrv (k_vir S (c_Model_settle (l := l) (D := D) (ad := ad) (G := G) hc10) g_Model_97 hd_Model_settle ⟨rfl, rfl⟩ ⟨Nat.le_of_ble_eq_true rfl, Nat.le_of_ble_eq_true rfl⟩ wl_blind (va_recv hK hP rfl (wl_to (by decide) (MO_at))) (wl_pre hP hK hA) rfl hl.1 rfl (Nat.le_of_ble_eq_true rfl) d_Model_settleAll_10 (Nat.zero_le _) (Nat.zero_le _)) hS (fun _ h => h) (fun H locs hP _ _ hS => ?_)
        refine lv_iinc (v := (v2_2 + 1)) (lv' := [(2, .int (v2_2 + 1)), (0, .ref (ad 0)), (1, .int a)]) hx hb d_Model_settleAll_13 hl (k := 0) rfl rfl (by decide) rfl (fun ls hl => ?_)
        refine lv_goto (tgt := 2) hx hb d_Model_settleAll_16 (by decide) ?_
        exact ih2 _ _ _ _ _ (lv_sub hl [0, 1, 2] rfl) hP hS hf
  exact L2 _ _ _ _ _ _ (lv_sub hl [0, 1, 2] rfl) hP hS hf
def f_Model_changed_2 : Nat → Int32 → Mem → Option (Mem)
  | 0, _, _ => none
  | k2 + 1, v1_2, N2 =>
    if (N2 0 0 0 1) ≤ v1_2 then (some N2) else ((f_Model_settleAll v1_2 N2).bind fun r12 => f_Model_changed_2 k2 (v1_2 + 1) r12)
def f_Model_changed (M : Mem) : Option (Mem) :=
  f_Model_changed_2 1000 0 M
abbrev rm_Model_changed : Room := { frames := 4, cells := 0, slots := 0, locals := 98 }
set_option maxHeartbeats 4000000 in
set_option maxRecDepth 100000 in
theorem c_Model_changed {l : Launch} {D : va_G} {ad : Nat → Nat} {G : Nat → ClassId}  {M : Mem} {x : Mem} (hf : f_Model_changed M = some x) : Met l y_Model_changed (wc y_Model_changed b_Model_changed 2 (none)) rm_Model_changed (va_Pc [.ref (ad 0)] (tB D ad G M)) (wr_Q (none) D cls 15 ad (tE ad G x)) 0 0 (wl_A 15 ad) := by
  refine k_met (by decide) (Nat.le_of_ble_eq_true rfl) ?_
  intro p e s m args below meth c S hr hlk hB ls hl
  obtain ⟨hx, hb, hml, hown, hts⟩ := id S
  obtain ⟨hP, hK, hA0⟩ := hB
  have hA := wl_own hA0
  have hl : lv_has ls 2 [(0, .ref (ad 0))] := hl
  have hS : va_S (wl_A 15 ad) s.heap s.heap [] := va_S.rf
  unfold f_Model_changed at hf
  refine lv_iconst (v := 0) hx hb d_Model_changed_0 (by decide) ?_
  refine lv_istore_n (lv' := [(1, .int 0), (0, .ref (ad 0))]) hx hb d_Model_changed_1 rfl hl (by decide) rfl (fun ls hl => ?_)
  have L2 : ∀ (k2 : Nat) (v1_2 : Int32) (N2 : Mem) (H : Heap) (locs : List Loc) (ls : Array Slot), lv_has ls 2 [(1, .int v1_2), (0, .ref (ad 0))] → va_P D cls (tW ad G N2) H → va_S (wl_A 15 ad) s.heap H locs → f_Model_changed_2 k2 v1_2 N2 = some x → W p l e rm_Model_changed s m args below meth c H locs 0 0 (MQ below (wr_Q (none) D cls 15 ad (tE ad G x)) args s 0 0 (wl_A 15 ad)) (F0 m 2 ls []) := by
    intro k2
    induction k2 with
    | zero =>
      intro v1_2 N2 H locs ls hl hP hS hf
      simp [f_Model_changed_2] at hf
    | succ k2 ih2 =>
      intro v1_2 N2 H locs ls hl hP hS hf
      rw [f_Model_changed_2] at hf
      refine lv_iload_n hx hb d_Model_changed_2 rfl (lv_at hl 0 rfl) ?_
      refine lv_aload_n hx hb d_Model_changed_3 rfl (lv_at hl 1 rfl) ?_
      refine va_get (D := D) (ci := 5) (v := .int (N2 0 0 0 1)) (C := R_Model) (T := F_Model) (N := 24) hx hb hts in_Model hown hK hP 0 (wl_to (by decide) (MO_at)) rfl 1 (by decide) (hts _ fl_Model_53) (fun _ h => h) rfl d_Model_changed_4 ?_
      refine lv_icmp_ge (tgt := 21) hx hb d_Model_changed_7 (by decide) (fun h7 => ?_) (fun h7 => ?_)
      · rw [if_pos h7] at hf
        cases hf
        exact w_vret hx hb hr hlk hP hS d_Model_changed_21
      · rw [if_neg h7] at hf
        refine lv_aload_n hx hb d_Model_changed_10 rfl (lv_at hl 1 rfl) ?_
        refine lv_iload_n hx hb d_Model_changed_11 rfl (lv_at hl 0 rfl) ?_
        obtain ⟨r12, hc12, hf⟩ := ob hf
        refine k_wrv (k_vir S (c_Model_settleAll (l := l) (D := D) (ad := ad) (G := G) hc12) g_Model_100 hd_Model_settleAll ⟨rfl, rfl⟩ ⟨Nat.le_of_ble_eq_true rfl, Nat.le_of_ble_eq_true rfl⟩ wl_blind (va_recv hK hP rfl (wl_to (by decide) (MO_at))) (wl_pre hP hK hA) rfl hl.1 rfl (Nat.le_of_ble_eq_true rfl) d_Model_changed_12 (Nat.zero_le _) (Nat.zero_le _)) hS (fun _ h => h) (fun H locs hP _ _ hS => ?_)
        refine lv_iinc (v := (v1_2 + 1)) (lv' := [(1, .int (v1_2 + 1)), (0, .ref (ad 0))]) hx hb d_Model_changed_15 hl (k := 0) rfl rfl (by decide) rfl (fun ls hl => ?_)
        refine lv_goto (tgt := 2) hx hb d_Model_changed_18 (by decide) ?_
        exact ih2 _ _ _ _ _ (lv_sub hl [0, 1] rfl) hP hS hf
  exact L2 _ _ _ _ _ _ (lv_sub hl [0, 1] rfl) hP hS hf
def f_Model_dropMessage_12 : Nat → Int32 → Mem → Option (Mem)
  | 0, _, _ => none
  | k12 + 1, v2_12, N12 =>
    if (N12 0 0 0 8) ≤ v2_12 then (some N12) else ((ix (v2_12 + 1) 240).bind fun j32 => (ix v2_12 240).bind fun j33 => (ix (v2_12 + 1) 240).bind fun j46 => (ix v2_12 240).bind fun j47 => (ix (v2_12 + 1) 240).bind fun j60 => (ix v2_12 240).bind fun j61 => (ix (v2_12 + 1) 240).bind fun j74 => (ix v2_12 240).bind fun j75 => (ix (v2_12 + 1) 240).bind fun j88 => (ix v2_12 240).bind fun j89 => f_Model_dropMessage_12 k12 (v2_12 + 1) (mset (mset (mset (mset (mset N12 7 0 0 j33 (N12 7 0 0 j32)) 8 0 0 j47 ((mset N12 7 0 0 j33 (N12 7 0 0 j32)) 8 0 0 j46)) 9 0 0 j61 ((mset (mset N12 7 0 0 j33 (N12 7 0 0 j32)) 8 0 0 j47 ((mset N12 7 0 0 j33 (N12 7 0 0 j32)) 8 0 0 j46)) 9 0 0 j60)) 10 0 0 j75 ((mset (mset (mset N12 7 0 0 j33 (N12 7 0 0 j32)) 8 0 0 j47 ((mset N12 7 0 0 j33 (N12 7 0 0 j32)) 8 0 0 j46)) 9 0 0 j61 ((mset (mset N12 7 0 0 j33 (N12 7 0 0 j32)) 8 0 0 j47 ((mset N12 7 0 0 j33 (N12 7 0 0 j32)) 8 0 0 j46)) 9 0 0 j60)) 10 0 0 j74)) 11 0 0 j89 ((mset (mset (mset (mset N12 7 0 0 j33 (N12 7 0 0 j32)) 8 0 0 j47 ((mset N12 7 0 0 j33 (N12 7 0 0 j32)) 8 0 0 j46)) 9 0 0 j61 ((mset (mset N12 7 0 0 j33 (N12 7 0 0 j32)) 8 0 0 j47 ((mset N12 7 0 0 j33 (N12 7 0 0 j32)) 8 0 0 j46)) 9 0 0 j60)) 10 0 0 j75 ((mset (mset (mset N12 7 0 0 j33 (N12 7 0 0 j32)) 8 0 0 j47 ((mset N12 7 0 0 j33 (N12 7 0 0 j32)) 8 0 0 j46)) 9 0 0 j61 ((mset (mset N12 7 0 0 j33 (N12 7 0 0 j32)) 8 0 0 j47 ((mset N12 7 0 0 j33 (N12 7 0 0 j32)) 8 0 0 j46)) 9 0 0 j60)) 10 0 0 j74)) 11 0 0 j88)))
def f_Model_dropMessage (a : Int32) (M : Mem) : Option (Mem) :=
  f_Model_dropMessage_12 1000 a (mset M 0 0 0 8 ((M 0 0 0 8) - 1))
abbrev rm_Model_dropMessage : Room := { frames := 0, cells := 0, slots := 0, locals := 0 }
set_option maxHeartbeats 4000000 in
set_option maxRecDepth 100000 in
theorem c_Model_dropMessage {l : Launch} {D : va_G} {ad : Nat → Nat} {G : Nat → ClassId} {a : Int32}  {M : Mem} {x : Mem} (hf : f_Model_dropMessage a M = some x) : Met l y_Model_dropMessage (wc y_Model_dropMessage b_Model_dropMessage 3 (none)) rm_Model_dropMessage (va_Pc [.ref (ad 0), .int a] (tB D ad G M)) (wr_Q (none) D cls 15 ad (tE ad G x)) 0 0 (wl_A 15 ad) := by
  refine k_met (by decide) (Nat.le_of_ble_eq_true rfl) ?_
  intro p e s m args below meth c S hr hlk hB ls hl
  obtain ⟨hx, hb, hml, hown, hts⟩ := id S
  obtain ⟨hP, hK, hA0⟩ := hB
  have hA := wl_own hA0
  have hl : lv_has ls 3 [(0, .ref (ad 0)), (1, .int a)] := hl
  have hS : va_S (wl_A 15 ad) s.heap s.heap [] := va_S.rf
  unfold f_Model_dropMessage at hf
  refine lv_aload_n hx hb d_Model_dropMessage_0 rfl (lv_at hl 0 rfl) ?_
  refine lv_dup hx hb d_Model_dropMessage_1 rfl ?_
  refine va_get (D := D) (ci := 5) (v := .int (M 0 0 0 8)) (C := R_Model) (T := F_Model) (N := 24) hx hb hts in_Model hown hK hP 0 (wl_to (by decide) (MO_at)) rfl 8 (by decide) (hts _ fl_Model_76) (fun _ h => h) rfl d_Model_dropMessage_2 ?_
  refine lv_iconst (v := 1) hx hb d_Model_dropMessage_5 (by decide) ?_
  refine lv_isub hx hb d_Model_dropMessage_6 ?_
  refine m_put (t := 0) (a := 0) (b := 0) (x := ((M 0 0 0 8) - 1)) (ci := 5) (C := R_Model) (T := F_Model) (N := 24) hx hb hts in_Model t_Model ty_Model nm_Model hown hK hP hA hS tJ 0 (by decide) (Model_fs ad) (fun _ => rfl) ⟨rfl, rfl, rfl⟩ rfl 8 (by decide) (hts _ fl_Model_76) rfl (by decide +kernel) (fun _ => ⟨Nat.le_of_ble_eq_true rfl, rfl⟩) d_Model_dropMessage_7 (fun H locs hP hS => ?_)
  refine lv_iload_n hx hb d_Model_dropMessage_10 rfl (lv_at hl 1 rfl) ?_
  refine lv_istore_n (lv' := [(2, .int a), (0, .ref (ad 0)), (1, .int a)]) hx hb d_Model_dropMessage_11 rfl hl (by decide) rfl (fun ls hl => ?_)
  have L12 : ∀ (k12 : Nat) (v2_12 : Int32) (N12 : Mem) (H : Heap) (locs : List Loc) (ls : Array Slot), lv_has ls 3 [(2, .int v2_12), (0, .ref (ad 0)), (1, .int a)] → va_P D cls (tW ad G N12) H → va_S (wl_A 15 ad) s.heap H locs → f_Model_dropMessage_12 k12 v2_12 N12 = some x → W p l e rm_Model_dropMessage s m args below meth c H locs 0 0 (MQ below (wr_Q (none) D cls 15 ad (tE ad G x)) args s 0 0 (wl_A 15 ad)) (F0 m 12 ls []) := by
    intro k12
    induction k12 with
    | zero =>
      intro v2_12 N12 H locs ls hl hP hS hf
      simp [f_Model_dropMessage_12] at hf
    | succ k12 ih12 =>
      intro v2_12 N12 H locs ls hl hP hS hf
      rw [f_Model_dropMessage_12] at hf
      refine lv_iload_n hx hb d_Model_dropMessage_12 rfl (lv_at hl 0 rfl) ?_
      refine lv_aload_n hx hb d_Model_dropMessage_13 rfl (lv_at hl 1 rfl) ?_
      refine va_get (D := D) (ci := 5) (v := .int (N12 0 0 0 8)) (C := R_Model) (T := F_Model) (N := 24) hx hb hts in_Model hown hK hP 0 (wl_to (by decide) (MO_at)) rfl 8 (by decide) (hts _ fl_Model_76) (fun _ h => h) rfl d_Model_dropMessage_14 ?_
      refine lv_icmp_ge (tgt := 96) hx hb d_Model_dropMessage_17 (by decide) (fun h17 => ?_) (fun h17 => ?_)
      · rw [if_pos h17] at hf
        cases hf
        exact w_vret hx hb hr hlk hP hS d_Model_dropMessage_96
      · rw [if_neg h17] at hf
        refine lv_aload_n hx hb d_Model_dropMessage_20 rfl (lv_at hl 1 rfl) ?_
        refine va_get (D := D) (ci := 5) (v := .ref (ad 7)) (C := R_Model) (T := F_Model) (N := 24) hx hb hts in_Model hown hK hP 0 (wl_to (by decide) (MO_at)) rfl 10 (by decide) (hts _ fl_Model_29) (fun _ h => h) rfl d_Model_dropMessage_21 ?_
        refine lv_iload_n hx hb d_Model_dropMessage_24 rfl (lv_at hl 0 rfl) ?_
        refine lv_aload_n hx hb d_Model_dropMessage_25 rfl (lv_at hl 1 rfl) ?_
        refine va_get (D := D) (ci := 5) (v := .ref (ad 7)) (C := R_Model) (T := F_Model) (N := 24) hx hb hts in_Model hown hK hP 0 (wl_to (by decide) (MO_at)) rfl 10 (by decide) (hts _ fl_Model_29) (fun _ h => h) rfl d_Model_dropMessage_26 ?_
        refine lv_iload_n hx hb d_Model_dropMessage_29 rfl (lv_at hl 0 rfl) ?_
        refine lv_iconst (v := 1) hx hb d_Model_dropMessage_30 (by decide) ?_
        refine lv_iadd hx hb d_Model_dropMessage_31 ?_
        obtain ⟨j32, hj32, hf⟩ := ob hf
        refine k_iald hx hb hK hP 7 0 (by decide) (FROM_at) rfl hj32 d_Model_dropMessage_32 ?_
        obtain ⟨j33, hj33, hf⟩ := ob hf
        refine m_iast (t := 7) (a := 0) (b := 0) (x := (N12 7 0 0 j32)) hx hb hK hP hA hS tJ 7 0 (by decide) ⟨rfl, rfl, rfl⟩ (fun f => FROM_row f) rfl hj33 d_Model_dropMessage_33 (fun H locs hP hS => ?_)
        refine lv_aload_n hx hb d_Model_dropMessage_34 rfl (lv_at hl 1 rfl) ?_
        refine va_get (D := D) (ci := 5) (v := .ref (ad 8)) (C := R_Model) (T := F_Model) (N := 24) hx hb hts in_Model hown hK hP 0 (wl_to (by decide) (MO_at)) rfl 11 (by decide) (hts _ fl_Model_32) (fun _ h => h) rfl d_Model_dropMessage_35 ?_
        refine lv_iload_n hx hb d_Model_dropMessage_38 rfl (lv_at hl 0 rfl) ?_
        refine lv_aload_n hx hb d_Model_dropMessage_39 rfl (lv_at hl 1 rfl) ?_
        refine va_get (D := D) (ci := 5) (v := .ref (ad 8)) (C := R_Model) (T := F_Model) (N := 24) hx hb hts in_Model hown hK hP 0 (wl_to (by decide) (MO_at)) rfl 11 (by decide) (hts _ fl_Model_32) (fun _ h => h) rfl d_Model_dropMessage_40 ?_
        refine lv_iload_n hx hb d_Model_dropMessage_43 rfl (lv_at hl 0 rfl) ?_
        refine lv_iconst (v := 1) hx hb d_Model_dropMessage_44 (by decide) ?_
        refine lv_iadd hx hb d_Model_dropMessage_45 ?_
        obtain ⟨j46, hj46, hf⟩ := ob hf
        refine k_iald hx hb hK hP 8 0 (by decide) (TOO_at) rfl hj46 d_Model_dropMessage_46 ?_
        obtain ⟨j47, hj47, hf⟩ := ob hf
        refine m_iast (t := 8) (a := 0) (b := 0) (x := ((mset N12 7 0 0 j33 (N12 7 0 0 j32)) 8 0 0 j46)) hx hb hK hP hA hS tJ 8 0 (by decide) ⟨rfl, rfl, rfl⟩ (fun f => TOO_row f) rfl hj47 d_Model_dropMessage_47 (fun H locs hP hS => ?_)
        refine lv_aload_n hx hb d_Model_dropMessage_48 rfl (lv_at hl 1 rfl) ?_
        refine va_get (D := D) (ci := 5) (v := .ref (ad 9)) (C := R_Model) (T := F_Model) (N := 24) hx hb hts in_Model hown hK hP 0 (wl_to (by decide) (MO_at)) rfl 12 (by decide) (hts _ fl_Model_35) (fun _ h => h) rfl d_Model_dropMessage_49 ?_
        refine lv_iload_n hx hb d_Model_dropMessage_52 rfl (lv_at hl 0 rfl) ?_
        refine lv_aload_n hx hb d_Model_dropMessage_53 rfl (lv_at hl 1 rfl) ?_
        refine va_get (D := D) (ci := 5) (v := .ref (ad 9)) (C := R_Model) (T := F_Model) (N := 24) hx hb hts in_Model hown hK hP 0 (wl_to (by decide) (MO_at)) rfl 12 (by decide) (hts _ fl_Model_35) (fun _ h => h) rfl d_Model_dropMessage_54 ?_
        refine lv_iload_n hx hb d_Model_dropMessage_57 rfl (lv_at hl 0 rfl) ?_
        refine lv_iconst (v := 1) hx hb d_Model_dropMessage_58 (by decide) ?_
        refine lv_iadd hx hb d_Model_dropMessage_59 ?_
        obtain ⟨j60, hj60, hf⟩ := ob hf
        refine k_iald hx hb hK hP 9 0 (by decide) (KIND_at) rfl hj60 d_Model_dropMessage_60 ?_
        obtain ⟨j61, hj61, hf⟩ := ob hf
        refine m_iast (t := 9) (a := 0) (b := 0) (x := ((mset (mset N12 7 0 0 j33 (N12 7 0 0 j32)) 8 0 0 j47 ((mset N12 7 0 0 j33 (N12 7 0 0 j32)) 8 0 0 j46)) 9 0 0 j60)) hx hb hK hP hA hS tJ 9 0 (by decide) ⟨rfl, rfl, rfl⟩ (fun f => KIND_row f) rfl hj61 d_Model_dropMessage_61 (fun H locs hP hS => ?_)
        refine lv_aload_n hx hb d_Model_dropMessage_62 rfl (lv_at hl 1 rfl) ?_
        refine va_get (D := D) (ci := 5) (v := .ref (ad 10)) (C := R_Model) (T := F_Model) (N := 24) hx hb hts in_Model hown hK hP 0 (wl_to (by decide) (MO_at)) rfl 13 (by decide) (hts _ fl_Model_38) (fun _ h => h) rfl d_Model_dropMessage_63 ?_
        refine lv_iload_n hx hb d_Model_dropMessage_66 rfl (lv_at hl 0 rfl) ?_
        refine lv_aload_n hx hb d_Model_dropMessage_67 rfl (lv_at hl 1 rfl) ?_
        refine va_get (D := D) (ci := 5) (v := .ref (ad 10)) (C := R_Model) (T := F_Model) (N := 24) hx hb hts in_Model hown hK hP 0 (wl_to (by decide) (MO_at)) rfl 13 (by decide) (hts _ fl_Model_38) (fun _ h => h) rfl d_Model_dropMessage_68 ?_
        refine lv_iload_n hx hb d_Model_dropMessage_71 rfl (lv_at hl 0 rfl) ?_
        refine lv_iconst (v := 1) hx hb d_Model_dropMessage_72 (by decide) ?_
        refine lv_iadd hx hb d_Model_dropMessage_73 ?_
        obtain ⟨j74, hj74, hf⟩ := ob hf
        refine k_iald hx hb hK hP 10 0 (by decide) (ABO_at) rfl hj74 d_Model_dropMessage_74 ?_
        obtain ⟨j75, hj75, hf⟩ := ob hf
        refine m_iast (t := 10) (a := 0) (b := 0) (x := ((mset (mset (mset N12 7 0 0 j33 (N12 7 0 0 j32)) 8 0 0 j47 ((mset N12 7 0 0 j33 (N12 7 0 0 j32)) 8 0 0 j46)) 9 0 0 j61 ((mset (mset N12 7 0 0 j33 (N12 7 0 0 j32)) 8 0 0 j47 ((mset N12 7 0 0 j33 (N12 7 0 0 j32)) 8 0 0 j46)) 9 0 0 j60)) 10 0 0 j74)) hx hb hK hP hA hS tJ 10 0 (by decide) ⟨rfl, rfl, rfl⟩ (fun f => ABO_row f) rfl hj75 d_Model_dropMessage_75 (fun H locs hP hS => ?_)
        refine lv_aload_n hx hb d_Model_dropMessage_76 rfl (lv_at hl 1 rfl) ?_
        refine va_get (D := D) (ci := 5) (v := .ref (ad 11)) (C := R_Model) (T := F_Model) (N := 24) hx hb hts in_Model hown hK hP 0 (wl_to (by decide) (MO_at)) rfl 14 (by decide) (hts _ fl_Model_41) (fun _ h => h) rfl d_Model_dropMessage_77 ?_
        refine lv_iload_n hx hb d_Model_dropMessage_80 rfl (lv_at hl 0 rfl) ?_
        refine lv_aload_n hx hb d_Model_dropMessage_81 rfl (lv_at hl 1 rfl) ?_
        refine va_get (D := D) (ci := 5) (v := .ref (ad 11)) (C := R_Model) (T := F_Model) (N := 24) hx hb hts in_Model hown hK hP 0 (wl_to (by decide) (MO_at)) rfl 14 (by decide) (hts _ fl_Model_41) (fun _ h => h) rfl d_Model_dropMessage_82 ?_
        refine lv_iload_n hx hb d_Model_dropMessage_85 rfl (lv_at hl 0 rfl) ?_
        refine lv_iconst (v := 1) hx hb d_Model_dropMessage_86 (by decide) ?_
        refine lv_iadd hx hb d_Model_dropMessage_87 ?_
        obtain ⟨j88, hj88, hf⟩ := ob hf
        refine k_iald hx hb hK hP 11 0 (by decide) (WHI_at) rfl hj88 d_Model_dropMessage_88 ?_
        obtain ⟨j89, hj89, hf⟩ := ob hf
        refine m_iast (t := 11) (a := 0) (b := 0) (x := ((mset (mset (mset (mset N12 7 0 0 j33 (N12 7 0 0 j32)) 8 0 0 j47 ((mset N12 7 0 0 j33 (N12 7 0 0 j32)) 8 0 0 j46)) 9 0 0 j61 ((mset (mset N12 7 0 0 j33 (N12 7 0 0 j32)) 8 0 0 j47 ((mset N12 7 0 0 j33 (N12 7 0 0 j32)) 8 0 0 j46)) 9 0 0 j60)) 10 0 0 j75 ((mset (mset (mset N12 7 0 0 j33 (N12 7 0 0 j32)) 8 0 0 j47 ((mset N12 7 0 0 j33 (N12 7 0 0 j32)) 8 0 0 j46)) 9 0 0 j61 ((mset (mset N12 7 0 0 j33 (N12 7 0 0 j32)) 8 0 0 j47 ((mset N12 7 0 0 j33 (N12 7 0 0 j32)) 8 0 0 j46)) 9 0 0 j60)) 10 0 0 j74)) 11 0 0 j88)) hx hb hK hP hA hS tJ 11 0 (by decide) ⟨rfl, rfl, rfl⟩ (fun f => WHI_row f) rfl hj89 d_Model_dropMessage_89 (fun H locs hP hS => ?_)
        refine lv_iinc (v := (v2_12 + 1)) (lv' := [(2, .int (v2_12 + 1)), (0, .ref (ad 0)), (1, .int a)]) hx hb d_Model_dropMessage_90 hl (k := 0) rfl rfl (by decide) rfl (fun ls hl => ?_)
        refine lv_goto (tgt := 12) hx hb d_Model_dropMessage_93 (by decide) ?_
        exact ih12 _ _ _ _ _ (lv_sub hl [0, 1, 2] rfl) hP hS hf
  exact L12 _ _ _ _ _ _ (lv_sub hl [0, 1, 2] rfl) hP hS hf
