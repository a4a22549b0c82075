abbrev rmT_LR_checkRange : Room := { frames := 6, cells := 1, slots := 6, locals := 82 }
set_option maxHeartbeats 4000000 in
set_option maxRecDepth 100000 in
theorem t_LR_checkRange {l : Launch} (hl0 : l.stackTraces = false) {h0 : Nat} {a : Int32} {b : Int32} {z : Int32} (hf : f_LR_checkRange a b z = none) : th_Met l y_LR_checkRange (wc y_LR_checkRange b_LR_checkRange 3 (none)) rmT_LR_checkRange (va_Pc [.int a, .int b, .int z] (tz h0)) exI := by
  refine th_met (by decide) (Nat.le_of_ble_eq_true rfl) ?_
  intro p e s m args below meth c S hno hlk hB ls hl
  obtain ⟨hx, hb, hml, hown, hts⟩ := id S
  have hZ := hB
  have hl : lv_has ls 3 [(0, .int a), (1, .int b), (2, .int z)] := hl
  unfold f_LR_checkRange at hf
  refine lv_iload_n hx hb d_LR_checkRange_0 rfl (lv_at hl 0 rfl) ?_
  refine lv_iload_n hx hb d_LR_checkRange_1 rfl (lv_at hl 1 rfl) ?_
  refine lv_icmp_lt (tgt := 10) hx hb d_LR_checkRange_2 (by decide) (fun h2 => ?_) (fun h2 => ?_)
  · rw [if_pos h2] at hf
    obtain ⟨sa, hsa⟩ := tz_s1 hZ
    exact th_new (Y := exR) (names := exL) hx hb hl0 hown (by decide +kernel) (by decide +kernel) (by decide +kernel) ebI_0 ebI_1 ebI_2 ebI_5 (hts _ cx_153) (hts _ ci_I) (vk_use hsa).1 (vk_use hsa).2 (tz_atI hts hZ) (hl.1.trans hml.symm) d_LR_checkRange_10 d_LR_checkRange_13 d_LR_checkRange_14 d_LR_checkRange_16 d_LR_checkRange_19 hno (by decide) (Nat.le_of_ble_eq_true rfl) (by decide) (by decide) hlk
  · rw [if_neg h2] at hf
    refine lv_iload_n hx hb d_LR_checkRange_5 rfl (lv_at hl 0 rfl) ?_
    refine lv_iload_n hx hb d_LR_checkRange_6 rfl (lv_at hl 2 rfl) ?_
    refine lv_icmp_le (tgt := 20) hx hb d_LR_checkRange_7 (by decide) (fun h7 => ?_) (fun h7 => ?_)
    · rw [if_pos h7] at hf
      cases hf
    · rw [if_neg h7] at hf
      obtain ⟨sa, hsa⟩ := tz_s1 hZ
      exact th_new (Y := exR) (names := exL) hx hb hl0 hown (by decide +kernel) (by decide +kernel) (by decide +kernel) ebI_0 ebI_1 ebI_2 ebI_5 (hts _ cx_153) (hts _ ci_I) (vk_use hsa).1 (vk_use hsa).2 (tz_atI hts hZ) (hl.1.trans hml.symm) d_LR_checkRange_10 d_LR_checkRange_13 d_LR_checkRange_14 d_LR_checkRange_16 d_LR_checkRange_19 hno (by decide) (Nat.le_of_ble_eq_true rfl) (by decide) (by decide) hlk
abbrev rmT_LR_checkRouter : Room := { frames := 7, cells := 1, slots := 6, locals := 104 }
set_option maxHeartbeats 4000000 in
set_option maxRecDepth 100000 in
theorem t_LR_checkRouter {l : Launch} (hl0 : l.stackTraces = false) {h0 : Nat} {D : va_G} {n : Nat} {ad : Nat → Nat} {G : Nat → ClassId} {M : Mem} {a : Int32} (hf : f_LR_checkRouter n a M = none) : th_Met l y_LR_checkRouter (wc y_LR_checkRouter b_LR_checkRouter 2 (none)) rmT_LR_checkRouter (va_Pc [.ref (ad 0), .int a] (zB h0 D n ad G M)) exI := by
  refine th_met (by decide) (Nat.le_of_ble_eq_true rfl) ?_
  intro p e s m args below meth c S hno hlk hB ls hl
  obtain ⟨hx, hb, hml, hown, hts⟩ := id S
  obtain ⟨⟨hP, hK, hA0⟩, hZ⟩ := hB
  have hA := wl_own hA0
  have hl : lv_has ls 2 [(0, .ref (ad 0)), (1, .int a)] := hl
  unfold f_LR_checkRouter at hf
  refine lv_iload_n hx hb d_LR_checkRouter_0 rfl (lv_at hl 1 rfl) ?_
  refine lv_iconst (v := 0) hx hb d_LR_checkRouter_1 (by decide) ?_
  refine lv_aload_n hx hb d_LR_checkRouter_2 rfl (lv_at hl 0 rfl) ?_
  refine va_get (D := D) (ci := 0) (v := .int (nI n)) (C := R_LR) (T := F_LR) (N := 6) hx hb hts in_LR hown hK hP 0 (wl_to (LR_lt) (LR_at)) rfl 0 (by decide) (hts _ fl_LR_18) (fun _ h => h) rfl d_LR_checkRouter_3 ?_
  refine lv_iconst (v := 1) hx hb d_LR_checkRouter_6 (by decide) ?_
  refine lv_isub hx hb d_LR_checkRouter_7 ?_
  cases hc8 : f_LR_checkRange a 0 ((nI n) - 1) with
  | none =>
    exact th_sta S (t_LR_checkRange hl0 hc8) (ws_t 180 (by decide +kernel) (by decide +kernel)) (ws_t 181 (by decide +kernel) (by decide +kernel)) k_LR_checkRange (ws_t 1 (by decide +kernel) (by decide +kernel)) hd_LR_checkRange ⟨rfl, rfl⟩ ⟨Nat.le_of_ble_eq_true rfl, Nat.le_of_ble_eq_true rfl⟩ (by decide) (by decide) tz_blind (fun U hU hW => tz_pre hZ U hU hW) rfl hl.1 rfl (Nat.le_of_ble_eq_true rfl) d_LR_checkRouter_8 (fun q ce H1 a1 a2 a3 a4 a5 => th_out hno hlk a1 a2 a3 a4 a5)
  | some u =>
    rw [hc8] at hf
    have hf := ob_n hf
    refine k_rdv (k_sta S (c_LR_checkRange (l := l) (D := D) (n := n) (ad := ad) (G := G) hc8) g_LR_66 hd_LR_checkRange ⟨rfl, rfl⟩ ⟨Nat.le_of_ble_eq_true rfl, Nat.le_of_ble_eq_true rfl⟩ wl_blind (wl_pre hP hK hA) rfl hl.1 rfl (Nat.le_of_ble_eq_true rfl) d_LR_checkRouter_8 (Nat.zero_le _) (Nat.zero_le _)) ?_
    cases hf
abbrev rmT_LR_checkRouterOrNone : Room := { frames := 7, cells := 1, slots := 6, locals := 104 }
set_option maxHeartbeats 4000000 in
set_option maxRecDepth 100000 in
theorem t_LR_checkRouterOrNone {l : Launch} (hl0 : l.stackTraces = false) {h0 : Nat} {D : va_G} {n : Nat} {ad : Nat → Nat} {G : Nat → ClassId} {M : Mem} {a : Int32} (hf : f_LR_checkRouterOrNone n a M = none) : th_Met l y_LR_checkRouterOrNone (wc y_LR_checkRouterOrNone b_LR_checkRouterOrNone 2 (none)) rmT_LR_checkRouterOrNone (va_Pc [.ref (ad 0), .int a] (zB h0 D n ad G M)) exI := by
  refine th_met (by decide) (Nat.le_of_ble_eq_true rfl) ?_
  intro p e s m args below meth c S hno hlk hB ls hl
  obtain ⟨hx, hb, hml, hown, hts⟩ := id S
  obtain ⟨⟨hP, hK, hA0⟩, hZ⟩ := hB
  have hA := wl_own hA0
  have hl : lv_has ls 2 [(0, .ref (ad 0)), (1, .int a)] := hl
  unfold f_LR_checkRouterOrNone at hf
  refine lv_iload_n hx hb d_LR_checkRouterOrNone_0 rfl (lv_at hl 1 rfl) ?_
  refine lv_iconst (v := (-1)) hx hb d_LR_checkRouterOrNone_1 (by decide) ?_
  refine lv_aload_n hx hb d_LR_checkRouterOrNone_2 rfl (lv_at hl 0 rfl) ?_
  refine va_get (D := D) (ci := 0) (v := .int (nI n)) (C := R_LR) (T := F_LR) (N := 6) hx hb hts in_LR hown hK hP 0 (wl_to (LR_lt) (LR_at)) rfl 0 (by decide) (hts _ fl_LR_18) (fun _ h => h) rfl d_LR_checkRouterOrNone_3 ?_
  refine lv_iconst (v := 1) hx hb d_LR_checkRouterOrNone_6 (by decide) ?_
  refine lv_isub hx hb d_LR_checkRouterOrNone_7 ?_
  cases hc8 : f_LR_checkRange a (-1) ((nI n) - 1) with
  | none =>
    exact th_sta S (t_LR_checkRange hl0 hc8) (ws_t 180 (by decide +kernel) (by decide +kernel)) (ws_t 181 (by decide +kernel) (by decide +kernel)) k_LR_checkRange (ws_t 1 (by decide +kernel) (by decide +kernel)) hd_LR_checkRange ⟨rfl, rfl⟩ ⟨Nat.le_of_ble_eq_true rfl, Nat.le_of_ble_eq_true rfl⟩ (by decide) (by decide) tz_blind (fun U hU hW => tz_pre hZ U hU hW) rfl hl.1 rfl (Nat.le_of_ble_eq_true rfl) d_LR_checkRouterOrNone_8 (fun q ce H1 a1 a2 a3 a4 a5 => th_out hno hlk a1 a2 a3 a4 a5)
  | some u =>
    rw [hc8] at hf
    have hf := ob_n hf
    refine k_rdv (k_sta S (c_LR_checkRange (l := l) (D := D) (n := n) (ad := ad) (G := G) hc8) g_LR_66 hd_LR_checkRange ⟨rfl, rfl⟩ ⟨Nat.le_of_ble_eq_true rfl, Nat.le_of_ble_eq_true rfl⟩ wl_blind (wl_pre hP hK hA) rfl hl.1 rfl (Nat.le_of_ble_eq_true rfl) d_LR_checkRouterOrNone_8 (Nat.zero_le _) (Nat.zero_le _)) ?_
    cases hf
abbrev rmT_LR_checkPrefix : Room := { frames := 7, cells := 1, slots := 6, locals := 104 }
set_option maxHeartbeats 4000000 in
set_option maxRecDepth 100000 in
theorem t_LR_checkPrefix {l : Launch} (hl0 : l.stackTraces = false) {h0 : Nat} {a : Int32} (hf : f_LR_checkPrefix a = none) : th_Met l y_LR_checkPrefix (wc y_LR_checkPrefix b_LR_checkPrefix 1 (none)) rmT_LR_checkPrefix (va_Pc [.int a] (tz h0)) exI := by
  refine th_met (by decide) (Nat.le_of_ble_eq_true rfl) ?_
  intro p e s m args below meth c S hno hlk hB ls hl
  obtain ⟨hx, hb, hml, hown, hts⟩ := id S
  have hZ := hB
  have hl : lv_has ls 1 [(0, .int a)] := hl
  unfold f_LR_checkPrefix at hf
  refine lv_iload_n hx hb d_LR_checkPrefix_0 rfl (lv_at hl 0 rfl) ?_
  refine lv_iconst (v := 0) hx hb d_LR_checkPrefix_1 (by decide) ?_
  refine lv_iconst (v := 3) hx hb d_LR_checkPrefix_2 (by decide) ?_
  cases hc3 : f_LR_checkRange a 0 3 with
  | none =>
    exact th_sta S (t_LR_checkRange hl0 hc3) (ws_t 180 (by decide +kernel) (by decide +kernel)) (ws_t 181 (by decide +kernel) (by decide +kernel)) k_LR_checkRange (ws_t 1 (by decide +kernel) (by decide +kernel)) hd_LR_checkRange ⟨rfl, rfl⟩ ⟨Nat.le_of_ble_eq_true rfl, Nat.le_of_ble_eq_true rfl⟩ (by decide) (by decide) tz_blind (fun U hU hW => tz_pre hZ U hU hW) rfl hl.1 rfl (Nat.le_of_ble_eq_true rfl) d_LR_checkPrefix_3 (fun q ce H1 a1 a2 a3 a4 a5 => th_out hno hlk a1 a2 a3 a4 a5)
  | some u =>
    rw [hc3] at hf
    have hf := ob_n hf
    cases hf
abbrev rmT_LR_checkTwoRouters : Room := { frames := 8, cells := 1, slots := 6, locals := 125 }
set_option maxHeartbeats 4000000 in
set_option maxRecDepth 100000 in
theorem t_LR_checkTwoRouters {l : Launch} (hl0 : l.stackTraces = false) {h0 : Nat} {D : va_G} {n : Nat} {ad : Nat → Nat} {G : Nat → ClassId} {M : Mem} {a : Int32} {b : Int32} (hf : f_LR_checkTwoRouters n a b M = none) : th_Met l y_LR_checkTwoRouters (wc y_LR_checkTwoRouters b_LR_checkTwoRouters 3 (none)) rmT_LR_checkTwoRouters (va_Pc [.ref (ad 0), .int a, .int b] (zB h0 D n ad G M)) exI := by
  refine th_met (by decide) (Nat.le_of_ble_eq_true rfl) ?_
  intro p e s m args below meth c S hno hlk hB ls hl
  obtain ⟨hx, hb, hml, hown, hts⟩ := id S
  obtain ⟨⟨hP, hK, hA0⟩, hZ⟩ := hB
  have hA := wl_own hA0
  have hl : lv_has ls 3 [(0, .ref (ad 0)), (1, .int a), (2, .int b)] := hl
  unfold f_LR_checkTwoRouters at hf
  refine lv_aload_n hx hb d_LR_checkTwoRouters_0 rfl (lv_at hl 0 rfl) ?_
  refine lv_iload_n hx hb d_LR_checkTwoRouters_1 rfl (lv_at hl 1 rfl) ?_
  cases hc2 : f_LR_checkRouter n a M with
  | none =>
    exact th_vir S (t_LR_checkRouter hl0 hc2) (ws_t 176 (by decide +kernel) (by decide +kernel)) (ws_t 178 (by decide +kernel) (by decide +kernel)) (ws_p (q := (y_LR_checkRouter, 6)) 1 (by decide +kernel)) k_LR_checkRouter (ws_t 1 (by decide +kernel) (by decide +kernel)) hd_LR_checkRouter.2 ⟨rfl, rfl⟩ ⟨Nat.le_of_ble_eq_true rfl, Nat.le_of_ble_eq_true rfl⟩ (by decide) (by decide) zB_blind (va_recv hK hP rfl (wl_to LR_lt LR_at)) (fun U hU hW => zB_pre hP hK hA hZ U hU hW) rfl hl.1 rfl (Nat.le_of_ble_eq_true rfl) d_LR_checkTwoRouters_2 (fun q ce H1 a1 a2 a3 a4 a5 => th_out hno hlk a1 a2 a3 a4 a5)
  | some u =>
    rw [hc2] at hf
    have hf := ob_n hf
    refine k_rdv (k_vir S (c_LR_checkRouter (l := l) (D := D) (n := n) (ad := ad) (G := G) hc2) g_LR_116 hd_LR_checkRouter ⟨rfl, rfl⟩ ⟨Nat.le_of_ble_eq_true rfl, Nat.le_of_ble_eq_true rfl⟩ wl_blind (va_recv hK hP rfl (wl_to LR_lt LR_at)) (wl_pre hP hK hA) rfl hl.1 rfl (Nat.le_of_ble_eq_true rfl) d_LR_checkTwoRouters_2 (Nat.zero_le _) (Nat.zero_le _)) ?_
    refine lv_aload_n hx hb d_LR_checkTwoRouters_5 rfl (lv_at hl 0 rfl) ?_
    refine lv_iload_n hx hb d_LR_checkTwoRouters_6 rfl (lv_at hl 2 rfl) ?_
    cases hc7 : f_LR_checkRouter n b M with
    | none =>
      exact th_vir S (t_LR_checkRouter hl0 hc7) (ws_t 176 (by decide +kernel) (by decide +kernel)) (ws_t 178 (by decide +kernel) (by decide +kernel)) (ws_p (q := (y_LR_checkRouter, 6)) 1 (by decide +kernel)) k_LR_checkRouter (ws_t 1 (by decide +kernel) (by decide +kernel)) hd_LR_checkRouter.2 ⟨rfl, rfl⟩ ⟨Nat.le_of_ble_eq_true rfl, Nat.le_of_ble_eq_true rfl⟩ (by decide) (by decide) zB_blind (va_recv hK hP rfl (wl_to LR_lt LR_at)) (fun U hU hW => zB_pre hP hK hA hZ U hU hW) rfl hl.1 rfl (Nat.le_of_ble_eq_true rfl) d_LR_checkTwoRouters_7 (fun q ce H1 a1 a2 a3 a4 a5 => th_out hno hlk a1 a2 a3 a4 a5)
    | some u =>
      rw [hc7] at hf
      have hf := ob_n hf
      refine k_rdv (k_vir S (c_LR_checkRouter (l := l) (D := D) (n := n) (ad := ad) (G := G) hc7) g_LR_116 hd_LR_checkRouter ⟨rfl, rfl⟩ ⟨Nat.le_of_ble_eq_true rfl, Nat.le_of_ble_eq_true rfl⟩ wl_blind (va_recv hK hP rfl (wl_to LR_lt LR_at)) (wl_pre hP hK hA) rfl hl.1 rfl (Nat.le_of_ble_eq_true rfl) d_LR_checkTwoRouters_7 (Nat.zero_le _) (Nat.zero_le _)) ?_
      refine lv_iload_n hx hb d_LR_checkTwoRouters_10 rfl (lv_at hl 1 rfl) ?_
      refine lv_iload_n hx hb d_LR_checkTwoRouters_11 rfl (lv_at hl 2 rfl) ?_
      refine lv_icmp_ne (tgt := 25) hx hb d_LR_checkTwoRouters_12 (by decide) (fun h12 => ?_) (fun h12 => ?_)
      · rw [if_neg h12] at hf
        cases hf
      · rw [if_pos h12] at hf
        obtain ⟨sa, hsa⟩ := tz_s2 hZ
        exact th_new (Y := exR) (names := exL) hx hb hl0 hown (by decide +kernel) (by decide +kernel) (by decide +kernel) ebI_0 ebI_1 ebI_2 ebI_5 (hts _ cx_153) (hts _ ci_I) (vk_use hsa).1 (vk_use hsa).2 (tz_atI hts hZ) (hl.1.trans hml.symm) d_LR_checkTwoRouters_15 d_LR_checkTwoRouters_18 d_LR_checkTwoRouters_19 d_LR_checkTwoRouters_21 d_LR_checkTwoRouters_24 hno (by decide) (Nat.le_of_ble_eq_true rfl) (by decide) (by decide) hlk
abbrev rmT_LR_checkHop : Room := { frames := 6, cells := 1, slots := 6, locals := 82 }
set_option maxHeartbeats 4000000 in
set_option maxRecDepth 100000 in
theorem t_LR_checkHop {l : Launch} (hl0 : l.stackTraces = false) {h0 : Nat} {D : va_G} {n : Nat} {ad : Nat → Nat} {G : Nat → ClassId} {M : Mem} {a : Int32} (hf : f_LR_checkHop n a M = none) : th_Met l y_LR_checkHop (wc y_LR_checkHop b_LR_checkHop 2 (none)) rmT_LR_checkHop (va_Pc [.ref (ad 0), .int a] (zB h0 D n ad G M)) exN := by
  refine th_met (by decide) (Nat.le_of_ble_eq_true rfl) ?_
  intro p e s m args below meth c S hno hlk hB ls hl
  obtain ⟨hx, hb, hml, hown, hts⟩ := id S
  obtain ⟨⟨hP, hK, hA0⟩, hZ⟩ := hB
  have hA := wl_own hA0
  have hl : lv_has ls 2 [(0, .ref (ad 0)), (1, .int a)] := hl
  unfold f_LR_checkHop at hf
  refine lv_iload_n hx hb d_LR_checkHop_0 rfl (lv_at hl 1 rfl) ?_
  refine lv_if_lt (tgt := 15) hx hb d_LR_checkHop_1 (by decide) (fun h1 => ?_) (fun h1 => ?_)
  · rw [if_pos h1] at hf
    obtain ⟨sa, hsa⟩ := tz_s3 hZ
    exact th_new (Y := exR) (names := exL) hx hb hl0 hown (by decide +kernel) (by decide +kernel) (by decide +kernel) ebN_0 ebN_1 ebN_2 ebN_5 (hts _ cx_162) (hts _ ci_N) (vk_use hsa).1 (vk_use hsa).2 (tz_atN hts hZ) (hl.1.trans hml.symm) d_LR_checkHop_15 d_LR_checkHop_18 d_LR_checkHop_19 d_LR_checkHop_21 d_LR_checkHop_24 hno (by decide) (Nat.le_of_ble_eq_true rfl) (by decide) (by decide) hlk
  · rw [if_neg h1] at hf
    refine lv_iload_n hx hb d_LR_checkHop_4 rfl (lv_at hl 1 rfl) ?_
    refine lv_aload_n hx hb d_LR_checkHop_5 rfl (lv_at hl 0 rfl) ?_
    refine va_get (D := D) (ci := 0) (v := .ref (ad 9)) (C := R_LR) (T := F_LR) (N := 6) hx hb hts in_LR hown hK hP 0 (wl_to (LR_lt) (LR_at)) rfl 5 (by decide) (hts _ fl_LR_58) (fun _ h => h) rfl d_LR_checkHop_6 ?_
    have hc9 : f_Packet_placeCount n M = some (M 9 0 0 2) := rfl
    rw [hc9] at hf
    have hf := ob_n hf
    refine k_rdi (k_vir S (c_Packet_placeCount (l := l) (D := D) (n := n) (ad := ad) (G := G) hc9) g_LR_141 hd_Packet_placeCount ⟨rfl, rfl⟩ ⟨Nat.le_of_ble_eq_true rfl, Nat.le_of_ble_eq_true rfl⟩ wl_blind (va_recv hK hP rfl (wl_to (PK_lt) (PK_at))) (wl_pre hP hK hA) rfl hl.1 rfl (Nat.le_of_ble_eq_true rfl) d_LR_checkHop_9 (Nat.zero_le _) (Nat.zero_le _)) ?_
    refine lv_icmp_lt (tgt := 25) hx hb d_LR_checkHop_12 (by decide) (fun h12 => ?_) (fun h12 => ?_)
    · rw [if_pos h12] at hf
      cases hf
    · rw [if_neg h12] at hf
      obtain ⟨sa, hsa⟩ := tz_s3 hZ
      exact th_new (Y := exR) (names := exL) hx hb hl0 hown (by decide +kernel) (by decide +kernel) (by decide +kernel) ebN_0 ebN_1 ebN_2 ebN_5 (hts _ cx_162) (hts _ ci_N) (vk_use hsa).1 (vk_use hsa).2 (tz_atN hts hZ) (hl.1.trans hml.symm) d_LR_checkHop_15 d_LR_checkHop_18 d_LR_checkHop_19 d_LR_checkHop_21 d_LR_checkHop_24 hno (by decide) (Nat.le_of_ble_eq_true rfl) (by decide) (by decide) hlk
abbrev rmT_LR_link : Room := { frames := 9, cells := 1, slots := 6, locals := 147 }
def g_LR_link (n : Nat) (a : Int32) (b : Int32) (z : Int32) (M : Mem) : Option Unit := (f_LR_checkTwoRouters n a b M).bind fun _ => (f_LR_checkRange z 0 15).bind fun _ => some ()
set_option maxHeartbeats 4000000 in
set_option maxRecDepth 100000 in
theorem t_LR_link {l : Launch} (hl0 : l.stackTraces = false) {h0 : Nat} {D : va_G} {n : Nat} {ad : Nat → Nat} {G : Nat → ClassId} {M : Mem} {a : Int32} {b : Int32} {z : Int32} (hf : g_LR_link n a b z M = none) : th_Met l y_LR_link (wc y_LR_link b_LR_link 5 (some .int)) rmT_LR_link (va_Pc [.ref (ad 0), .int a, .int b, .int z] (zB h0 D n ad G M)) exI := by
  refine th_met (by decide) (Nat.le_of_ble_eq_true rfl) ?_
  intro p e s m args below meth c S hno hlk hB ls hl
  obtain ⟨hx, hb, hml, hown, hts⟩ := id S
  obtain ⟨⟨hP, hK, hA0⟩, hZ⟩ := hB
  have hA := wl_own hA0
  have hl : lv_has ls 5 [(0, .ref (ad 0)), (1, .int a), (2, .int b), (3, .int z)] := hl
  unfold g_LR_link at hf
  refine lv_aload_n hx hb d_LR_link_0 rfl (lv_at hl 0 rfl) ?_
  refine lv_iload_n hx hb d_LR_link_1 rfl (lv_at hl 1 rfl) ?_
  refine lv_iload_n hx hb d_LR_link_2 rfl (lv_at hl 2 rfl) ?_
  cases hc3 : f_LR_checkTwoRouters n a b M with
  | none =>
    exact th_vir S (t_LR_checkTwoRouters hl0 hc3) (ws_t 172 (by decide +kernel) (by decide +kernel)) (ws_t 174 (by decide +kernel) (by decide +kernel)) (ws_p (q := (y_LR_checkTwoRouters, 6)) 0 (by decide +kernel)) k_LR_checkTwoRouters (ws_t 1 (by decide +kernel) (by decide +kernel)) hd_LR_checkTwoRouters.2 ⟨rfl, rfl⟩ ⟨Nat.le_of_ble_eq_true rfl, Nat.le_of_ble_eq_true rfl⟩ (by decide) (by decide) zB_blind (va_recv hK hP rfl (wl_to LR_lt LR_at)) (fun U hU hW => zB_pre hP hK hA hZ U hU hW) rfl hl.1 rfl (Nat.le_of_ble_eq_true rfl) d_LR_link_3 (fun q ce H1 a1 a2 a3 a4 a5 => th_out hno hlk a1 a2 a3 a4 a5)
  | some u =>
    rw [hc3] at hf
    have hf := ob_n hf
    refine k_rdv (k_vir S (c_LR_checkTwoRouters (l := l) (D := D) (n := n) (ad := ad) (G := G) hc3) g_LR_62 hd_LR_checkTwoRouters ⟨rfl, rfl⟩ ⟨Nat.le_of_ble_eq_true rfl, Nat.le_of_ble_eq_true rfl⟩ wl_blind (va_recv hK hP rfl (wl_to LR_lt LR_at)) (wl_pre hP hK hA) rfl hl.1 rfl (Nat.le_of_ble_eq_true rfl) d_LR_link_3 (Nat.zero_le _) (Nat.zero_le _)) ?_
    refine lv_iload_n hx hb d_LR_link_6 rfl (lv_at hl 3 rfl) ?_
    refine lv_iconst (v := 0) hx hb d_LR_link_7 (by decide) ?_
    refine lv_bipush (v := 15) hx hb d_LR_link_8 (by decide) ?_
    cases hc10 : f_LR_checkRange z 0 15 with
    | none =>
      exact th_sta S (t_LR_checkRange hl0 hc10) (ws_t 180 (by decide +kernel) (by decide +kernel)) (ws_t 181 (by decide +kernel) (by decide +kernel)) k_LR_checkRange (ws_t 1 (by decide +kernel) (by decide +kernel)) hd_LR_checkRange ⟨rfl, rfl⟩ ⟨Nat.le_of_ble_eq_true rfl, Nat.le_of_ble_eq_true rfl⟩ (by decide) (by decide) tz_blind (fun U hU hW => tz_pre hZ U hU hW) rfl hl.1 rfl (Nat.le_of_ble_eq_true rfl) d_LR_link_10 (fun q ce H1 a1 a2 a3 a4 a5 => th_out hno hlk a1 a2 a3 a4 a5)
    | some u =>
      rw [hc10] at hf
      have hf := ob_n hf
      refine k_rdv (k_sta S (c_LR_checkRange (l := l) (D := D) (n := n) (ad := ad) (G := G) hc10) g_LR_66 hd_LR_checkRange ⟨rfl, rfl⟩ ⟨Nat.le_of_ble_eq_true rfl, Nat.le_of_ble_eq_true rfl⟩ wl_blind (wl_pre hP hK hA) rfl hl.1 rfl (Nat.le_of_ble_eq_true rfl) d_LR_link_10 (Nat.zero_le _) (Nat.zero_le _)) ?_
      cases hf
abbrev rmT_LR_own : Room := { frames := 8, cells := 1, slots := 6, locals := 125 }
def g_LR_own (n : Nat) (a : Int32) (b : Int32) (M : Mem) : Option Unit := (f_LR_checkPrefix a).bind fun _ => (f_LR_checkRouterOrNone n b M).bind fun _ => some ()
set_option maxHeartbeats 4000000 in
set_option maxRecDepth 100000 in
theorem t_LR_own {l : Launch} (hl0 : l.stackTraces = false) {h0 : Nat} {D : va_G} {n : Nat} {ad : Nat → Nat} {G : Nat → ClassId} {M : Mem} {a : Int32} {b : Int32} (hf : g_LR_own n a b M = none) : th_Met l y_LR_own (wc y_LR_own b_LR_own 4 (some .int)) rmT_LR_own (va_Pc [.ref (ad 0), .int a, .int b] (zB h0 D n ad G M)) exI := by
  refine th_met (by decide) (Nat.le_of_ble_eq_true rfl) ?_
  intro p e s m args below meth c S hno hlk hB ls hl
  obtain ⟨hx, hb, hml, hown, hts⟩ := id S
  obtain ⟨⟨hP, hK, hA0⟩, hZ⟩ := hB
  have hA := wl_own hA0
  have hl : lv_has ls 4 [(0, .ref (ad 0)), (1, .int a), (2, .int b)] := hl
  unfold g_LR_own at hf
  refine lv_iload_n hx hb d_LR_own_0 rfl (lv_at hl 1 rfl) ?_
  cases hc1 : f_LR_checkPrefix a with
  | none =>
    exact th_sta S (t_LR_checkPrefix hl0 hc1) (ws_t 367 (by decide +kernel) (by decide +kernel)) (ws_t 368 (by decide +kernel) (by decide +kernel)) k_LR_checkPrefix (ws_t 1 (by decide +kernel) (by decide +kernel)) hd_LR_checkPrefix ⟨rfl, rfl⟩ ⟨Nat.le_of_ble_eq_true rfl, Nat.le_of_ble_eq_true rfl⟩ (by decide) (by decide) tz_blind (fun U hU hW => tz_pre hZ U hU hW) rfl hl.1 rfl (Nat.le_of_ble_eq_true rfl) d_LR_own_1 (fun q ce H1 a1 a2 a3 a4 a5 => th_out hno hlk a1 a2 a3 a4 a5)
  | some u =>
    rw [hc1] at hf
    have hf := ob_n hf
    refine k_rdv (k_sta S (c_LR_checkPrefix (l := l) (D := D) (n := n) (ad := ad) (G := G) hc1) g_LR_85 hd_LR_checkPrefix ⟨rfl, rfl⟩ ⟨Nat.le_of_ble_eq_true rfl, Nat.le_of_ble_eq_true rfl⟩ wl_blind (wl_pre hP hK hA) rfl hl.1 rfl (Nat.le_of_ble_eq_true rfl) d_LR_own_1 (Nat.zero_le _) (Nat.zero_le _)) ?_
    refine lv_aload_n hx hb d_LR_own_4 rfl (lv_at hl 0 rfl) ?_
    refine lv_iload_n hx hb d_LR_own_5 rfl (lv_at hl 2 rfl) ?_
    cases hc6 : f_LR_checkRouterOrNone n b M with
    | none =>
      exact th_vir S (t_LR_checkRouterOrNone hl0 hc6) (ws_t 370 (by decide +kernel) (by decide +kernel)) (ws_t 372 (by decide +kernel) (by decide +kernel)) (ws_p (q := (y_LR_checkRouterOrNone, 6)) 14 (by decide +kernel)) k_LR_checkRouterOrNone (ws_t 1 (by decide +kernel) (by decide +kernel)) hd_LR_checkRouterOrNone.2 ⟨rfl, rfl⟩ ⟨Nat.le_of_ble_eq_true rfl, Nat.le_of_ble_eq_true rfl⟩ (by decide) (by decide) zB_blind (va_recv hK hP rfl (wl_to LR_lt LR_at)) (fun U hU hW => zB_pre hP hK hA hZ U hU hW) rfl hl.1 rfl (Nat.le_of_ble_eq_true rfl) d_LR_own_6 (fun q ce H1 a1 a2 a3 a4 a5 => th_out hno hlk a1 a2 a3 a4 a5)
    | some u =>
      rw [hc6] at hf
      have hf := ob_n hf
      refine k_rdv (k_vir S (c_LR_checkRouterOrNone (l := l) (D := D) (n := n) (ad := ad) (G := G) hc6) g_LR_88 hd_LR_checkRouterOrNone ⟨rfl, rfl⟩ ⟨Nat.le_of_ble_eq_true rfl, Nat.le_of_ble_eq_true rfl⟩ wl_blind (va_recv hK hP rfl (wl_to LR_lt LR_at)) (wl_pre hP hK hA) rfl hl.1 rfl (Nat.le_of_ble_eq_true rfl) d_LR_own_6 (Nat.zero_le _) (Nat.zero_le _)) ?_
      cases hf
abbrev rmT_LR_serve : Room := { frames := 8, cells := 1, slots := 6, locals := 125 }
def g_LR_serve (n : Nat) (a : Int32) (b : Int32) (M : Mem) : Option Unit := (f_LR_checkRange a 0 3).bind fun _ => (f_LR_checkRouterOrNone n b M).bind fun _ => some ()
set_option maxHeartbeats 4000000 in
set_option maxRecDepth 100000 in
theorem t_LR_serve {l : Launch} (hl0 : l.stackTraces = false) {h0 : Nat} {D : va_G} {n : Nat} {ad : Nat → Nat} {G : Nat → ClassId} {M : Mem} {a : Int32} {b : Int32} (hf : g_LR_serve n a b M = none) : th_Met l y_LR_serve (wc y_LR_serve b_LR_serve 4 (some .int)) rmT_LR_serve (va_Pc [.ref (ad 0), .int a, .int b] (zB h0 D n ad G M)) exI := by
  refine th_met (by decide) (Nat.le_of_ble_eq_true rfl) ?_
  intro p e s m args below meth c S hno hlk hB ls hl
  obtain ⟨hx, hb, hml, hown, hts⟩ := id S
  obtain ⟨⟨hP, hK, hA0⟩, hZ⟩ := hB
  have hA := wl_own hA0
  have hl : lv_has ls 4 [(0, .ref (ad 0)), (1, .int a), (2, .int b)] := hl
  unfold g_LR_serve at hf
  refine lv_iload_n hx hb d_LR_serve_0 rfl (lv_at hl 1 rfl) ?_
  refine lv_iconst (v := 0) hx hb d_LR_serve_1 (by decide) ?_
  refine lv_iconst (v := 3) hx hb d_LR_serve_2 (by decide) ?_
  cases hc3 : f_LR_checkRange a 0 3 with
  | none =>
    exact th_sta S (t_LR_checkRange hl0 hc3) (ws_t 180 (by decide +kernel) (by decide +kernel)) (ws_t 181 (by decide +kernel) (by decide +kernel)) k_LR_checkRange (ws_t 1 (by decide +kernel) (by decide +kernel)) hd_LR_checkRange ⟨rfl, rfl⟩ ⟨Nat.le_of_ble_eq_true rfl, Nat.le_of_ble_eq_true rfl⟩ (by decide) (by decide) tz_blind (fun U hU hW => tz_pre hZ U hU hW) rfl hl.1 rfl (Nat.le_of_ble_eq_true rfl) d_LR_serve_3 (fun q ce H1 a1 a2 a3 a4 a5 => th_out hno hlk a1 a2 a3 a4 a5)
  | some u =>
    rw [hc3] at hf
    have hf := ob_n hf
    refine k_rdv (k_sta S (c_LR_checkRange (l := l) (D := D) (n := n) (ad := ad) (G := G) hc3) g_LR_66 hd_LR_checkRange ⟨rfl, rfl⟩ ⟨Nat.le_of_ble_eq_true rfl, Nat.le_of_ble_eq_true rfl⟩ wl_blind (wl_pre hP hK hA) rfl hl.1 rfl (Nat.le_of_ble_eq_true rfl) d_LR_serve_3 (Nat.zero_le _) (Nat.zero_le _)) ?_
    refine lv_aload_n hx hb d_LR_serve_6 rfl (lv_at hl 0 rfl) ?_
    refine lv_iload_n hx hb d_LR_serve_7 rfl (lv_at hl 2 rfl) ?_
    cases hc8 : f_LR_checkRouterOrNone n b M with
    | none =>
      exact th_vir S (t_LR_checkRouterOrNone hl0 hc8) (ws_t 370 (by decide +kernel) (by decide +kernel)) (ws_t 372 (by decide +kernel) (by decide +kernel)) (ws_p (q := (y_LR_checkRouterOrNone, 6)) 14 (by decide +kernel)) k_LR_checkRouterOrNone (ws_t 1 (by decide +kernel) (by decide +kernel)) hd_LR_checkRouterOrNone.2 ⟨rfl, rfl⟩ ⟨Nat.le_of_ble_eq_true rfl, Nat.le_of_ble_eq_true rfl⟩ (by decide) (by decide) zB_blind (va_recv hK hP rfl (wl_to LR_lt LR_at)) (fun U hU hW => zB_pre hP hK hA hZ U hU hW) rfl hl.1 rfl (Nat.le_of_ble_eq_true rfl) d_LR_serve_8 (fun q ce H1 a1 a2 a3 a4 a5 => th_out hno hlk a1 a2 a3 a4 a5)
    | some u =>
      rw [hc8] at hf
      have hf := ob_n hf
      refine k_rdv (k_vir S (c_LR_checkRouterOrNone (l := l) (D := D) (n := n) (ad := ad) (G := G) hc8) g_LR_88 hd_LR_checkRouterOrNone ⟨rfl, rfl⟩ ⟨Nat.le_of_ble_eq_true rfl, Nat.le_of_ble_eq_true rfl⟩ wl_blind (va_recv hK hP rfl (wl_to LR_lt LR_at)) (wl_pre hP hK hA) rfl hl.1 rfl (Nat.le_of_ble_eq_true rfl) d_LR_serve_8 (Nat.zero_le _) (Nat.zero_le _)) ?_
      cases hf
abbrev rmT_LR_step : Room := { frames := 9, cells := 1, slots := 6, locals := 147 }
def g_LR_step (n : Nat) (a : Int32) (b : Int32) (M : Mem) : Option Unit := (f_LR_checkTwoRouters n a b M).bind fun _ => some ()
set_option maxHeartbeats 4000000 in
set_option maxRecDepth 100000 in
theorem t_LR_step {l : Launch} (hl0 : l.stackTraces = false) {h0 : Nat} {D : va_G} {n : Nat} {ad : Nat → Nat} {G : Nat → ClassId} {M : Mem} {a : Int32} {b : Int32} (hf : g_LR_step n a b M = none) : th_Met l y_LR_step (wc y_LR_step b_LR_step 5 (some .int)) rmT_LR_step (va_Pc [.ref (ad 0), .int a, .int b] (zB h0 D n ad G M)) exI := by
  refine th_met (by decide) (Nat.le_of_ble_eq_true rfl) ?_
  intro p e s m args below meth c S hno hlk hB ls hl
  obtain ⟨hx, hb, hml, hown, hts⟩ := id S
  obtain ⟨⟨hP, hK, hA0⟩, hZ⟩ := hB
  have hA := wl_own hA0
  have hl : lv_has ls 5 [(0, .ref (ad 0)), (1, .int a), (2, .int b)] := hl
  unfold g_LR_step at hf
  refine lv_aload_n hx hb d_LR_step_0 rfl (lv_at hl 0 rfl) ?_
  refine lv_iload_n hx hb d_LR_step_1 rfl (lv_at hl 1 rfl) ?_
  refine lv_iload_n hx hb d_LR_step_2 rfl (lv_at hl 2 rfl) ?_
  cases hc3 : f_LR_checkTwoRouters n a b M with
  | none =>
    exact th_vir S (t_LR_checkTwoRouters hl0 hc3) (ws_t 172 (by decide +kernel) (by decide +kernel)) (ws_t 174 (by decide +kernel) (by decide +kernel)) (ws_p (q := (y_LR_checkTwoRouters, 6)) 0 (by decide +kernel)) k_LR_checkTwoRouters (ws_t 1 (by decide +kernel) (by decide +kernel)) hd_LR_checkTwoRouters.2 ⟨rfl, rfl⟩ ⟨Nat.le_of_ble_eq_true rfl, Nat.le_of_ble_eq_true rfl⟩ (by decide) (by decide) zB_blind (va_recv hK hP rfl (wl_to LR_lt LR_at)) (fun U hU hW => zB_pre hP hK hA hZ U hU hW) rfl hl.1 rfl (Nat.le_of_ble_eq_true rfl) d_LR_step_3 (fun q ce H1 a1 a2 a3 a4 a5 => th_out hno hlk a1 a2 a3 a4 a5)
  | some u =>
    rw [hc3] at hf
    have hf := ob_n hf
    refine k_rdv (k_vir S (c_LR_checkTwoRouters (l := l) (D := D) (n := n) (ad := ad) (G := G) hc3) g_LR_62 hd_LR_checkTwoRouters ⟨rfl, rfl⟩ ⟨Nat.le_of_ble_eq_true rfl, Nat.le_of_ble_eq_true rfl⟩ wl_blind (va_recv hK hP rfl (wl_to LR_lt LR_at)) (wl_pre hP hK hA) rfl hl.1 rfl (Nat.le_of_ble_eq_true rfl) d_LR_step_3 (Nat.zero_le _) (Nat.zero_le _)) ?_
    cases hf
abbrev rmT_LR_run : Room := { frames := 7, cells := 1, slots := 6, locals := 104 }
def g_LR_run (n : Nat) (a : Int32) (M : Mem) : Option Unit := (f_LR_checkRange a 0 400).bind fun _ => some ()
set_option maxHeartbeats 4000000 in
set_option maxRecDepth 100000 in
theorem t_LR_run {l : Launch} (hl0 : l.stackTraces = false) {h0 : Nat} {D : va_G} {n : Nat} {ad : Nat → Nat} {G : Nat → ClassId} {M : Mem} {a : Int32} (hf : g_LR_run n a M = none) : th_Met l y_LR_run (wc y_LR_run b_LR_run 3 (some .int)) rmT_LR_run (va_Pc [.ref (ad 0), .int a] (zB h0 D n ad G M)) exI := by
  refine th_met (by decide) (Nat.le_of_ble_eq_true rfl) ?_
  intro p e s m args below meth c S hno hlk hB ls hl
  obtain ⟨hx, hb, hml, hown, hts⟩ := id S
  obtain ⟨⟨hP, hK, hA0⟩, hZ⟩ := hB
  have hA := wl_own hA0
  have hl : lv_has ls 3 [(0, .ref (ad 0)), (1, .int a)] := hl
  unfold g_LR_run at hf
  refine lv_iload_n hx hb d_LR_run_0 rfl (lv_at hl 1 rfl) ?_
  refine lv_iconst (v := 0) hx hb d_LR_run_1 (by decide) ?_
  refine lv_sipush (v := 400) hx hb d_LR_run_2 (by decide) ?_
  cases hc5 : f_LR_checkRange a 0 400 with
  | none =>
    exact th_sta S (t_LR_checkRange hl0 hc5) (ws_t 180 (by decide +kernel) (by decide +kernel)) (ws_t 181 (by decide +kernel) (by decide +kernel)) k_LR_checkRange (ws_t 1 (by decide +kernel) (by decide +kernel)) hd_LR_checkRange ⟨rfl, rfl⟩ ⟨Nat.le_of_ble_eq_true rfl, Nat.le_of_ble_eq_true rfl⟩ (by decide) (by decide) tz_blind (fun U hU hW => tz_pre hZ U hU hW) rfl hl.1 rfl (Nat.le_of_ble_eq_true rfl) d_LR_run_5 (fun q ce H1 a1 a2 a3 a4 a5 => th_out hno hlk a1 a2 a3 a4 a5)
  | some u =>
    rw [hc5] at hf
    have hf := ob_n hf
    refine k_rdv (k_sta S (c_LR_checkRange (l := l) (D := D) (n := n) (ad := ad) (G := G) hc5) g_LR_66 hd_LR_checkRange ⟨rfl, rfl⟩ ⟨Nat.le_of_ble_eq_true rfl, Nat.le_of_ble_eq_true rfl⟩ wl_blind (wl_pre hP hK hA) rfl hl.1 rfl (Nat.le_of_ble_eq_true rfl) d_LR_run_5 (Nat.zero_le _) (Nat.zero_le _)) ?_
    cases hf
abbrev rmT_LR_distance : Room := { frames := 8, cells := 1, slots := 6, locals := 125 }
def g_LR_distance (n : Nat) (a : Int32) (b : Int32) (M : Mem) : Option Unit := (f_LR_checkRouter n a M).bind fun _ => (f_LR_checkPrefix b).bind fun _ => some ()
set_option maxHeartbeats 4000000 in
set_option maxRecDepth 100000 in
theorem t_LR_distance {l : Launch} (hl0 : l.stackTraces = false) {h0 : Nat} {D : va_G} {n : Nat} {ad : Nat → Nat} {G : Nat → ClassId} {M : Mem} {a : Int32} {b : Int32} (hf : g_LR_distance n a b M = none) : th_Met l y_LR_distance (wc y_LR_distance b_LR_distance 3 (some .int)) rmT_LR_distance (va_Pc [.ref (ad 0), .int a, .int b] (zB h0 D n ad G M)) exI := by
  refine th_met (by decide) (Nat.le_of_ble_eq_true rfl) ?_
  intro p e s m args below meth c S hno hlk hB ls hl
  obtain ⟨hx, hb, hml, hown, hts⟩ := id S
  obtain ⟨⟨hP, hK, hA0⟩, hZ⟩ := hB
  have hA := wl_own hA0
  have hl : lv_has ls 3 [(0, .ref (ad 0)), (1, .int a), (2, .int b)] := hl
  unfold g_LR_distance at hf
  refine lv_aload_n hx hb d_LR_distance_0 rfl (lv_at hl 0 rfl) ?_
  refine lv_iload_n hx hb d_LR_distance_1 rfl (lv_at hl 1 rfl) ?_
  cases hc2 : f_LR_checkRouter n a M with
  | none =>
    exact th_vir S (t_LR_checkRouter hl0 hc2) (ws_t 176 (by decide +kernel) (by decide +kernel)) (ws_t 178 (by decide +kernel) (by decide +kernel)) (ws_p (q := (y_LR_checkRouter, 6)) 1 (by decide +kernel)) k_LR_checkRouter (ws_t 1 (by decide +kernel) (by decide +kernel)) hd_LR_checkRouter.2 ⟨rfl, rfl⟩ ⟨Nat.le_of_ble_eq_true rfl, Nat.le_of_ble_eq_true rfl⟩ (by decide) (by decide) zB_blind (va_recv hK hP rfl (wl_to LR_lt LR_at)) (fun U hU hW => zB_pre hP hK hA hZ U hU hW) rfl hl.1 rfl (Nat.le_of_ble_eq_true rfl) d_LR_distance_2 (fun q ce H1 a1 a2 a3 a4 a5 => th_out hno hlk a1 a2 a3 a4 a5)
  | some u =>
    rw [hc2] at hf
    have hf := ob_n hf
    refine k_rdv (k_vir S (c_LR_checkRouter (l := l) (D := D) (n := n) (ad := ad) (G := G) hc2) g_LR_116 hd_LR_checkRouter ⟨rfl, rfl⟩ ⟨Nat.le_of_ble_eq_true rfl, Nat.le_of_ble_eq_true rfl⟩ wl_blind (va_recv hK hP rfl (wl_to LR_lt LR_at)) (wl_pre hP hK hA) rfl hl.1 rfl (Nat.le_of_ble_eq_true rfl) d_LR_distance_2 (Nat.zero_le _) (Nat.zero_le _)) ?_
    refine lv_iload_n hx hb d_LR_distance_5 rfl (lv_at hl 2 rfl) ?_
    cases hc6 : f_LR_checkPrefix b with
    | none =>
      exact th_sta S (t_LR_checkPrefix hl0 hc6) (ws_t 367 (by decide +kernel) (by decide +kernel)) (ws_t 368 (by decide +kernel) (by decide +kernel)) k_LR_checkPrefix (ws_t 1 (by decide +kernel) (by decide +kernel)) hd_LR_checkPrefix ⟨rfl, rfl⟩ ⟨Nat.le_of_ble_eq_true rfl, Nat.le_of_ble_eq_true rfl⟩ (by decide) (by decide) tz_blind (fun U hU hW => tz_pre hZ U hU hW) rfl hl.1 rfl (Nat.le_of_ble_eq_true rfl) d_LR_distance_6 (fun q ce H1 a1 a2 a3 a4 a5 => th_out hno hlk a1 a2 a3 a4 a5)
    | some u =>
      rw [hc6] at hf
      have hf := ob_n hf
      refine k_rdv (k_sta S (c_LR_checkPrefix (l := l) (D := D) (n := n) (ad := ad) (G := G) hc6) g_LR_85 hd_LR_checkPrefix ⟨rfl, rfl⟩ ⟨Nat.le_of_ble_eq_true rfl, Nat.le_of_ble_eq_true rfl⟩ wl_blind (wl_pre hP hK hA) rfl hl.1 rfl (Nat.le_of_ble_eq_true rfl) d_LR_distance_6 (Nat.zero_le _) (Nat.zero_le _)) ?_
      cases hf
abbrev rmT_LR_next : Room := { frames := 8, cells := 1, slots := 6, locals := 125 }
def g_LR_next (n : Nat) (a : Int32) (b : Int32) (M : Mem) : Option Unit := (f_LR_checkRouter n a M).bind fun _ => (f_LR_checkPrefix b).bind fun _ => some ()
set_option maxHeartbeats 4000000 in
set_option maxRecDepth 100000 in
theorem t_LR_next {l : Launch} (hl0 : l.stackTraces = false) {h0 : Nat} {D : va_G} {n : Nat} {ad : Nat → Nat} {G : Nat → ClassId} {M : Mem} {a : Int32} {b : Int32} (hf : g_LR_next n a b M = none) : th_Met l y_LR_next (wc y_LR_next b_LR_next 3 (some .int)) rmT_LR_next (va_Pc [.ref (ad 0), .int a, .int b] (zB h0 D n ad G M)) exI := by
  refine th_met (by decide) (Nat.le_of_ble_eq_true rfl) ?_
  intro p e s m args below meth c S hno hlk hB ls hl
  obtain ⟨hx, hb, hml, hown, hts⟩ := id S
  obtain ⟨⟨hP, hK, hA0⟩, hZ⟩ := hB
  have hA := wl_own hA0
  have hl : lv_has ls 3 [(0, .ref (ad 0)), (1, .int a), (2, .int b)] := hl
  unfold g_LR_next at hf
  refine lv_aload_n hx hb d_LR_next_0 rfl (lv_at hl 0 rfl) ?_
  refine lv_iload_n hx hb d_LR_next_1 rfl (lv_at hl 1 rfl) ?_
  cases hc2 : f_LR_checkRouter n a M with
  | none =>
    exact th_vir S (t_LR_checkRouter hl0 hc2) (ws_t 176 (by decide +kernel) (by decide +kernel)) (ws_t 178 (by decide +kernel) (by decide +kernel)) (ws_p (q := (y_LR_checkRouter, 6)) 1 (by decide +kernel)) k_LR_checkRouter (ws_t 1 (by decide +kernel) (by decide +kernel)) hd_LR_checkRouter.2 ⟨rfl, rfl⟩ ⟨Nat.le_of_ble_eq_true rfl, Nat.le_of_ble_eq_true rfl⟩ (by decide) (by decide) zB_blind (va_recv hK hP rfl (wl_to LR_lt LR_at)) (fun U hU hW => zB_pre hP hK hA hZ U hU hW) rfl hl.1 rfl (Nat.le_of_ble_eq_true rfl) d_LR_next_2 (fun q ce H1 a1 a2 a3 a4 a5 => th_out hno hlk a1 a2 a3 a4 a5)
  | some u =>
    rw [hc2] at hf
    have hf := ob_n hf
    refine k_rdv (k_vir S (c_LR_checkRouter (l := l) (D := D) (n := n) (ad := ad) (G := G) hc2) g_LR_116 hd_LR_checkRouter ⟨rfl, rfl⟩ ⟨Nat.le_of_ble_eq_true rfl, Nat.le_of_ble_eq_true rfl⟩ wl_blind (va_recv hK hP rfl (wl_to LR_lt LR_at)) (wl_pre hP hK hA) rfl hl.1 rfl (Nat.le_of_ble_eq_true rfl) d_LR_next_2 (Nat.zero_le _) (Nat.zero_le _)) ?_
    refine lv_iload_n hx hb d_LR_next_5 rfl (lv_at hl 2 rfl) ?_
    cases hc6 : f_LR_checkPrefix b with
    | none =>
      exact th_sta S (t_LR_checkPrefix hl0 hc6) (ws_t 367 (by decide +kernel) (by decide +kernel)) (ws_t 368 (by decide +kernel) (by decide +kernel)) k_LR_checkPrefix (ws_t 1 (by decide +kernel) (by decide +kernel)) hd_LR_checkPrefix ⟨rfl, rfl⟩ ⟨Nat.le_of_ble_eq_true rfl, Nat.le_of_ble_eq_true rfl⟩ (by decide) (by decide) tz_blind (fun U hU hW => tz_pre hZ U hU hW) rfl hl.1 rfl (Nat.le_of_ble_eq_true rfl) d_LR_next_6 (fun q ce H1 a1 a2 a3 a4 a5 => th_out hno hlk a1 a2 a3 a4 a5)
    | some u =>
      rw [hc6] at hf
      have hf := ob_n hf
      refine k_rdv (k_sta S (c_LR_checkPrefix (l := l) (D := D) (n := n) (ad := ad) (G := G) hc6) g_LR_85 hd_LR_checkPrefix ⟨rfl, rfl⟩ ⟨Nat.le_of_ble_eq_true rfl, Nat.le_of_ble_eq_true rfl⟩ wl_blind (wl_pre hP hK hA) rfl hl.1 rfl (Nat.le_of_ble_eq_true rfl) d_LR_next_6 (Nat.zero_le _) (Nat.zero_le _)) ?_
      cases hf
abbrev rmT_LR_label : Room := { frames := 8, cells := 1, slots := 6, locals := 125 }
def g_LR_label (n : Nat) (a : Int32) (b : Int32) (M : Mem) : Option Unit := (f_LR_checkRouter n a M).bind fun _ => (f_LR_checkPrefix b).bind fun _ => some ()
set_option maxHeartbeats 4000000 in
set_option maxRecDepth 100000 in
theorem t_LR_label {l : Launch} (hl0 : l.stackTraces = false) {h0 : Nat} {D : va_G} {n : Nat} {ad : Nat → Nat} {G : Nat → ClassId} {M : Mem} {a : Int32} {b : Int32} (hf : g_LR_label n a b M = none) : th_Met l y_LR_label (wc y_LR_label b_LR_label 3 (some .int)) rmT_LR_label (va_Pc [.ref (ad 0), .int a, .int b] (zB h0 D n ad G M)) exI := by
  refine th_met (by decide) (Nat.le_of_ble_eq_true rfl) ?_
  intro p e s m args below meth c S hno hlk hB ls hl
  obtain ⟨hx, hb, hml, hown, hts⟩ := id S
  obtain ⟨⟨hP, hK, hA0⟩, hZ⟩ := hB
  have hA := wl_own hA0
  have hl : lv_has ls 3 [(0, .ref (ad 0)), (1, .int a), (2, .int b)] := hl
  unfold g_LR_label at hf
  refine lv_aload_n hx hb d_LR_label_0 rfl (lv_at hl 0 rfl) ?_
  refine lv_iload_n hx hb d_LR_label_1 rfl (lv_at hl 1 rfl) ?_
  cases hc2 : f_LR_checkRouter n a M with
  | none =>
    exact th_vir S (t_LR_checkRouter hl0 hc2) (ws_t 176 (by decide +kernel) (by decide +kernel)) (ws_t 178 (by decide +kernel) (by decide +kernel)) (ws_p (q := (y_LR_checkRouter, 6)) 1 (by decide +kernel)) k_LR_checkRouter (ws_t 1 (by decide +kernel) (by decide +kernel)) hd_LR_checkRouter.2 ⟨rfl, rfl⟩ ⟨Nat.le_of_ble_eq_true rfl, Nat.le_of_ble_eq_true rfl⟩ (by decide) (by decide) zB_blind (va_recv hK hP rfl (wl_to LR_lt LR_at)) (fun U hU hW => zB_pre hP hK hA hZ U hU hW) rfl hl.1 rfl (Nat.le_of_ble_eq_true rfl) d_LR_label_2 (fun q ce H1 a1 a2 a3 a4 a5 => th_out hno hlk a1 a2 a3 a4 a5)
  | some u =>
    rw [hc2] at hf
    have hf := ob_n hf
    refine k_rdv (k_vir S (c_LR_checkRouter (l := l) (D := D) (n := n) (ad := ad) (G := G) hc2) g_LR_116 hd_LR_checkRouter ⟨rfl, rfl⟩ ⟨Nat.le_of_ble_eq_true rfl, Nat.le_of_ble_eq_true rfl⟩ wl_blind (va_recv hK hP rfl (wl_to LR_lt LR_at)) (wl_pre hP hK hA) rfl hl.1 rfl (Nat.le_of_ble_eq_true rfl) d_LR_label_2 (Nat.zero_le _) (Nat.zero_le _)) ?_
    refine lv_iload_n hx hb d_LR_label_5 rfl (lv_at hl 2 rfl) ?_
    cases hc6 : f_LR_checkPrefix b with
    | none =>
      exact th_sta S (t_LR_checkPrefix hl0 hc6) (ws_t 367 (by decide +kernel) (by decide +kernel)) (ws_t 368 (by decide +kernel) (by decide +kernel)) k_LR_checkPrefix (ws_t 1 (by decide +kernel) (by decide +kernel)) hd_LR_checkPrefix ⟨rfl, rfl⟩ ⟨Nat.le_of_ble_eq_true rfl, Nat.le_of_ble_eq_true rfl⟩ (by decide) (by decide) tz_blind (fun U hU hW => tz_pre hZ U hU hW) rfl hl.1 rfl (Nat.le_of_ble_eq_true rfl) d_LR_label_6 (fun q ce H1 a1 a2 a3 a4 a5 => th_out hno hlk a1 a2 a3 a4 a5)
    | some u =>
      rw [hc6] at hf
      have hf := ob_n hf
      refine k_rdv (k_sta S (c_LR_checkPrefix (l := l) (D := D) (n := n) (ad := ad) (G := G) hc6) g_LR_85 hd_LR_checkPrefix ⟨rfl, rfl⟩ ⟨Nat.le_of_ble_eq_true rfl, Nat.le_of_ble_eq_true rfl⟩ wl_blind (wl_pre hP hK hA) rfl hl.1 rfl (Nat.le_of_ble_eq_true rfl) d_LR_label_6 (Nat.zero_le _) (Nat.zero_le _)) ?_
      cases hf
abbrev rmT_LR_told : Room := { frames := 9, cells := 1, slots := 6, locals := 147 }
def g_LR_told (n : Nat) (a : Int32) (b : Int32) (z : Int32) (M : Mem) : Option Unit := (f_LR_checkTwoRouters n a b M).bind fun _ => (f_LR_checkPrefix z).bind fun _ => some ()
set_option maxHeartbeats 4000000 in
set_option maxRecDepth 100000 in
theorem t_LR_told {l : Launch} (hl0 : l.stackTraces = false) {h0 : Nat} {D : va_G} {n : Nat} {ad : Nat → Nat} {G : Nat → ClassId} {M : Mem} {a : Int32} {b : Int32} {z : Int32} (hf : g_LR_told n a b z M = none) : th_Met l y_LR_told (wc y_LR_told b_LR_told 4 (some .int)) rmT_LR_told (va_Pc [.ref (ad 0), .int a, .int b, .int z] (zB h0 D n ad G M)) exI := by
  refine th_met (by decide) (Nat.le_of_ble_eq_true rfl) ?_
  intro p e s m args below meth c S hno hlk hB ls hl
  obtain ⟨hx, hb, hml, hown, hts⟩ := id S
  obtain ⟨⟨hP, hK, hA0⟩, hZ⟩ := hB
  have hA := wl_own hA0
  have hl : lv_has ls 4 [(0, .ref (ad 0)), (1, .int a), (2, .int b), (3, .int z)] := hl
  unfold g_LR_told at hf
  refine lv_aload_n hx hb d_LR_told_0 rfl (lv_at hl 0 rfl) ?_
  refine lv_iload_n hx hb d_LR_told_1 rfl (lv_at hl 1 rfl) ?_
  refine lv_iload_n hx hb d_LR_told_2 rfl (lv_at hl 2 rfl) ?_
  cases hc3 : f_LR_checkTwoRouters n a b M with
  | none =>
    exact th_vir S (t_LR_checkTwoRouters hl0 hc3) (ws_t 172 (by decide +kernel) (by decide +kernel)) (ws_t 174 (by decide +kernel) (by decide +kernel)) (ws_p (q := (y_LR_checkTwoRouters, 6)) 0 (by decide +kernel)) k_LR_checkTwoRouters (ws_t 1 (by decide +kernel) (by decide +kernel)) hd_LR_checkTwoRouters.2 ⟨rfl, rfl⟩ ⟨Nat.le_of_ble_eq_true rfl, Nat.le_of_ble_eq_true rfl⟩ (by decide) (by decide) zB_blind (va_recv hK hP rfl (wl_to LR_lt LR_at)) (fun U hU hW => zB_pre hP hK hA hZ U hU hW) rfl hl.1 rfl (Nat.le_of_ble_eq_true rfl) d_LR_told_3 (fun q ce H1 a1 a2 a3 a4 a5 => th_out hno hlk a1 a2 a3 a4 a5)
  | some u =>
    rw [hc3] at hf
    have hf := ob_n hf
    refine k_rdv (k_vir S (c_LR_checkTwoRouters (l := l) (D := D) (n := n) (ad := ad) (G := G) hc3) g_LR_62 hd_LR_checkTwoRouters ⟨rfl, rfl⟩ ⟨Nat.le_of_ble_eq_true rfl, Nat.le_of_ble_eq_true rfl⟩ wl_blind (va_recv hK hP rfl (wl_to LR_lt LR_at)) (wl_pre hP hK hA) rfl hl.1 rfl (Nat.le_of_ble_eq_true rfl) d_LR_told_3 (Nat.zero_le _) (Nat.zero_le _)) ?_
    refine lv_iload_n hx hb d_LR_told_6 rfl (lv_at hl 3 rfl) ?_
    cases hc7 : f_LR_checkPrefix z with
    | none =>
      exact th_sta S (t_LR_checkPrefix hl0 hc7) (ws_t 367 (by decide +kernel) (by decide +kernel)) (ws_t 368 (by decide +kernel) (by decide +kernel)) k_LR_checkPrefix (ws_t 1 (by decide +kernel) (by decide +kernel)) hd_LR_checkPrefix ⟨rfl, rfl⟩ ⟨Nat.le_of_ble_eq_true rfl, Nat.le_of_ble_eq_true rfl⟩ (by decide) (by decide) tz_blind (fun U hU hW => tz_pre hZ U hU hW) rfl hl.1 rfl (Nat.le_of_ble_eq_true rfl) d_LR_told_7 (fun q ce H1 a1 a2 a3 a4 a5 => th_out hno hlk a1 a2 a3 a4 a5)
    | some u =>
      rw [hc7] at hf
      have hf := ob_n hf
      refine k_rdv (k_sta S (c_LR_checkPrefix (l := l) (D := D) (n := n) (ad := ad) (G := G) hc7) g_LR_85 hd_LR_checkPrefix ⟨rfl, rfl⟩ ⟨Nat.le_of_ble_eq_true rfl, Nat.le_of_ble_eq_true rfl⟩ wl_blind (wl_pre hP hK hA) rfl hl.1 rfl (Nat.le_of_ble_eq_true rfl) d_LR_told_7 (Nat.zero_le _) (Nat.zero_le _)) ?_
      cases hf
abbrev rmT_LR_taken : Room := { frames := 8, cells := 1, slots := 6, locals := 125 }
def g_LR_taken (n : Nat) (a : Int32) (M : Mem) : Option Unit := (f_LR_checkRouter n a M).bind fun _ => some ()
set_option maxHeartbeats 4000000 in
set_option maxRecDepth 100000 in
theorem t_LR_taken {l : Launch} (hl0 : l.stackTraces = false) {h0 : Nat} {D : va_G} {n : Nat} {ad : Nat → Nat} {G : Nat → ClassId} {M : Mem} {a : Int32} (hf : g_LR_taken n a M = none) : th_Met l y_LR_taken (wc y_LR_taken b_LR_taken 2 (some .int)) rmT_LR_taken (va_Pc [.ref (ad 0), .int a] (zB h0 D n ad G M)) exI := by
  refine th_met (by decide) (Nat.le_of_ble_eq_true rfl) ?_
  intro p e s m args below meth c S hno hlk hB ls hl
  obtain ⟨hx, hb, hml, hown, hts⟩ := id S
  obtain ⟨⟨hP, hK, hA0⟩, hZ⟩ := hB
  have hA := wl_own hA0
  have hl : lv_has ls 2 [(0, .ref (ad 0)), (1, .int a)] := hl
  unfold g_LR_taken at hf
  refine lv_aload_n hx hb d_LR_taken_0 rfl (lv_at hl 0 rfl) ?_
  refine lv_iload_n hx hb d_LR_taken_1 rfl (lv_at hl 1 rfl) ?_
  cases hc2 : f_LR_checkRouter n a M with
  | none =>
    exact th_vir S (t_LR_checkRouter hl0 hc2) (ws_t 176 (by decide +kernel) (by decide +kernel)) (ws_t 178 (by decide +kernel) (by decide +kernel)) (ws_p (q := (y_LR_checkRouter, 6)) 1 (by decide +kernel)) k_LR_checkRouter (ws_t 1 (by decide +kernel) (by decide +kernel)) hd_LR_checkRouter.2 ⟨rfl, rfl⟩ ⟨Nat.le_of_ble_eq_true rfl, Nat.le_of_ble_eq_true rfl⟩ (by decide) (by decide) zB_blind (va_recv hK hP rfl (wl_to LR_lt LR_at)) (fun U hU hW => zB_pre hP hK hA hZ U hU hW) rfl hl.1 rfl (Nat.le_of_ble_eq_true rfl) d_LR_taken_2 (fun q ce H1 a1 a2 a3 a4 a5 => th_out hno hlk a1 a2 a3 a4 a5)
  | some u =>
    rw [hc2] at hf
    have hf := ob_n hf
    refine k_rdv (k_vir S (c_LR_checkRouter (l := l) (D := D) (n := n) (ad := ad) (G := G) hc2) g_LR_116 hd_LR_checkRouter ⟨rfl, rfl⟩ ⟨Nat.le_of_ble_eq_true rfl, Nat.le_of_ble_eq_true rfl⟩ wl_blind (va_recv hK hP rfl (wl_to LR_lt LR_at)) (wl_pre hP hK hA) rfl hl.1 rfl (Nat.le_of_ble_eq_true rfl) d_LR_taken_2 (Nat.zero_le _) (Nat.zero_le _)) ?_
    cases hf
abbrev rmT_LR_send : Room := { frames := 8, cells := 1, slots := 6, locals := 125 }
def g_LR_send (n : Nat) (a : Int32) (b : Int32) (z : Int32) (d : Int32) (M : Mem) : Option Unit := (f_LR_checkRouter n a M).bind fun _ => (f_LR_checkPrefix b).bind fun _ => (f_LR_checkRange z (-1) 3).bind fun _ => (f_LR_checkRange d 1 255).bind fun _ => some ()
set_option maxHeartbeats 4000000 in
set_option maxRecDepth 100000 in
theorem t_LR_send {l : Launch} (hl0 : l.stackTraces = false) {h0 : Nat} {D : va_G} {n : Nat} {ad : Nat → Nat} {G : Nat → ClassId} {M : Mem} {a : Int32} {b : Int32} {z : Int32} {d : Int32} (hf : g_LR_send n a b z d M = none) : th_Met l y_LR_send (wc y_LR_send b_LR_send 7 (some .int)) rmT_LR_send (va_Pc [.ref (ad 0), .int a, .int b, .int z, .int d] (zB h0 D n ad G M)) exI := by
  refine th_met (by decide) (Nat.le_of_ble_eq_true rfl) ?_
  intro p e s m args below meth c S hno hlk hB ls hl
  obtain ⟨hx, hb, hml, hown, hts⟩ := id S
  obtain ⟨⟨hP, hK, hA0⟩, hZ⟩ := hB
  have hA := wl_own hA0
  have hl : lv_has ls 7 [(0, .ref (ad 0)), (1, .int a), (2, .int b), (3, .int z), (4, .int d)] := hl
  unfold g_LR_send at hf
  refine lv_aload_n hx hb d_LR_send_0 rfl (lv_at hl 0 rfl) ?_
  refine lv_iload_n hx hb d_LR_send_1 rfl (lv_at hl 1 rfl) ?_
  cases hc2 : f_LR_checkRouter n a M with
  | none =>
    exact th_vir S (t_LR_checkRouter hl0 hc2) (ws_t 176 (by decide +kernel) (by decide +kernel)) (ws_t 178 (by decide +kernel) (by decide +kernel)) (ws_p (q := (y_LR_checkRouter, 6)) 1 (by decide +kernel)) k_LR_checkRouter (ws_t 1 (by decide +kernel) (by decide +kernel)) hd_LR_checkRouter.2 ⟨rfl, rfl⟩ ⟨Nat.le_of_ble_eq_true rfl, Nat.le_of_ble_eq_true rfl⟩ (by decide) (by decide) zB_blind (va_recv hK hP rfl (wl_to LR_lt LR_at)) (fun U hU hW => zB_pre hP hK hA hZ U hU hW) rfl hl.1 rfl (Nat.le_of_ble_eq_true rfl) d_LR_send_2 (fun q ce H1 a1 a2 a3 a4 a5 => th_out hno hlk a1 a2 a3 a4 a5)
  | some u =>
    rw [hc2] at hf
    have hf := ob_n hf
    refine k_rdv (k_vir S (c_LR_checkRouter (l := l) (D := D) (n := n) (ad := ad) (G := G) hc2) g_LR_116 hd_LR_checkRouter ⟨rfl, rfl⟩ ⟨Nat.le_of_ble_eq_true rfl, Nat.le_of_ble_eq_true rfl⟩ wl_blind (va_recv hK hP rfl (wl_to LR_lt LR_at)) (wl_pre hP hK hA) rfl hl.1 rfl (Nat.le_of_ble_eq_true rfl) d_LR_send_2 (Nat.zero_le _) (Nat.zero_le _)) ?_
    refine lv_iload_n hx hb d_LR_send_5 rfl (lv_at hl 2 rfl) ?_
    cases hc6 : f_LR_checkPrefix b with
    | none =>
      exact th_sta S (t_LR_checkPrefix hl0 hc6) (ws_t 367 (by decide +kernel) (by decide +kernel)) (ws_t 368 (by decide +kernel) (by decide +kernel)) k_LR_checkPrefix (ws_t 1 (by decide +kernel) (by decide +kernel)) hd_LR_checkPrefix ⟨rfl, rfl⟩ ⟨Nat.le_of_ble_eq_true rfl, Nat.le_of_ble_eq_true rfl⟩ (by decide) (by decide) tz_blind (fun U hU hW => tz_pre hZ U hU hW) rfl hl.1 rfl (Nat.le_of_ble_eq_true rfl) d_LR_send_6 (fun q ce H1 a1 a2 a3 a4 a5 => th_out hno hlk a1 a2 a3 a4 a5)
    | some u =>
      rw [hc6] at hf
      have hf := ob_n hf
      refine k_rdv (k_sta S (c_LR_checkPrefix (l := l) (D := D) (n := n) (ad := ad) (G := G) hc6) g_LR_85 hd_LR_checkPrefix ⟨rfl, rfl⟩ ⟨Nat.le_of_ble_eq_true rfl, Nat.le_of_ble_eq_true rfl⟩ wl_blind (wl_pre hP hK hA) rfl hl.1 rfl (Nat.le_of_ble_eq_true rfl) d_LR_send_6 (Nat.zero_le _) (Nat.zero_le _)) ?_
      refine lv_iload_n hx hb d_LR_send_9 rfl (lv_at hl 3 rfl) ?_
      refine lv_iconst (v := (-1)) hx hb d_LR_send_10 (by decide) ?_
      refine lv_iconst (v := 3) hx hb d_LR_send_11 (by decide) ?_
      cases hc12 : f_LR_checkRange z (-1) 3 with
      | none =>
        exact th_sta S (t_LR_checkRange hl0 hc12) (ws_t 180 (by decide +kernel) (by decide +kernel)) (ws_t 181 (by decide +kernel) (by decide +kernel)) k_LR_checkRange (ws_t 1 (by decide +kernel) (by decide +kernel)) hd_LR_checkRange ⟨rfl, rfl⟩ ⟨Nat.le_of_ble_eq_true rfl, Nat.le_of_ble_eq_true rfl⟩ (by decide) (by decide) tz_blind (fun U hU hW => tz_pre hZ U hU hW) rfl hl.1 rfl (Nat.le_of_ble_eq_true rfl) d_LR_send_12 (fun q ce H1 a1 a2 a3 a4 a5 => th_out hno hlk a1 a2 a3 a4 a5)
      | some u =>
        rw [hc12] at hf
        have hf := ob_n hf
        refine k_rdv (k_sta S (c_LR_checkRange (l := l) (D := D) (n := n) (ad := ad) (G := G) hc12) g_LR_66 hd_LR_checkRange ⟨rfl, rfl⟩ ⟨Nat.le_of_ble_eq_true rfl, Nat.le_of_ble_eq_true rfl⟩ wl_blind (wl_pre hP hK hA) rfl hl.1 rfl (Nat.le_of_ble_eq_true rfl) d_LR_send_12 (Nat.zero_le _) (Nat.zero_le _)) ?_
        refine lv_iload hx hb d_LR_send_15 (lv_at hl 4 rfl) ?_
        refine lv_iconst (v := 1) hx hb d_LR_send_17 (by decide) ?_
        refine lv_sipush (v := 255) hx hb d_LR_send_18 (by decide) ?_
        cases hc21 : f_LR_checkRange d 1 255 with
        | none =>
          exact th_sta S (t_LR_checkRange hl0 hc21) (ws_t 180 (by decide +kernel) (by decide +kernel)) (ws_t 181 (by decide +kernel) (by decide +kernel)) k_LR_checkRange (ws_t 1 (by decide +kernel) (by decide +kernel)) hd_LR_checkRange ⟨rfl, rfl⟩ ⟨Nat.le_of_ble_eq_true rfl, Nat.le_of_ble_eq_true rfl⟩ (by decide) (by decide) tz_blind (fun U hU hW => tz_pre hZ U hU hW) rfl hl.1 rfl (Nat.le_of_ble_eq_true rfl) d_LR_send_21 (fun q ce H1 a1 a2 a3 a4 a5 => th_out hno hlk a1 a2 a3 a4 a5)
        | some u =>
          rw [hc21] at hf
          have hf := ob_n hf
          refine k_rdv (k_sta S (c_LR_checkRange (l := l) (D := D) (n := n) (ad := ad) (G := G) hc21) g_LR_66 hd_LR_checkRange ⟨rfl, rfl⟩ ⟨Nat.le_of_ble_eq_true rfl, Nat.le_of_ble_eq_true rfl⟩ wl_blind (wl_pre hP hK hA) rfl hl.1 rfl (Nat.le_of_ble_eq_true rfl) d_LR_send_21 (Nat.zero_le _) (Nat.zero_le _)) ?_
          cases hf
abbrev rmT_LR_hop : Room := { frames := 7, cells := 1, slots := 6, locals := 103 }
def g_LR_hop (n : Nat) (a : Int32) (M : Mem) : Option Unit := (f_LR_checkHop n a M).bind fun _ => some ()
set_option maxHeartbeats 4000000 in
set_option maxRecDepth 100000 in
theorem t_LR_hop {l : Launch} (hl0 : l.stackTraces = false) {h0 : Nat} {D : va_G} {n : Nat} {ad : Nat → Nat} {G : Nat → ClassId} {M : Mem} {a : Int32} (hf : g_LR_hop n a M = none) : th_Met l y_LR_hop (wc y_LR_hop b_LR_hop 2 (some .int)) rmT_LR_hop (va_Pc [.ref (ad 0), .int a] (zB h0 D n ad G M)) exN := by
  refine th_met (by decide) (Nat.le_of_ble_eq_true rfl) ?_
  intro p e s m args below meth c S hno hlk hB ls hl
  obtain ⟨hx, hb, hml, hown, hts⟩ := id S
  obtain ⟨⟨hP, hK, hA0⟩, hZ⟩ := hB
  have hA := wl_own hA0
  have hl : lv_has ls 2 [(0, .ref (ad 0)), (1, .int a)] := hl
  unfold g_LR_hop at hf
  refine lv_aload_n hx hb d_LR_hop_0 rfl (lv_at hl 0 rfl) ?_
  refine lv_iload_n hx hb d_LR_hop_1 rfl (lv_at hl 1 rfl) ?_
  cases hc2 : f_LR_checkHop n a M with
  | none =>
    exact th_vir S (t_LR_checkHop hl0 hc2) (ws_t 567 (by decide +kernel) (by decide +kernel)) (ws_t 569 (by decide +kernel) (by decide +kernel)) (ws_p (q := (y_LR_checkHop, 6)) 22 (by decide +kernel)) k_LR_checkHop (ws_t 1 (by decide +kernel) (by decide +kernel)) hd_LR_checkHop.2 ⟨rfl, rfl⟩ ⟨Nat.le_of_ble_eq_true rfl, Nat.le_of_ble_eq_true rfl⟩ (by decide) (by decide) zB_blind (va_recv hK hP rfl (wl_to LR_lt LR_at)) (fun U hU hW => zB_pre hP hK hA hZ U hU hW) rfl hl.1 rfl (Nat.le_of_ble_eq_true rfl) d_LR_hop_2 (fun q ce H1 a1 a2 a3 a4 a5 => th_out hno hlk a1 a2 a3 a4 a5)
  | some u =>
    rw [hc2] at hf
    have hf := ob_n hf
    refine k_rdv (k_vir S (c_LR_checkHop (l := l) (D := D) (n := n) (ad := ad) (G := G) hc2) g_LR_144 hd_LR_checkHop ⟨rfl, rfl⟩ ⟨Nat.le_of_ble_eq_true rfl, Nat.le_of_ble_eq_true rfl⟩ wl_blind (va_recv hK hP rfl (wl_to LR_lt LR_at)) (wl_pre hP hK hA) rfl hl.1 rfl (Nat.le_of_ble_eq_true rfl) d_LR_hop_2 (Nat.zero_le _) (Nat.zero_le _)) ?_
    cases hf
abbrev rmT_LR_entry : Room := { frames := 7, cells := 1, slots := 6, locals := 103 }
def g_LR_entry (n : Nat) (a : Int32) (M : Mem) : Option Unit := (f_LR_checkHop n a M).bind fun _ => some ()
set_option maxHeartbeats 4000000 in
set_option maxRecDepth 100000 in
theorem t_LR_entry {l : Launch} (hl0 : l.stackTraces = false) {h0 : Nat} {D : va_G} {n : Nat} {ad : Nat → Nat} {G : Nat → ClassId} {M : Mem} {a : Int32} (hf : g_LR_entry n a M = none) : th_Met l y_LR_entry (wc y_LR_entry b_LR_entry 2 (some .int)) rmT_LR_entry (va_Pc [.ref (ad 0), .int a] (zB h0 D n ad G M)) exN := by
  refine th_met (by decide) (Nat.le_of_ble_eq_true rfl) ?_
  intro p e s m args below meth c S hno hlk hB ls hl
  obtain ⟨hx, hb, hml, hown, hts⟩ := id S
  obtain ⟨⟨hP, hK, hA0⟩, hZ⟩ := hB
  have hA := wl_own hA0
  have hl : lv_has ls 2 [(0, .ref (ad 0)), (1, .int a)] := hl
  unfold g_LR_entry at hf
  refine lv_aload_n hx hb d_LR_entry_0 rfl (lv_at hl 0 rfl) ?_
  refine lv_iload_n hx hb d_LR_entry_1 rfl (lv_at hl 1 rfl) ?_
  cases hc2 : f_LR_checkHop n a M with
  | none =>
    exact th_vir S (t_LR_checkHop hl0 hc2) (ws_t 567 (by decide +kernel) (by decide +kernel)) (ws_t 569 (by decide +kernel) (by decide +kernel)) (ws_p (q := (y_LR_checkHop, 6)) 22 (by decide +kernel)) k_LR_checkHop (ws_t 1 (by decide +kernel) (by decide +kernel)) hd_LR_checkHop.2 ⟨rfl, rfl⟩ ⟨Nat.le_of_ble_eq_true rfl, Nat.le_of_ble_eq_true rfl⟩ (by decide) (by decide) zB_blind (va_recv hK hP rfl (wl_to LR_lt LR_at)) (fun U hU hW => zB_pre hP hK hA hZ U hU hW) rfl hl.1 rfl (Nat.le_of_ble_eq_true rfl) d_LR_entry_2 (fun q ce H1 a1 a2 a3 a4 a5 => th_out hno hlk a1 a2 a3 a4 a5)
  | some u =>
    rw [hc2] at hf
    have hf := ob_n hf
    refine k_rdv (k_vir S (c_LR_checkHop (l := l) (D := D) (n := n) (ad := ad) (G := G) hc2) g_LR_144 hd_LR_checkHop ⟨rfl, rfl⟩ ⟨Nat.le_of_ble_eq_true rfl, Nat.le_of_ble_eq_true rfl⟩ wl_blind (va_recv hK hP rfl (wl_to LR_lt LR_at)) (wl_pre hP hK hA) rfl hl.1 rfl (Nat.le_of_ble_eq_true rfl) d_LR_entry_2 (Nat.zero_le _) (Nat.zero_le _)) ?_
    cases hf
