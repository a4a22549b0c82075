abbrev rm_Law_link : Room := { frames := 7, cells := 0, slots := 0, locals := 160 }
abbrev rmN_Law_link : Room := { frames := 10, cells := 1, slots := 6, locals := 171 }
set_option maxHeartbeats 4000000 in
set_option maxRecDepth 100000 in
theorem l_Law_link {l : Launch} {h0 : Nat} {D : va_G} {n : Nat} {ad : Nat → Nat} {G : Nat → ClassId} {M : Mem} {o : Nat} {v : Nat → Int64} {a : Int32} {b : Int32} {z : Int32} {x : Int32 × Mem} (hf : f_LR_link n a b z M = some x) : Met l y_Law_link (wh y_Law_link b_Law_link 6 (some .int) [(0, 12, 15, 13)]) rm_Law_link (va_Pc [.ref (ad 0), .int a, .int b, .int z, .ref o] (oB h0 D n ad G M o v)) (okQ D n ad G x.2 o (vp_updL v 0 x.1.toInt64)) 0 0 (oA n ad o) := by
  refine k_metW (by decide) (Nat.le_of_ble_eq_true rfl) ?_
  intro p e s m args below meth c S htab hr hlk hB ls hl
  obtain ⟨hx, hb, hml, hown, hts⟩ := id S
  obtain ⟨⟨⟨hP, hK, hA0⟩, hZ⟩, hO, ho⟩ := hB
  have hA := wl_own hA0
  have hl : lv_has ls 6 [(0, .ref (ad 0)), (1, .int a), (2, .int b), (3, .int z), (4, .ref o)] := hl
  have hS : va_S (oA n ad o) s.heap s.heap [] := va_S.rf
  refine lv_aload hx hb d_Law_link_0 (lv_at hl 4 rfl) ?_
  refine lv_iconst (v := 0) hx hb d_Law_link_2 (by decide) ?_
  refine lv_aload_n hx hb d_Law_link_3 rfl (lv_at hl 0 rfl) ?_
  refine lv_iload_n hx hb d_Law_link_4 rfl (lv_at hl 1 rfl) ?_
  refine lv_iload_n hx hb d_Law_link_5 rfl (lv_at hl 2 rfl) ?_
  refine lv_iload_n hx hb d_Law_link_6 rfl (lv_at hl 3 rfl) ?_
  refine k_wri (k_vir S (c_LR_link (l := l) (D := D) (n := n) (ad := ad) (G := G) hf) g_Law_7 hd_LR_link ⟨rfl, rfl⟩ ⟨Nat.le_of_ble_eq_true rfl, Nat.le_of_ble_eq_true rfl⟩ wl_blind (va_recv hK hP rfl (wl_to LR_lt LR_at)) (wl_pre hP hK hA) rfl hl.1 rfl (Nat.le_of_ble_eq_true rfl) d_Law_link_7 (Nat.zero_le _) (Nat.zero_le _)) hS (fun _ h => Or.inl h) (fun H locs hP hz hk hS => ?_)
  have hO := one_kept hO hk (oA_not ho)
  refine lv_i2l (v := x.1.toInt64) hx hb d_Law_link_10 rfl ?_
  refine va_last (D := D) hx hb hK (hP.app hO) (o_D (oA_ok hA) ho (Or.inr rfl)) hS (cK n) 4 o_get rfl (nI_in (c := 0) (by decide) (by decide)) d_Law_link_11 (fun H locs hP _ hS => ?_)
  rw [o_set] at hP
  refine lv_goto (tgt := 19) hx hb d_Law_link_12 (by decide) ?_
  refine lv_iconst (v := 0) hx hb d_Law_link_19 (by decide) ?_
  exact W.iret hx hb hr (fun t ht hW => ⟨rfl, by rw [ht]; exact o_left hP, by rw [ht]; exact o_right hP, hS.F ht⟩) hS.2.2 d_Law_link_20 hlk
set_option maxHeartbeats 4000000 in
set_option maxRecDepth 100000 in
theorem n_Law_link {l : Launch} (hl0 : l.stackTraces = false) {h0 : Nat} {D : va_G} {n : Nat} {ad : Nat → Nat} {G : Nat → ClassId} {M : Mem} {o : Nat} {v : Nat → Int64} {a : Int32} {b : Int32} {z : Int32} (hf : g_LR_link n a b z M = none) : Met l y_Law_link (wh y_Law_link b_Law_link 6 (some .int) [(0, 12, 15, 13)]) rmN_Law_link (va_Pc [.ref (ad 0), .int a, .int b, .int z, .ref o] (oB h0 D n ad G M o v)) noQ 1 6 (fun _ => False) := by
  refine k_metW (by decide) (Nat.le_of_ble_eq_true rfl) ?_
  intro p e s m args below meth c S htab hr hlk hB ls hl
  obtain ⟨hx, hb, hml, hown, hts⟩ := id S
  obtain ⟨⟨⟨hP, hK, hA0⟩, hZ⟩, hO, ho⟩ := hB
  have hA := wl_own hA0
  have hl : lv_has ls 6 [(0, .ref (ad 0)), (1, .int a), (2, .int b), (3, .int z), (4, .ref o)] := hl
  refine lv_aload hx hb d_Law_link_0 (lv_at hl 4 rfl) ?_
  refine lv_iconst (v := 0) hx hb d_Law_link_2 (by decide) ?_
  refine lv_aload_n hx hb d_Law_link_3 rfl (lv_at hl 0 rfl) ?_
  refine lv_iload_n hx hb d_Law_link_4 rfl (lv_at hl 1 rfl) ?_
  refine lv_iload_n hx hb d_Law_link_5 rfl (lv_at hl 2 rfl) ?_
  refine lv_iload_n hx hb d_Law_link_6 rfl (lv_at hl 3 rfl) ?_
  refine th_vir S (t_LR_link hl0 (h0 := h0) (D := D) (ad := ad) (G := G) hf) (ws_t 168 (by decide +kernel) (by decide +kernel)) (ws_t 169 (by decide +kernel) (by decide +kernel)) (ws_t 170 (by decide +kernel) (by decide +kernel)) k_LR_link (ws_t 1 (by decide +kernel) (by decide +kernel)) hd_LR_link.2 ⟨rfl, rfl⟩ ⟨Nat.le_of_ble_eq_true rfl, Nat.le_of_ble_eq_true rfl⟩ (by decide) (by decide) zB_blind (va_recv hK hP rfl (wl_to LR_lt LR_at)) (zB_pre hP hK hA hZ) rfl hl.1 rfl (Nat.le_of_ble_eq_true rfl) d_Law_link_7 (fun q ce H1 a1 a2 a3 a4 a5 => ?_)
  refine th_catch ⟨0, 12, 15, 13⟩ hown htab (by decide) (by decide) (hts _ kl_Law_link) (hZ.2.2.2.1.1.use rfl) a1 a2 a3 ?_
  refine lv_astore (lv' := [(5, .ref q), (0, .ref (ad 0)), (1, .int a), (2, .int b), (3, .int z), (4, .ref o)]) hx hb d_Law_link_15 hl (by decide) rfl (fun ls hl => ?_)
  refine lv_iconst (v := 1) hx hb d_Law_link_17 (by decide) ?_
  exact W.iret hx hb hr (fun t ht hW => ⟨rfl, by rw [ht]; exact a4, fun z hz => by rw [ht]; exact a5 z hz⟩) (fun z hz => nomatch hz) d_Law_link_18 hlk
abbrev rm_Law_own : Room := { frames := 7, cells := 0, slots := 0, locals := 159 }
abbrev rmN_Law_own : Room := { frames := 9, cells := 1, slots := 6, locals := 148 }
set_option maxHeartbeats 4000000 in
set_option maxRecDepth 100000 in
theorem l_Law_own {l : Launch} {h0 : Nat} {D : va_G} {n : Nat} {ad : Nat → Nat} {G : Nat → ClassId} {M : Mem} {o : Nat} {v : Nat → Int64} {a : Int32} {b : Int32} {x : Int32 × Mem} (hf : f_LR_own n a b M = some x) : Met l y_Law_own (wh y_Law_own b_Law_own 5 (some .int) [(0, 10, 13, 13)]) rm_Law_own (va_Pc [.ref (ad 0), .int a, .int b, .ref o] (oB h0 D n ad G M o v)) (okQ D n ad G x.2 o (vp_updL v 0 x.1.toInt64)) 0 0 (oA n ad o) := by
  refine k_metW (by decide) (Nat.le_of_ble_eq_true rfl) ?_
  intro p e s m args below meth c S htab hr hlk hB ls hl
  obtain ⟨hx, hb, hml, hown, hts⟩ := id S
  obtain ⟨⟨⟨hP, hK, hA0⟩, hZ⟩, hO, ho⟩ := hB
  have hA := wl_own hA0
  have hl : lv_has ls 5 [(0, .ref (ad 0)), (1, .int a), (2, .int b), (3, .ref o)] := hl
  have hS : va_S (oA n ad o) s.heap s.heap [] := va_S.rf
  refine lv_aload_n hx hb d_Law_own_0 rfl (lv_at hl 3 rfl) ?_
  refine lv_iconst (v := 0) hx hb d_Law_own_1 (by decide) ?_
  refine lv_aload_n hx hb d_Law_own_2 rfl (lv_at hl 0 rfl) ?_
  refine lv_iload_n hx hb d_Law_own_3 rfl (lv_at hl 1 rfl) ?_
  refine lv_iload_n hx hb d_Law_own_4 rfl (lv_at hl 2 rfl) ?_
  refine k_wri (k_vir S (c_LR_own (l := l) (D := D) (n := n) (ad := ad) (G := G) hf) g_Law_15 hd_LR_own ⟨rfl, rfl⟩ ⟨Nat.le_of_ble_eq_true rfl, Nat.le_of_ble_eq_true rfl⟩ wl_blind (va_recv hK hP rfl (wl_to LR_lt LR_at)) (wl_pre hP hK hA) rfl hl.1 rfl (Nat.le_of_ble_eq_true rfl) d_Law_own_5 (Nat.zero_le _) (Nat.zero_le _)) hS (fun _ h => Or.inl h) (fun H locs hP hz hk hS => ?_)
  have hO := one_kept hO hk (oA_not ho)
  refine lv_i2l (v := x.1.toInt64) hx hb d_Law_own_8 rfl ?_
  refine va_last (D := D) hx hb hK (hP.app hO) (o_D (oA_ok hA) ho (Or.inr rfl)) hS (cK n) 4 o_get rfl (nI_in (c := 0) (by decide) (by decide)) d_Law_own_9 (fun H locs hP _ hS => ?_)
  rw [o_set] at hP
  refine lv_goto (tgt := 17) hx hb d_Law_own_10 (by decide) ?_
  refine lv_iconst (v := 0) hx hb d_Law_own_17 (by decide) ?_
  exact W.iret hx hb hr (fun t ht hW => ⟨rfl, by rw [ht]; exact o_left hP, by rw [ht]; exact o_right hP, hS.F ht⟩) hS.2.2 d_Law_own_18 hlk
set_option maxHeartbeats 4000000 in
set_option maxRecDepth 100000 in
theorem n_Law_own {l : Launch} (hl0 : l.stackTraces = false) {h0 : Nat} {D : va_G} {n : Nat} {ad : Nat → Nat} {G : Nat → ClassId} {M : Mem} {o : Nat} {v : Nat → Int64} {a : Int32} {b : Int32} (hf : g_LR_own n a b M = none) : Met l y_Law_own (wh y_Law_own b_Law_own 5 (some .int) [(0, 10, 13, 13)]) rmN_Law_own (va_Pc [.ref (ad 0), .int a, .int b, .ref o] (oB h0 D n ad G M o v)) noQ 1 6 (fun _ => False) := by
  refine k_metW (by decide) (Nat.le_of_ble_eq_true rfl) ?_
  intro p e s m args below meth c S htab hr hlk hB ls hl
  obtain ⟨hx, hb, hml, hown, hts⟩ := id S
  obtain ⟨⟨⟨hP, hK, hA0⟩, hZ⟩, hO, ho⟩ := hB
  have hA := wl_own hA0
  have hl : lv_has ls 5 [(0, .ref (ad 0)), (1, .int a), (2, .int b), (3, .ref o)] := hl
  refine lv_aload_n hx hb d_Law_own_0 rfl (lv_at hl 3 rfl) ?_
  refine lv_iconst (v := 0) hx hb d_Law_own_1 (by decide) ?_
  refine lv_aload_n hx hb d_Law_own_2 rfl (lv_at hl 0 rfl) ?_
  refine lv_iload_n hx hb d_Law_own_3 rfl (lv_at hl 1 rfl) ?_
  refine lv_iload_n hx hb d_Law_own_4 rfl (lv_at hl 2 rfl) ?_
  refine th_vir S (t_LR_own hl0 (h0 := h0) (D := D) (ad := ad) (G := G) hf) (ws_t 363 (by decide +kernel) (by decide +kernel)) (ws_t 364 (by decide +kernel) (by decide +kernel)) (ws_t 365 (by decide +kernel) (by decide +kernel)) k_LR_own (ws_t 1 (by decide +kernel) (by decide +kernel)) hd_LR_own.2 ⟨rfl, rfl⟩ ⟨Nat.le_of_ble_eq_true rfl, Nat.le_of_ble_eq_true rfl⟩ (by decide) (by decide) zB_blind (va_recv hK hP rfl (wl_to LR_lt LR_at)) (zB_pre hP hK hA hZ) rfl hl.1 rfl (Nat.le_of_ble_eq_true rfl) d_Law_own_5 (fun q ce H1 a1 a2 a3 a4 a5 => ?_)
  refine th_catch ⟨0, 10, 13, 13⟩ hown htab (by decide) (by decide) (hts _ kl_Law_own) (hZ.2.2.2.1.1.use rfl) a1 a2 a3 ?_
  refine lv_astore (lv' := [(4, .ref q), (0, .ref (ad 0)), (1, .int a), (2, .int b), (3, .ref o)]) hx hb d_Law_own_13 hl (by decide) rfl (fun ls hl => ?_)
  refine lv_iconst (v := 1) hx hb d_Law_own_15 (by decide) ?_
  exact W.iret hx hb hr (fun t ht hW => ⟨rfl, by rw [ht]; exact a4, fun z hz => by rw [ht]; exact a5 z hz⟩) (fun z hz => nomatch hz) d_Law_own_16 hlk
abbrev rm_Law_serve : Room := { frames := 3, cells := 0, slots := 0, locals := 66 }
abbrev rmN_Law_serve : Room := { frames := 9, cells := 1, slots := 6, locals := 148 }
set_option maxHeartbeats 4000000 in
set_option maxRecDepth 100000 in
theorem l_Law_serve {l : Launch} {h0 : Nat} {D : va_G} {n : Nat} {ad : Nat → Nat} {G : Nat → ClassId} {M : Mem} {o : Nat} {v : Nat → Int64} {a : Int32} {b : Int32} {x : Int32 × Mem} (hf : f_LR_serve n a b M = some x) : Met l y_Law_serve (wh y_Law_serve b_Law_serve 5 (some .int) [(0, 10, 13, 13)]) rm_Law_serve (va_Pc [.ref (ad 0), .int a, .int b, .ref o] (oB h0 D n ad G M o v)) (okQ D n ad G x.2 o (vp_updL v 0 x.1.toInt64)) 0 0 (oA n ad o) := by
  refine k_metW (by decide) (Nat.le_of_ble_eq_true rfl) ?_
  intro p e s m args below meth c S htab hr hlk hB ls hl
  obtain ⟨hx, hb, hml, hown, hts⟩ := id S
  obtain ⟨⟨⟨hP, hK, hA0⟩, hZ⟩, hO, ho⟩ := hB
  have hA := wl_own hA0
  have hl : lv_has ls 5 [(0, .ref (ad 0)), (1, .int a), (2, .int b), (3, .ref o)] := hl
  have hS : va_S (oA n ad o) s.heap s.heap [] := va_S.rf
  refine lv_aload_n hx hb d_Law_serve_0 rfl (lv_at hl 3 rfl) ?_
  refine lv_iconst (v := 0) hx hb d_Law_serve_1 (by decide) ?_
  refine lv_aload_n hx hb d_Law_serve_2 rfl (lv_at hl 0 rfl) ?_
  refine lv_iload_n hx hb d_Law_serve_3 rfl (lv_at hl 1 rfl) ?_
  refine lv_iload_n hx hb d_Law_serve_4 rfl (lv_at hl 2 rfl) ?_
  refine k_wri (k_vir S (c_LR_serve (l := l) (D := D) (n := n) (ad := ad) (G := G) hf) g_Law_19 hd_LR_serve ⟨rfl, rfl⟩ ⟨Nat.le_of_ble_eq_true rfl, Nat.le_of_ble_eq_true rfl⟩ wl_blind (va_recv hK hP rfl (wl_to LR_lt LR_at)) (wl_pre hP hK hA) rfl hl.1 rfl (Nat.le_of_ble_eq_true rfl) d_Law_serve_5 (Nat.zero_le _) (Nat.zero_le _)) hS (fun _ h => Or.inl h) (fun H locs hP hz hk hS => ?_)
  have hO := one_kept hO hk (oA_not ho)
  refine lv_i2l (v := x.1.toInt64) hx hb d_Law_serve_8 rfl ?_
  refine va_last (D := D) hx hb hK (hP.app hO) (o_D (oA_ok hA) ho (Or.inr rfl)) hS (cK n) 4 o_get rfl (nI_in (c := 0) (by decide) (by decide)) d_Law_serve_9 (fun H locs hP _ hS => ?_)
  rw [o_set] at hP
  refine lv_goto (tgt := 17) hx hb d_Law_serve_10 (by decide) ?_
  refine lv_iconst (v := 0) hx hb d_Law_serve_17 (by decide) ?_
  exact W.iret hx hb hr (fun t ht hW => ⟨rfl, by rw [ht]; exact o_left hP, by rw [ht]; exact o_right hP, hS.F ht⟩) hS.2.2 d_Law_serve_18 hlk
set_option maxHeartbeats 4000000 in
set_option maxRecDepth 100000 in
theorem n_Law_serve {l : Launch} (hl0 : l.stackTraces = false) {h0 : Nat} {D : va_G} {n : Nat} {ad : Nat → Nat} {G : Nat → ClassId} {M : Mem} {o : Nat} {v : Nat → Int64} {a : Int32} {b : Int32} (hf : g_LR_serve n a b M = none) : Met l y_Law_serve (wh y_Law_serve b_Law_serve 5 (some .int) [(0, 10, 13, 13)]) rmN_Law_serve (va_Pc [.ref (ad 0), .int a, .int b, .ref o] (oB h0 D n ad G M o v)) noQ 1 6 (fun _ => False) := by
  refine k_metW (by decide) (Nat.le_of_ble_eq_true rfl) ?_
  intro p e s m args below meth c S htab hr hlk hB ls hl
  obtain ⟨hx, hb, hml, hown, hts⟩ := id S
  obtain ⟨⟨⟨hP, hK, hA0⟩, hZ⟩, hO, ho⟩ := hB
  have hA := wl_own hA0
  have hl : lv_has ls 5 [(0, .ref (ad 0)), (1, .int a), (2, .int b), (3, .ref o)] := hl
  refine lv_aload_n hx hb d_Law_serve_0 rfl (lv_at hl 3 rfl) ?_
  refine lv_iconst (v := 0) hx hb d_Law_serve_1 (by decide) ?_
  refine lv_aload_n hx hb d_Law_serve_2 rfl (lv_at hl 0 rfl) ?_
  refine lv_iload_n hx hb d_Law_serve_3 rfl (lv_at hl 1 rfl) ?_
  refine lv_iload_n hx hb d_Law_serve_4 rfl (lv_at hl 2 rfl) ?_
  refine th_vir S (t_LR_serve hl0 (h0 := h0) (D := D) (ad := ad) (G := G) hf) (ws_t 385 (by decide +kernel) (by decide +kernel)) (ws_t 386 (by decide +kernel) (by decide +kernel)) (ws_t 387 (by decide +kernel) (by decide +kernel)) k_LR_serve (ws_t 1 (by decide +kernel) (by decide +kernel)) hd_LR_serve.2 ⟨rfl, rfl⟩ ⟨Nat.le_of_ble_eq_true rfl, Nat.le_of_ble_eq_true rfl⟩ (by decide) (by decide) zB_blind (va_recv hK hP rfl (wl_to LR_lt LR_at)) (zB_pre hP hK hA hZ) rfl hl.1 rfl (Nat.le_of_ble_eq_true rfl) d_Law_serve_5 (fun q ce H1 a1 a2 a3 a4 a5 => ?_)
  refine th_catch ⟨0, 10, 13, 13⟩ hown htab (by decide) (by decide) (hts _ kl_Law_serve) (hZ.2.2.2.1.1.use rfl) a1 a2 a3 ?_
  refine lv_astore (lv' := [(4, .ref q), (0, .ref (ad 0)), (1, .int a), (2, .int b), (3, .ref o)]) hx hb d_Law_serve_13 hl (by decide) rfl (fun ls hl => ?_)
  refine lv_iconst (v := 1) hx hb d_Law_serve_15 (by decide) ?_
  exact W.iret hx hb hr (fun t ht hW => ⟨rfl, by rw [ht]; exact a4, fun z hz => by rw [ht]; exact a5 z hz⟩) (fun z hz => nomatch hz) d_Law_serve_16 hlk
abbrev rm_Law_step : Room := { frames := 7, cells := 0, slots := 0, locals := 166 }
abbrev rmN_Law_step : Room := { frames := 10, cells := 1, slots := 6, locals := 171 }
set_option maxHeartbeats 4000000 in
set_option maxRecDepth 100000 in
theorem l_Law_step {l : Launch} {h0 : Nat} {D : va_G} {n : Nat} {ad : Nat → Nat} {G : Nat → ClassId} {M : Mem} {o : Nat} {v : Nat → Int64} {a : Int32} {b : Int32} {x : Int32 × Mem} (hf : f_LR_step n a b M = some x) : Met l y_Law_step (wh y_Law_step b_Law_step 5 (some .int) [(0, 10, 13, 13)]) rm_Law_step (va_Pc [.ref (ad 0), .int a, .int b, .ref o] (oB h0 D n ad G M o v)) (okQ D n ad G x.2 o (vp_updL v 0 x.1.toInt64)) 0 0 (oA n ad o) := by
  refine k_metW (by decide) (Nat.le_of_ble_eq_true rfl) ?_
  intro p e s m args below meth c S htab hr hlk hB ls hl
  obtain ⟨hx, hb, hml, hown, hts⟩ := id S
  obtain ⟨⟨⟨hP, hK, hA0⟩, hZ⟩, hO, ho⟩ := hB
  have hA := wl_own hA0
  have hl : lv_has ls 5 [(0, .ref (ad 0)), (1, .int a), (2, .int b), (3, .ref o)] := hl
  have hS : va_S (oA n ad o) s.heap s.heap [] := va_S.rf
  refine lv_aload_n hx hb d_Law_step_0 rfl (lv_at hl 3 rfl) ?_
  refine lv_iconst (v := 0) hx hb d_Law_step_1 (by decide) ?_
  refine lv_aload_n hx hb d_Law_step_2 rfl (lv_at hl 0 rfl) ?_
  refine lv_iload_n hx hb d_Law_step_3 rfl (lv_at hl 1 rfl) ?_
  refine lv_iload_n hx hb d_Law_step_4 rfl (lv_at hl 2 rfl) ?_
  refine k_wri (k_vir S (c_LR_step (l := l) (D := D) (n := n) (ad := ad) (G := G) hf) g_Law_22 hd_LR_step ⟨rfl, rfl⟩ ⟨Nat.le_of_ble_eq_true rfl, Nat.le_of_ble_eq_true rfl⟩ wl_blind (va_recv hK hP rfl (wl_to LR_lt LR_at)) (wl_pre hP hK hA) rfl hl.1 rfl (Nat.le_of_ble_eq_true rfl) d_Law_step_5 (Nat.zero_le _) (Nat.zero_le _)) hS (fun _ h => Or.inl h) (fun H locs hP hz hk hS => ?_)
  have hO := one_kept hO hk (oA_not ho)
  refine lv_i2l (v := x.1.toInt64) hx hb d_Law_step_8 rfl ?_
  refine va_last (D := D) hx hb hK (hP.app hO) (o_D (oA_ok hA) ho (Or.inr rfl)) hS (cK n) 4 o_get rfl (nI_in (c := 0) (by decide) (by decide)) d_Law_step_9 (fun H locs hP _ hS => ?_)
  rw [o_set] at hP
  refine lv_goto (tgt := 17) hx hb d_Law_step_10 (by decide) ?_
  refine lv_iconst (v := 0) hx hb d_Law_step_17 (by decide) ?_
  exact W.iret hx hb hr (fun t ht hW => ⟨rfl, by rw [ht]; exact o_left hP, by rw [ht]; exact o_right hP, hS.F ht⟩) hS.2.2 d_Law_step_18 hlk
set_option maxHeartbeats 4000000 in
set_option maxRecDepth 100000 in
theorem n_Law_step {l : Launch} (hl0 : l.stackTraces = false) {h0 : Nat} {D : va_G} {n : Nat} {ad : Nat → Nat} {G : Nat → ClassId} {M : Mem} {o : Nat} {v : Nat → Int64} {a : Int32} {b : Int32} (hf : g_LR_step n a b M = none) : Met l y_Law_step (wh y_Law_step b_Law_step 5 (some .int) [(0, 10, 13, 13)]) rmN_Law_step (va_Pc [.ref (ad 0), .int a, .int b, .ref o] (oB h0 D n ad G M o v)) noQ 1 6 (fun _ => False) := by
  refine k_metW (by decide) (Nat.le_of_ble_eq_true rfl) ?_
  intro p e s m args below meth c S htab hr hlk hB ls hl
  obtain ⟨hx, hb, hml, hown, hts⟩ := id S
  obtain ⟨⟨⟨hP, hK, hA0⟩, hZ⟩, hO, ho⟩ := hB
  have hA := wl_own hA0
  have hl : lv_has ls 5 [(0, .ref (ad 0)), (1, .int a), (2, .int b), (3, .ref o)] := hl
  refine lv_aload_n hx hb d_Law_step_0 rfl (lv_at hl 3 rfl) ?_
  refine lv_iconst (v := 0) hx hb d_Law_step_1 (by decide) ?_
  refine lv_aload_n hx hb d_Law_step_2 rfl (lv_at hl 0 rfl) ?_
  refine lv_iload_n hx hb d_Law_step_3 rfl (lv_at hl 1 rfl) ?_
  refine lv_iload_n hx hb d_Law_step_4 rfl (lv_at hl 2 rfl) ?_
  refine th_vir S (t_LR_step hl0 (h0 := h0) (D := D) (ad := ad) (G := G) hf) (ws_t 392 (by decide +kernel) (by decide +kernel)) (ws_t 393 (by decide +kernel) (by decide +kernel)) (ws_t 394 (by decide +kernel) (by decide +kernel)) k_LR_step (ws_t 1 (by decide +kernel) (by decide +kernel)) hd_LR_step.2 ⟨rfl, rfl⟩ ⟨Nat.le_of_ble_eq_true rfl, Nat.le_of_ble_eq_true rfl⟩ (by decide) (by decide) zB_blind (va_recv hK hP rfl (wl_to LR_lt LR_at)) (zB_pre hP hK hA hZ) rfl hl.1 rfl (Nat.le_of_ble_eq_true rfl) d_Law_step_5 (fun q ce H1 a1 a2 a3 a4 a5 => ?_)
  refine th_catch ⟨0, 10, 13, 13⟩ hown htab (by decide) (by decide) (hts _ kl_Law_step) (hZ.2.2.2.1.1.use rfl) a1 a2 a3 ?_
  refine lv_astore (lv' := [(4, .ref q), (0, .ref (ad 0)), (1, .int a), (2, .int b), (3, .ref o)]) hx hb d_Law_step_13 hl (by decide) rfl (fun ls hl => ?_)
  refine lv_iconst (v := 1) hx hb d_Law_step_15 (by decide) ?_
  exact W.iret hx hb hr (fun t ht hW => ⟨rfl, by rw [ht]; exact a4, fun z hz => by rw [ht]; exact a5 z hz⟩) (fun z hz => nomatch hz) d_Law_step_16 hlk
abbrev rm_Law_run : Room := { frames := 7, cells := 0, slots := 0, locals := 164 }
abbrev rmN_Law_run : Room := { frames := 8, cells := 1, slots := 6, locals := 126 }
set_option maxHeartbeats 4000000 in
set_option maxRecDepth 100000 in
theorem l_Law_run {l : Launch} {h0 : Nat} {D : va_G} {n : Nat} {ad : Nat → Nat} {G : Nat → ClassId} {M : Mem} {o : Nat} {v : Nat → Int64} {a : Int32} {x : Int32 × Mem} (hf : f_LR_run n a M = some x) : Met l y_Law_run (wh y_Law_run b_Law_run 4 (some .int) [(0, 9, 12, 13)]) rm_Law_run (va_Pc [.ref (ad 0), .int a, .ref o] (oB h0 D n ad G M o v)) (okQ D n ad G x.2 o (vp_updL v 0 x.1.toInt64)) 0 0 (oA n ad o) := by
  refine k_metW (by decide) (Nat.le_of_ble_eq_true rfl) ?_
  intro p e s m args below meth c S htab hr hlk hB ls hl
  obtain ⟨hx, hb, hml, hown, hts⟩ := id S
  obtain ⟨⟨⟨hP, hK, hA0⟩, hZ⟩, hO, ho⟩ := hB
  have hA := wl_own hA0
  have hl : lv_has ls 4 [(0, .ref (ad 0)), (1, .int a), (2, .ref o)] := hl
  have hS : va_S (oA n ad o) s.heap s.heap [] := va_S.rf
  refine lv_aload_n hx hb d_Law_run_0 rfl (lv_at hl 2 rfl) ?_
  refine lv_iconst (v := 0) hx hb d_Law_run_1 (by decide) ?_
  refine lv_aload_n hx hb d_Law_run_2 rfl (lv_at hl 0 rfl) ?_
  refine lv_iload_n hx hb d_Law_run_3 rfl (lv_at hl 1 rfl) ?_
  refine k_wri (k_vir S (c_LR_run (l := l) (D := D) (n := n) (ad := ad) (G := G) hf) g_Law_25 hd_LR_run ⟨rfl, rfl⟩ ⟨Nat.le_of_ble_eq_true rfl, Nat.le_of_ble_eq_true rfl⟩ wl_blind (va_recv hK hP rfl (wl_to LR_lt LR_at)) (wl_pre hP hK hA) rfl hl.1 rfl (Nat.le_of_ble_eq_true rfl) d_Law_run_4 (Nat.zero_le _) (Nat.zero_le _)) hS (fun _ h => Or.inl h) (fun H locs hP hz hk hS => ?_)
  have hO := one_kept hO hk (oA_not ho)
  refine lv_i2l (v := x.1.toInt64) hx hb d_Law_run_7 rfl ?_
  refine va_last (D := D) hx hb hK (hP.app hO) (o_D (oA_ok hA) ho (Or.inr rfl)) hS (cK n) 4 o_get rfl (nI_in (c := 0) (by decide) (by decide)) d_Law_run_8 (fun H locs hP _ hS => ?_)
  rw [o_set] at hP
  refine lv_goto (tgt := 15) hx hb d_Law_run_9 (by decide) ?_
  refine lv_iconst (v := 0) hx hb d_Law_run_15 (by decide) ?_
  exact W.iret hx hb hr (fun t ht hW => ⟨rfl, by rw [ht]; exact o_left hP, by rw [ht]; exact o_right hP, hS.F ht⟩) hS.2.2 d_Law_run_16 hlk
set_option maxHeartbeats 4000000 in
set_option maxRecDepth 100000 in
theorem n_Law_run {l : Launch} (hl0 : l.stackTraces = false) {h0 : Nat} {D : va_G} {n : Nat} {ad : Nat → Nat} {G : Nat → ClassId} {M : Mem} {o : Nat} {v : Nat → Int64} {a : Int32} (hf : g_LR_run n a M = none) : Met l y_Law_run (wh y_Law_run b_Law_run 4 (some .int) [(0, 9, 12, 13)]) rmN_Law_run (va_Pc [.ref (ad 0), .int a, .ref o] (oB h0 D n ad G M o v)) noQ 1 6 (fun _ => False) := by
  refine k_metW (by decide) (Nat.le_of_ble_eq_true rfl) ?_
  intro p e s m args below meth c S htab hr hlk hB ls hl
  obtain ⟨hx, hb, hml, hown, hts⟩ := id S
  obtain ⟨⟨⟨hP, hK, hA0⟩, hZ⟩, hO, ho⟩ := hB
  have hA := wl_own hA0
  have hl : lv_has ls 4 [(0, .ref (ad 0)), (1, .int a), (2, .ref o)] := hl
  refine lv_aload_n hx hb d_Law_run_0 rfl (lv_at hl 2 rfl) ?_
  refine lv_iconst (v := 0) hx hb d_Law_run_1 (by decide) ?_
  refine lv_aload_n hx hb d_Law_run_2 rfl (lv_at hl 0 rfl) ?_
  refine lv_iload_n hx hb d_Law_run_3 rfl (lv_at hl 1 rfl) ?_
  refine th_vir S (t_LR_run hl0 (h0 := h0) (D := D) (ad := ad) (G := G) hf) (ws_t 434 (by decide +kernel) (by decide +kernel)) (ws_t 435 (by decide +kernel) (by decide +kernel)) (ws_t 436 (by decide +kernel) (by decide +kernel)) k_LR_run (ws_t 1 (by decide +kernel) (by decide +kernel)) hd_LR_run.2 ⟨rfl, rfl⟩ ⟨Nat.le_of_ble_eq_true rfl, Nat.le_of_ble_eq_true rfl⟩ (by decide) (by decide) zB_blind (va_recv hK hP rfl (wl_to LR_lt LR_at)) (zB_pre hP hK hA hZ) rfl hl.1 rfl (Nat.le_of_ble_eq_true rfl) d_Law_run_4 (fun q ce H1 a1 a2 a3 a4 a5 => ?_)
  refine th_catch ⟨0, 9, 12, 13⟩ hown htab (by decide) (by decide) (hts _ kl_Law_run) (hZ.2.2.2.1.1.use rfl) a1 a2 a3 ?_
  refine lv_astore_n (lv' := [(3, .ref q), (0, .ref (ad 0)), (1, .int a), (2, .ref o)]) hx hb d_Law_run_12 rfl hl (by decide) rfl (fun ls hl => ?_)
  refine lv_iconst (v := 1) hx hb d_Law_run_13 (by decide) ?_
  exact W.iret hx hb hr (fun t ht hW => ⟨rfl, by rw [ht]; exact a4, fun z hz => by rw [ht]; exact a5 z hz⟩) (fun z hz => nomatch hz) d_Law_run_14 hlk
abbrev rm_Law_distance : Room := { frames := 3, cells := 0, slots := 0, locals := 65 }
abbrev rmN_Law_distance : Room := { frames := 9, cells := 1, slots := 6, locals := 147 }
set_option maxHeartbeats 4000000 in
set_option maxRecDepth 100000 in
theorem l_Law_distance {l : Launch} {h0 : Nat} {D : va_G} {n : Nat} {ad : Nat → Nat} {G : Nat → ClassId} {M : Mem} {o : Nat} {v : Nat → Int64} {a : Int32} {b : Int32} {x : Int32} (hf : f_LR_distance n a b M = some x) : Met l y_Law_distance (wh y_Law_distance b_Law_distance 5 (some .int) [(0, 10, 13, 13)]) rm_Law_distance (va_Pc [.ref (ad 0), .int a, .int b, .ref o] (oB h0 D n ad G M o v)) (okQ D n ad G M o (vp_updL v 0 x.toInt64)) 0 0 (oA n ad o) := by
  refine k_metW (by decide) (Nat.le_of_ble_eq_true rfl) ?_
  intro p e s m args below meth c S htab hr hlk hB ls hl
  obtain ⟨hx, hb, hml, hown, hts⟩ := id S
  obtain ⟨⟨⟨hP, hK, hA0⟩, hZ⟩, hO, ho⟩ := hB
  have hA := wl_own hA0
  have hl : lv_has ls 5 [(0, .ref (ad 0)), (1, .int a), (2, .int b), (3, .ref o)] := hl
  have hS : va_S (oA n ad o) s.heap s.heap [] := va_S.rf
  refine lv_aload_n hx hb d_Law_distance_0 rfl (lv_at hl 3 rfl) ?_
  refine lv_iconst (v := 0) hx hb d_Law_distance_1 (by decide) ?_
  refine lv_aload_n hx hb d_Law_distance_2 rfl (lv_at hl 0 rfl) ?_
  refine lv_iload_n hx hb d_Law_distance_3 rfl (lv_at hl 1 rfl) ?_
  refine lv_iload_n hx hb d_Law_distance_4 rfl (lv_at hl 2 rfl) ?_
  refine k_rdi (k_vir S (c_LR_distance (l := l) (D := D) (n := n) (ad := ad) (G := G) hf) g_Law_29 hd_LR_distance ⟨rfl, rfl⟩ ⟨Nat.le_of_ble_eq_true rfl, Nat.le_of_ble_eq_true rfl⟩ wl_blind (va_recv hK hP rfl (wl_to LR_lt LR_at)) (wl_pre hP hK hA) rfl hl.1 rfl (Nat.le_of_ble_eq_true rfl) d_Law_distance_5 (Nat.zero_le _) (Nat.zero_le _)) ?_
  refine lv_i2l (v := x.toInt64) hx hb d_Law_distance_8 rfl ?_
  refine va_last (D := D) hx hb hK (hP.app hO) (o_D (oA_ok hA) ho (Or.inr rfl)) hS (cK n) 4 o_get rfl (nI_in (c := 0) (by decide) (by decide)) d_Law_distance_9 (fun H locs hP _ hS => ?_)
  rw [o_set] at hP
  refine lv_goto (tgt := 17) hx hb d_Law_distance_10 (by decide) ?_
  refine lv_iconst (v := 0) hx hb d_Law_distance_17 (by decide) ?_
  exact W.iret hx hb hr (fun t ht hW => ⟨rfl, by rw [ht]; exact o_left hP, by rw [ht]; exact o_right hP, hS.F ht⟩) hS.2.2 d_Law_distance_18 hlk
set_option maxHeartbeats 4000000 in
set_option maxRecDepth 100000 in
theorem n_Law_distance {l : Launch} (hl0 : l.stackTraces = false) {h0 : Nat} {D : va_G} {n : Nat} {ad : Nat → Nat} {G : Nat → ClassId} {M : Mem} {o : Nat} {v : Nat → Int64} {a : Int32} {b : Int32} (hf : g_LR_distance n a b M = none) : Met l y_Law_distance (wh y_Law_distance b_Law_distance 5 (some .int) [(0, 10, 13, 13)]) rmN_Law_distance (va_Pc [.ref (ad 0), .int a, .int b, .ref o] (oB h0 D n ad G M o v)) noQ 1 6 (fun _ => False) := by
  refine k_metW (by decide) (Nat.le_of_ble_eq_true rfl) ?_
  intro p e s m args below meth c S htab hr hlk hB ls hl
  obtain ⟨hx, hb, hml, hown, hts⟩ := id S
  obtain ⟨⟨⟨hP, hK, hA0⟩, hZ⟩, hO, ho⟩ := hB
  have hA := wl_own hA0
  have hl : lv_has ls 5 [(0, .ref (ad 0)), (1, .int a), (2, .int b), (3, .ref o)] := hl
  refine lv_aload_n hx hb d_Law_distance_0 rfl (lv_at hl 3 rfl) ?_
  refine lv_iconst (v := 0) hx hb d_Law_distance_1 (by decide) ?_
  refine lv_aload_n hx hb d_Law_distance_2 rfl (lv_at hl 0 rfl) ?_
  refine lv_iload_n hx hb d_Law_distance_3 rfl (lv_at hl 1 rfl) ?_
  refine lv_iload_n hx hb d_Law_distance_4 rfl (lv_at hl 2 rfl) ?_
  refine th_vir S (t_LR_distance hl0 (h0 := h0) (D := D) (ad := ad) (G := G) hf) (ws_t 441 (by decide +kernel) (by decide +kernel)) (ws_t 442 (by decide +kernel) (by decide +kernel)) (ws_t 443 (by decide +kernel) (by decide +kernel)) k_LR_distance (ws_t 1 (by decide +kernel) (by decide +kernel)) hd_LR_distance.2 ⟨rfl, rfl⟩ ⟨Nat.le_of_ble_eq_true rfl, Nat.le_of_ble_eq_true rfl⟩ (by decide) (by decide) zB_blind (va_recv hK hP rfl (wl_to LR_lt LR_at)) (zB_pre hP hK hA hZ) rfl hl.1 rfl (Nat.le_of_ble_eq_true rfl) d_Law_distance_5 (fun q ce H1 a1 a2 a3 a4 a5 => ?_)
  refine th_catch ⟨0, 10, 13, 13⟩ hown htab (by decide) (by decide) (hts _ kl_Law_distance) (hZ.2.2.2.1.1.use rfl) a1 a2 a3 ?_
  refine lv_astore (lv' := [(4, .ref q), (0, .ref (ad 0)), (1, .int a), (2, .int b), (3, .ref o)]) hx hb d_Law_distance_13 hl (by decide) rfl (fun ls hl => ?_)
  refine lv_iconst (v := 1) hx hb d_Law_distance_15 (by decide) ?_
  exact W.iret hx hb hr (fun t ht hW => ⟨rfl, by rw [ht]; exact a4, fun z hz => by rw [ht]; exact a5 z hz⟩) (fun z hz => nomatch hz) d_Law_distance_16 hlk
abbrev rm_Law_next : Room := { frames := 3, cells := 0, slots := 0, locals := 68 }
abbrev rmN_Law_next : Room := { frames := 9, cells := 1, slots := 6, locals := 147 }
set_option maxHeartbeats 4000000 in
set_option maxRecDepth 100000 in
theorem l_Law_next {l : Launch} {h0 : Nat} {D : va_G} {n : Nat} {ad : Nat → Nat} {G : Nat → ClassId} {M : Mem} {o : Nat} {v : Nat → Int64} {a : Int32} {b : Int32} {x : Int32} (hf : f_LR_next n a b M = some x) : Met l y_Law_next (wh y_Law_next b_Law_next 5 (some .int) [(0, 10, 13, 13)]) rm_Law_next (va_Pc [.ref (ad 0), .int a, .int b, .ref o] (oB h0 D n ad G M o v)) (okQ D n ad G M o (vp_updL v 0 x.toInt64)) 0 0 (oA n ad o) := by
  refine k_metW (by decide) (Nat.le_of_ble_eq_true rfl) ?_
  intro p e s m args below meth c S htab hr hlk hB ls hl
  obtain ⟨hx, hb, hml, hown, hts⟩ := id S
  obtain ⟨⟨⟨hP, hK, hA0⟩, hZ⟩, hO, ho⟩ := hB
  have hA := wl_own hA0
  have hl : lv_has ls 5 [(0, .ref (ad 0)), (1, .int a), (2, .int b), (3, .ref o)] := hl
  have hS : va_S (oA n ad o) s.heap s.heap [] := va_S.rf
  refine lv_aload_n hx hb d_Law_next_0 rfl (lv_at hl 3 rfl) ?_
  refine lv_iconst (v := 0) hx hb d_Law_next_1 (by decide) ?_
  refine lv_aload_n hx hb d_Law_next_2 rfl (lv_at hl 0 rfl) ?_
  refine lv_iload_n hx hb d_Law_next_3 rfl (lv_at hl 1 rfl) ?_
  refine lv_iload_n hx hb d_Law_next_4 rfl (lv_at hl 2 rfl) ?_
  refine k_rdi (k_vir S (c_LR_next (l := l) (D := D) (n := n) (ad := ad) (G := G) hf) g_Law_32 hd_LR_next ⟨rfl, rfl⟩ ⟨Nat.le_of_ble_eq_true rfl, Nat.le_of_ble_eq_true rfl⟩ wl_blind (va_recv hK hP rfl (wl_to LR_lt LR_at)) (wl_pre hP hK hA) rfl hl.1 rfl (Nat.le_of_ble_eq_true rfl) d_Law_next_5 (Nat.zero_le _) (Nat.zero_le _)) ?_
  refine lv_i2l (v := x.toInt64) hx hb d_Law_next_8 rfl ?_
  refine va_last (D := D) hx hb hK (hP.app hO) (o_D (oA_ok hA) ho (Or.inr rfl)) hS (cK n) 4 o_get rfl (nI_in (c := 0) (by decide) (by decide)) d_Law_next_9 (fun H locs hP _ hS => ?_)
  rw [o_set] at hP
  refine lv_goto (tgt := 17) hx hb d_Law_next_10 (by decide) ?_
  refine lv_iconst (v := 0) hx hb d_Law_next_17 (by decide) ?_
  exact W.iret hx hb hr (fun t ht hW => ⟨rfl, by rw [ht]; exact o_left hP, by rw [ht]; exact o_right hP, hS.F ht⟩) hS.2.2 d_Law_next_18 hlk
set_option maxHeartbeats 4000000 in
set_option maxRecDepth 100000 in
theorem n_Law_next {l : Launch} (hl0 : l.stackTraces = false) {h0 : Nat} {D : va_G} {n : Nat} {ad : Nat → Nat} {G : Nat → ClassId} {M : Mem} {o : Nat} {v : Nat → Int64} {a : Int32} {b : Int32} (hf : g_LR_next n a b M = none) : Met l y_Law_next (wh y_Law_next b_Law_next 5 (some .int) [(0, 10, 13, 13)]) rmN_Law_next (va_Pc [.ref (ad 0), .int a, .int b, .ref o] (oB h0 D n ad G M o v)) noQ 1 6 (fun _ => False) := by
  refine k_metW (by decide) (Nat.le_of_ble_eq_true rfl) ?_
  intro p e s m args below meth c S htab hr hlk hB ls hl
  obtain ⟨hx, hb, hml, hown, hts⟩ := id S
  obtain ⟨⟨⟨hP, hK, hA0⟩, hZ⟩, hO, ho⟩ := hB
  have hA := wl_own hA0
  have hl : lv_has ls 5 [(0, .ref (ad 0)), (1, .int a), (2, .int b), (3, .ref o)] := hl
  refine lv_aload_n hx hb d_Law_next_0 rfl (lv_at hl 3 rfl) ?_
  refine lv_iconst (v := 0) hx hb d_Law_next_1 (by decide) ?_
  refine lv_aload_n hx hb d_Law_next_2 rfl (lv_at hl 0 rfl) ?_
  refine lv_iload_n hx hb d_Law_next_3 rfl (lv_at hl 1 rfl) ?_
  refine lv_iload_n hx hb d_Law_next_4 rfl (lv_at hl 2 rfl) ?_
  refine th_vir S (t_LR_next hl0 (h0 := h0) (D := D) (ad := ad) (G := G) hf) (ws_t 452 (by decide +kernel) (by decide +kernel)) (ws_t 453 (by decide +kernel) (by decide +kernel)) (ws_t 454 (by decide +kernel) (by decide +kernel)) k_LR_next (ws_t 1 (by decide +kernel) (by decide +kernel)) hd_LR_next.2 ⟨rfl, rfl⟩ ⟨Nat.le_of_ble_eq_true rfl, Nat.le_of_ble_eq_true rfl⟩ (by decide) (by decide) zB_blind (va_recv hK hP rfl (wl_to LR_lt LR_at)) (zB_pre hP hK hA hZ) rfl hl.1 rfl (Nat.le_of_ble_eq_true rfl) d_Law_next_5 (fun q ce H1 a1 a2 a3 a4 a5 => ?_)
  refine th_catch ⟨0, 10, 13, 13⟩ hown htab (by decide) (by decide) (hts _ kl_Law_next) (hZ.2.2.2.1.1.use rfl) a1 a2 a3 ?_
  refine lv_astore (lv' := [(4, .ref q), (0, .ref (ad 0)), (1, .int a), (2, .int b), (3, .ref o)]) hx hb d_Law_next_13 hl (by decide) rfl (fun ls hl => ?_)
  refine lv_iconst (v := 1) hx hb d_Law_next_15 (by decide) ?_
  exact W.iret hx hb hr (fun t ht hW => ⟨rfl, by rw [ht]; exact a4, fun z hz => by rw [ht]; exact a5 z hz⟩) (fun z hz => nomatch hz) d_Law_next_16 hlk
abbrev rm_Law_label : Room := { frames := 3, cells := 0, slots := 0, locals := 65 }
abbrev rmN_Law_label : Room := { frames := 9, cells := 1, slots := 6, locals := 147 }
set_option maxHeartbeats 4000000 in
set_option maxRecDepth 100000 in
theorem l_Law_label {l : Launch} {h0 : Nat} {D : va_G} {n : Nat} {ad : Nat → Nat} {G : Nat → ClassId} {M : Mem} {o : Nat} {v : Nat → Int64} {a : Int32} {b : Int32} {x : Int32} (hf : f_LR_label n a b M = some x) : Met l y_Law_label (wh y_Law_label b_Law_label 5 (some .int) [(0, 10, 13, 13)]) rm_Law_label (va_Pc [.ref (ad 0), .int a, .int b, .ref o] (oB h0 D n ad G M o v)) (okQ D n ad G M o (vp_updL v 0 x.toInt64)) 0 0 (oA n ad o) := by
  refine k_metW (by decide) (Nat.le_of_ble_eq_true rfl) ?_
  intro p e s m args below meth c S htab hr hlk hB ls hl
  obtain ⟨hx, hb, hml, hown, hts⟩ := id S
  obtain ⟨⟨⟨hP, hK, hA0⟩, hZ⟩, hO, ho⟩ := hB
  have hA := wl_own hA0
  have hl : lv_has ls 5 [(0, .ref (ad 0)), (1, .int a), (2, .int b), (3, .ref o)] := hl
  have hS : va_S (oA n ad o) s.heap s.heap [] := va_S.rf
  refine lv_aload_n hx hb d_Law_label_0 rfl (lv_at hl 3 rfl) ?_
  refine lv_iconst (v := 0) hx hb d_Law_label_1 (by decide) ?_
  refine lv_aload_n hx hb d_Law_label_2 rfl (lv_at hl 0 rfl) ?_
  refine lv_iload_n hx hb d_Law_label_3 rfl (lv_at hl 1 rfl) ?_
  refine lv_iload_n hx hb d_Law_label_4 rfl (lv_at hl 2 rfl) ?_
  refine k_rdi (k_vir S (c_LR_label (l := l) (D := D) (n := n) (ad := ad) (G := G) hf) g_Law_35 hd_LR_label ⟨rfl, rfl⟩ ⟨Nat.le_of_ble_eq_true rfl, Nat.le_of_ble_eq_true rfl⟩ wl_blind (va_recv hK hP rfl (wl_to LR_lt LR_at)) (wl_pre hP hK hA) rfl hl.1 rfl (Nat.le_of_ble_eq_true rfl) d_Law_label_5 (Nat.zero_le _) (Nat.zero_le _)) ?_
  refine lv_i2l (v := x.toInt64) hx hb d_Law_label_8 rfl ?_
  refine va_last (D := D) hx hb hK (hP.app hO) (o_D (oA_ok hA) ho (Or.inr rfl)) hS (cK n) 4 o_get rfl (nI_in (c := 0) (by decide) (by decide)) d_Law_label_9 (fun H locs hP _ hS => ?_)
  rw [o_set] at hP
  refine lv_goto (tgt := 17) hx hb d_Law_label_10 (by decide) ?_
  refine lv_iconst (v := 0) hx hb d_Law_label_17 (by decide) ?_
  exact W.iret hx hb hr (fun t ht hW => ⟨rfl, by rw [ht]; exact o_left hP, by rw [ht]; exact o_right hP, hS.F ht⟩) hS.2.2 d_Law_label_18 hlk
set_option maxHeartbeats 4000000 in
set_option maxRecDepth 100000 in
theorem n_Law_label {l : Launch} (hl0 : l.stackTraces = false) {h0 : Nat} {D : va_G} {n : Nat} {ad : Nat → Nat} {G : Nat → ClassId} {M : Mem} {o : Nat} {v : Nat → Int64} {a : Int32} {b : Int32} (hf : g_LR_label n a b M = none) : Met l y_Law_label (wh y_Law_label b_Law_label 5 (some .int) [(0, 10, 13, 13)]) rmN_Law_label (va_Pc [.ref (ad 0), .int a, .int b, .ref o] (oB h0 D n ad G M o v)) noQ 1 6 (fun _ => False) := by
  refine k_metW (by decide) (Nat.le_of_ble_eq_true rfl) ?_
  intro p e s m args below meth c S htab hr hlk hB ls hl
  obtain ⟨hx, hb, hml, hown, hts⟩ := id S
  obtain ⟨⟨⟨hP, hK, hA0⟩, hZ⟩, hO, ho⟩ := hB
  have hA := wl_own hA0
  have hl : lv_has ls 5 [(0, .ref (ad 0)), (1, .int a), (2, .int b), (3, .ref o)] := hl
  refine lv_aload_n hx hb d_Law_label_0 rfl (lv_at hl 3 rfl) ?_
  refine lv_iconst (v := 0) hx hb d_Law_label_1 (by decide) ?_
  refine lv_aload_n hx hb d_Law_label_2 rfl (lv_at hl 0 rfl) ?_
  refine lv_iload_n hx hb d_Law_label_3 rfl (lv_at hl 1 rfl) ?_
  refine lv_iload_n hx hb d_Law_label_4 rfl (lv_at hl 2 rfl) ?_
  refine th_vir S (t_LR_label hl0 (h0 := h0) (D := D) (ad := ad) (G := G) hf) (ws_t 459 (by decide +kernel) (by decide +kernel)) (ws_t 460 (by decide +kernel) (by decide +kernel)) (ws_t 461 (by decide +kernel) (by decide +kernel)) k_LR_label (ws_t 1 (by decide +kernel) (by decide +kernel)) hd_LR_label.2 ⟨rfl, rfl⟩ ⟨Nat.le_of_ble_eq_true rfl, Nat.le_of_ble_eq_true rfl⟩ (by decide) (by decide) zB_blind (va_recv hK hP rfl (wl_to LR_lt LR_at)) (zB_pre hP hK hA hZ) rfl hl.1 rfl (Nat.le_of_ble_eq_true rfl) d_Law_label_5 (fun q ce H1 a1 a2 a3 a4 a5 => ?_)
  refine th_catch ⟨0, 10, 13, 13⟩ hown htab (by decide) (by decide) (hts _ kl_Law_label) (hZ.2.2.2.1.1.use rfl) a1 a2 a3 ?_
  refine lv_astore (lv' := [(4, .ref q), (0, .ref (ad 0)), (1, .int a), (2, .int b), (3, .ref o)]) hx hb d_Law_label_13 hl (by decide) rfl (fun ls hl => ?_)
  refine lv_iconst (v := 1) hx hb d_Law_label_15 (by decide) ?_
  exact W.iret hx hb hr (fun t ht hW => ⟨rfl, by rw [ht]; exact a4, fun z hz => by rw [ht]; exact a5 z hz⟩) (fun z hz => nomatch hz) d_Law_label_16 hlk
abbrev rm_Law_told : Room := { frames := 4, cells := 0, slots := 0, locals := 88 }
abbrev rmN_Law_told : Room := { frames := 10, cells := 1, slots := 6, locals := 170 }
set_option maxHeartbeats 4000000 in
set_option maxRecDepth 100000 in
theorem l_Law_told {l : Launch} {h0 : Nat} {D : va_G} {n : Nat} {ad : Nat → Nat} {G : Nat → ClassId} {M : Mem} {o : Nat} {v : Nat → Int64} {a : Int32} {b : Int32} {z : Int32} {x : Int32} (hf : f_LR_told n a b z M = some x) : Met l y_Law_told (wh y_Law_told b_Law_told 6 (some .int) [(0, 12, 15, 13)]) rm_Law_told (va_Pc [.ref (ad 0), .int a, .int b, .int z, .ref o] (oB h0 D n ad G M o v)) (okQ D n ad G M o (vp_updL v 0 x.toInt64)) 0 0 (oA n ad o) := by
  refine k_metW (by decide) (Nat.le_of_ble_eq_true rfl) ?_
  intro p e s m args below meth c S htab hr hlk hB ls hl
  obtain ⟨hx, hb, hml, hown, hts⟩ := id S
  obtain ⟨⟨⟨hP, hK, hA0⟩, hZ⟩, hO, ho⟩ := hB
  have hA := wl_own hA0
  have hl : lv_has ls 6 [(0, .ref (ad 0)), (1, .int a), (2, .int b), (3, .int z), (4, .ref o)] := hl
  have hS : va_S (oA n ad o) s.heap s.heap [] := va_S.rf
  refine lv_aload hx hb d_Law_told_0 (lv_at hl 4 rfl) ?_
  refine lv_iconst (v := 0) hx hb d_Law_told_2 (by decide) ?_
  refine lv_aload_n hx hb d_Law_told_3 rfl (lv_at hl 0 rfl) ?_
  refine lv_iload_n hx hb d_Law_told_4 rfl (lv_at hl 1 rfl) ?_
  refine lv_iload_n hx hb d_Law_told_5 rfl (lv_at hl 2 rfl) ?_
  refine lv_iload_n hx hb d_Law_told_6 rfl (lv_at hl 3 rfl) ?_
  refine k_rdi (k_vir S (c_LR_told (l := l) (D := D) (n := n) (ad := ad) (G := G) hf) g_Law_38 hd_LR_told ⟨rfl, rfl⟩ ⟨Nat.le_of_ble_eq_true rfl, Nat.le_of_ble_eq_true rfl⟩ wl_blind (va_recv hK hP rfl (wl_to LR_lt LR_at)) (wl_pre hP hK hA) rfl hl.1 rfl (Nat.le_of_ble_eq_true rfl) d_Law_told_7 (Nat.zero_le _) (Nat.zero_le _)) ?_
  refine lv_i2l (v := x.toInt64) hx hb d_Law_told_10 rfl ?_
  refine va_last (D := D) hx hb hK (hP.app hO) (o_D (oA_ok hA) ho (Or.inr rfl)) hS (cK n) 4 o_get rfl (nI_in (c := 0) (by decide) (by decide)) d_Law_told_11 (fun H locs hP _ hS => ?_)
  rw [o_set] at hP
  refine lv_goto (tgt := 19) hx hb d_Law_told_12 (by decide) ?_
  refine lv_iconst (v := 0) hx hb d_Law_told_19 (by decide) ?_
  exact W.iret hx hb hr (fun t ht hW => ⟨rfl, by rw [ht]; exact o_left hP, by rw [ht]; exact o_right hP, hS.F ht⟩) hS.2.2 d_Law_told_20 hlk
set_option maxHeartbeats 4000000 in
set_option maxRecDepth 100000 in
theorem n_Law_told {l : Launch} (hl0 : l.stackTraces = false) {h0 : Nat} {D : va_G} {n : Nat} {ad : Nat → Nat} {G : Nat → ClassId} {M : Mem} {o : Nat} {v : Nat → Int64} {a : Int32} {b : Int32} {z : Int32} (hf : g_LR_told n a b z M = none) : Met l y_Law_told (wh y_Law_told b_Law_told 6 (some .int) [(0, 12, 15, 13)]) rmN_Law_told (va_Pc [.ref (ad 0), .int a, .int b, .int z, .ref o] (oB h0 D n ad G M o v)) noQ 1 6 (fun _ => False) := by
  refine k_metW (by decide) (Nat.le_of_ble_eq_true rfl) ?_
  intro p e s m args below meth c S htab hr hlk hB ls hl
  obtain ⟨hx, hb, hml, hown, hts⟩ := id S
  obtain ⟨⟨⟨hP, hK, hA0⟩, hZ⟩, hO, ho⟩ := hB
  have hA := wl_own hA0
  have hl : lv_has ls 6 [(0, .ref (ad 0)), (1, .int a), (2, .int b), (3, .int z), (4, .ref o)] := hl
  refine lv_aload hx hb d_Law_told_0 (lv_at hl 4 rfl) ?_
  refine lv_iconst (v := 0) hx hb d_Law_told_2 (by decide) ?_
  refine lv_aload_n hx hb d_Law_told_3 rfl (lv_at hl 0 rfl) ?_
  refine lv_iload_n hx hb d_Law_told_4 rfl (lv_at hl 1 rfl) ?_
  refine lv_iload_n hx hb d_Law_told_5 rfl (lv_at hl 2 rfl) ?_
  refine lv_iload_n hx hb d_Law_told_6 rfl (lv_at hl 3 rfl) ?_
  refine th_vir S (t_LR_told hl0 (h0 := h0) (D := D) (ad := ad) (G := G) hf) (ws_t 466 (by decide +kernel) (by decide +kernel)) (ws_t 467 (by decide +kernel) (by decide +kernel)) (ws_t 468 (by decide +kernel) (by decide +kernel)) k_LR_told (ws_t 1 (by decide +kernel) (by decide +kernel)) hd_LR_told.2 ⟨rfl, rfl⟩ ⟨Nat.le_of_ble_eq_true rfl, Nat.le_of_ble_eq_true rfl⟩ (by decide) (by decide) zB_blind (va_recv hK hP rfl (wl_to LR_lt LR_at)) (zB_pre hP hK hA hZ) rfl hl.1 rfl (Nat.le_of_ble_eq_true rfl) d_Law_told_7 (fun q ce H1 a1 a2 a3 a4 a5 => ?_)
  refine th_catch ⟨0, 12, 15, 13⟩ hown htab (by decide) (by decide) (hts _ kl_Law_told) (hZ.2.2.2.1.1.use rfl) a1 a2 a3 ?_
  refine lv_astore (lv' := [(5, .ref q), (0, .ref (ad 0)), (1, .int a), (2, .int b), (3, .int z), (4, .ref o)]) hx hb d_Law_told_15 hl (by decide) rfl (fun ls hl => ?_)
  refine lv_iconst (v := 1) hx hb d_Law_told_17 (by decide) ?_
  exact W.iret hx hb hr (fun t ht hW => ⟨rfl, by rw [ht]; exact a4, fun z hz => by rw [ht]; exact a5 z hz⟩) (fun z hz => nomatch hz) d_Law_told_18 hlk
abbrev rm_Law_taken : Room := { frames := 3, cells := 0, slots := 0, locals := 64 }
abbrev rmN_Law_taken : Room := { frames := 9, cells := 1, slots := 6, locals := 146 }
set_option maxHeartbeats 4000000 in
set_option maxRecDepth 100000 in
theorem l_Law_taken {l : Launch} {h0 : Nat} {D : va_G} {n : Nat} {ad : Nat → Nat} {G : Nat → ClassId} {M : Mem} {o : Nat} {v : Nat → Int64} {a : Int32} {x : Int32} (hf : f_LR_taken n a M = some x) : Met l y_Law_taken (wh y_Law_taken b_Law_taken 4 (some .int) [(0, 9, 12, 13)]) rm_Law_taken (va_Pc [.ref (ad 0), .int a, .ref o] (oB h0 D n ad G M o v)) (okQ D n ad G M o (vp_updL v 0 x.toInt64)) 0 0 (oA n ad o) := by
  refine k_metW (by decide) (Nat.le_of_ble_eq_true rfl) ?_
  intro p e s m args below meth c S htab hr hlk hB ls hl
  obtain ⟨hx, hb, hml, hown, hts⟩ := id S
  obtain ⟨⟨⟨hP, hK, hA0⟩, hZ⟩, hO, ho⟩ := hB
  have hA := wl_own hA0
  have hl : lv_has ls 4 [(0, .ref (ad 0)), (1, .int a), (2, .ref o)] := hl
  have hS : va_S (oA n ad o) s.heap s.heap [] := va_S.rf
  refine lv_aload_n hx hb d_Law_taken_0 rfl (lv_at hl 2 rfl) ?_
  refine lv_iconst (v := 0) hx hb d_Law_taken_1 (by decide) ?_
  refine lv_aload_n hx hb d_Law_taken_2 rfl (lv_at hl 0 rfl) ?_
  refine lv_iload_n hx hb d_Law_taken_3 rfl (lv_at hl 1 rfl) ?_
  refine k_rdi (k_vir S (c_LR_taken (l := l) (D := D) (n := n) (ad := ad) (G := G) hf) g_Law_41 hd_LR_taken ⟨rfl, rfl⟩ ⟨Nat.le_of_ble_eq_true rfl, Nat.le_of_ble_eq_true rfl⟩ wl_blind (va_recv hK hP rfl (wl_to LR_lt LR_at)) (wl_pre hP hK hA) rfl hl.1 rfl (Nat.le_of_ble_eq_true rfl) d_Law_taken_4 (Nat.zero_le _) (Nat.zero_le _)) ?_
  refine lv_i2l (v := x.toInt64) hx hb d_Law_taken_7 rfl ?_
  refine va_last (D := D) hx hb hK (hP.app hO) (o_D (oA_ok hA) ho (Or.inr rfl)) hS (cK n) 4 o_get rfl (nI_in (c := 0) (by decide) (by decide)) d_Law_taken_8 (fun H locs hP _ hS => ?_)
  rw [o_set] at hP
  refine lv_goto (tgt := 15) hx hb d_Law_taken_9 (by decide) ?_
  refine lv_iconst (v := 0) hx hb d_Law_taken_15 (by decide) ?_
  exact W.iret hx hb hr (fun t ht hW => ⟨rfl, by rw [ht]; exact o_left hP, by rw [ht]; exact o_right hP, hS.F ht⟩) hS.2.2 d_Law_taken_16 hlk
set_option maxHeartbeats 4000000 in
set_option maxRecDepth 100000 in
theorem n_Law_taken {l : Launch} (hl0 : l.stackTraces = false) {h0 : Nat} {D : va_G} {n : Nat} {ad : Nat → Nat} {G : Nat → ClassId} {M : Mem} {o : Nat} {v : Nat → Int64} {a : Int32} (hf : g_LR_taken n a M = none) : Met l y_Law_taken (wh y_Law_taken b_Law_taken 4 (some .int) [(0, 9, 12, 13)]) rmN_Law_taken (va_Pc [.ref (ad 0), .int a, .ref o] (oB h0 D n ad G M o v)) noQ 1 6 (fun _ => False) := by
  refine k_metW (by decide) (Nat.le_of_ble_eq_true rfl) ?_
  intro p e s m args below meth c S htab hr hlk hB ls hl
  obtain ⟨hx, hb, hml, hown, hts⟩ := id S
  obtain ⟨⟨⟨hP, hK, hA0⟩, hZ⟩, hO, ho⟩ := hB
  have hA := wl_own hA0
  have hl : lv_has ls 4 [(0, .ref (ad 0)), (1, .int a), (2, .ref o)] := hl
  refine lv_aload_n hx hb d_Law_taken_0 rfl (lv_at hl 2 rfl) ?_
  refine lv_iconst (v := 0) hx hb d_Law_taken_1 (by decide) ?_
  refine lv_aload_n hx hb d_Law_taken_2 rfl (lv_at hl 0 rfl) ?_
  refine lv_iload_n hx hb d_Law_taken_3 rfl (lv_at hl 1 rfl) ?_
  refine th_vir S (t_LR_taken hl0 (h0 := h0) (D := D) (ad := ad) (G := G) hf) (ws_t 473 (by decide +kernel) (by decide +kernel)) (ws_t 474 (by decide +kernel) (by decide +kernel)) (ws_t 475 (by decide +kernel) (by decide +kernel)) k_LR_taken (ws_t 1 (by decide +kernel) (by decide +kernel)) hd_LR_taken.2 ⟨rfl, rfl⟩ ⟨Nat.le_of_ble_eq_true rfl, Nat.le_of_ble_eq_true rfl⟩ (by decide) (by decide) zB_blind (va_recv hK hP rfl (wl_to LR_lt LR_at)) (zB_pre hP hK hA hZ) rfl hl.1 rfl (Nat.le_of_ble_eq_true rfl) d_Law_taken_4 (fun q ce H1 a1 a2 a3 a4 a5 => ?_)
  refine th_catch ⟨0, 9, 12, 13⟩ hown htab (by decide) (by decide) (hts _ kl_Law_taken) (hZ.2.2.2.1.1.use rfl) a1 a2 a3 ?_
  refine lv_astore_n (lv' := [(3, .ref q), (0, .ref (ad 0)), (1, .int a), (2, .ref o)]) hx hb d_Law_taken_12 rfl hl (by decide) rfl (fun ls hl => ?_)
  refine lv_iconst (v := 1) hx hb d_Law_taken_13 (by decide) ?_
  exact W.iret hx hb hr (fun t ht hW => ⟨rfl, by rw [ht]; exact a4, fun z hz => by rw [ht]; exact a5 z hz⟩) (fun z hz => nomatch hz) d_Law_taken_14 hlk
abbrev rm_Law_send : Room := { frames := 6, cells := 0, slots := 0, locals := 141 }
abbrev rmN_Law_send : Room := { frames := 9, cells := 1, slots := 6, locals := 151 }
set_option maxHeartbeats 4000000 in
set_option maxRecDepth 100000 in
theorem l_Law_send {l : Launch} {h0 : Nat} {D : va_G} {n : Nat} {ad : Nat → Nat} {G : Nat → ClassId} {M : Mem} {o : Nat} {v : Nat → Int64} {a : Int32} {b : Int32} {z : Int32} {d : Int32} {x : Int32 × Mem} (hf : f_LR_send n a b z d M = some x) : Met l y_Law_send (wh y_Law_send b_Law_send 7 (some .int) [(0, 14, 17, 13)]) rm_Law_send (va_Pc [.ref (ad 0), .int a, .int b, .int z, .int d, .ref o] (oB h0 D n ad G M o v)) (okQ D n ad G x.2 o (vp_updL v 0 x.1.toInt64)) 0 0 (oA n ad o) := by
  refine k_metW (by decide) (Nat.le_of_ble_eq_true rfl) ?_
  intro p e s m args below meth c S htab hr hlk hB ls hl
  obtain ⟨hx, hb, hml, hown, hts⟩ := id S
  obtain ⟨⟨⟨hP, hK, hA0⟩, hZ⟩, hO, ho⟩ := hB
  have hA := wl_own hA0
  have hl : lv_has ls 7 [(0, .ref (ad 0)), (1, .int a), (2, .int b), (3, .int z), (4, .int d), (5, .ref o)] := hl
  have hS : va_S (oA n ad o) s.heap s.heap [] := va_S.rf
  refine lv_aload hx hb d_Law_send_0 (lv_at hl 5 rfl) ?_
  refine lv_iconst (v := 0) hx hb d_Law_send_2 (by decide) ?_
  refine lv_aload_n hx hb d_Law_send_3 rfl (lv_at hl 0 rfl) ?_
  refine lv_iload_n hx hb d_Law_send_4 rfl (lv_at hl 1 rfl) ?_
  refine lv_iload_n hx hb d_Law_send_5 rfl (lv_at hl 2 rfl) ?_
  refine lv_iload_n hx hb d_Law_send_6 rfl (lv_at hl 3 rfl) ?_
  refine lv_iload hx hb d_Law_send_7 (lv_at hl 4 rfl) ?_
  refine k_wri (k_vir S (c_LR_send (l := l) (D := D) (n := n) (ad := ad) (G := G) hf) g_Law_44 hd_LR_send ⟨rfl, rfl⟩ ⟨Nat.le_of_ble_eq_true rfl, Nat.le_of_ble_eq_true rfl⟩ wl_blind (va_recv hK hP rfl (wl_to LR_lt LR_at)) (wl_pre hP hK hA) rfl hl.1 rfl (Nat.le_of_ble_eq_true rfl) d_Law_send_9 (Nat.zero_le _) (Nat.zero_le _)) hS (fun _ h => Or.inl h) (fun H locs hP hz hk hS => ?_)
  have hO := one_kept hO hk (oA_not ho)
  refine lv_i2l (v := x.1.toInt64) hx hb d_Law_send_12 rfl ?_
  refine va_last (D := D) hx hb hK (hP.app hO) (o_D (oA_ok hA) ho (Or.inr rfl)) hS (cK n) 4 o_get rfl (nI_in (c := 0) (by decide) (by decide)) d_Law_send_13 (fun H locs hP _ hS => ?_)
  rw [o_set] at hP
  refine lv_goto (tgt := 21) hx hb d_Law_send_14 (by decide) ?_
  refine lv_iconst (v := 0) hx hb d_Law_send_21 (by decide) ?_
  exact W.iret hx hb hr (fun t ht hW => ⟨rfl, by rw [ht]; exact o_left hP, by rw [ht]; exact o_right hP, hS.F ht⟩) hS.2.2 d_Law_send_22 hlk
set_option maxHeartbeats 4000000 in
set_option maxRecDepth 100000 in
theorem n_Law_send {l : Launch} (hl0 : l.stackTraces = false) {h0 : Nat} {D : va_G} {n : Nat} {ad : Nat → Nat} {G : Nat → ClassId} {M : Mem} {o : Nat} {v : Nat → Int64} {a : Int32} {b : Int32} {z : Int32} {d : Int32} (hf : g_LR_send n a b z d M = none) : Met l y_Law_send (wh y_Law_send b_Law_send 7 (some .int) [(0, 14, 17, 13)]) rmN_Law_send (va_Pc [.ref (ad 0), .int a, .int b, .int z, .int d, .ref o] (oB h0 D n ad G M o v)) noQ 1 6 (fun _ => False) := by
  refine k_metW (by decide) (Nat.le_of_ble_eq_true rfl) ?_
  intro p e s m args below meth c S htab hr hlk hB ls hl
  obtain ⟨hx, hb, hml, hown, hts⟩ := id S
  obtain ⟨⟨⟨hP, hK, hA0⟩, hZ⟩, hO, ho⟩ := hB
  have hA := wl_own hA0
  have hl : lv_has ls 7 [(0, .ref (ad 0)), (1, .int a), (2, .int b), (3, .int z), (4, .int d), (5, .ref o)] := hl
  refine lv_aload hx hb d_Law_send_0 (lv_at hl 5 rfl) ?_
  refine lv_iconst (v := 0) hx hb d_Law_send_2 (by decide) ?_
  refine lv_aload_n hx hb d_Law_send_3 rfl (lv_at hl 0 rfl) ?_
  refine lv_iload_n hx hb d_Law_send_4 rfl (lv_at hl 1 rfl) ?_
  refine lv_iload_n hx hb d_Law_send_5 rfl (lv_at hl 2 rfl) ?_
  refine lv_iload_n hx hb d_Law_send_6 rfl (lv_at hl 3 rfl) ?_
  refine lv_iload hx hb d_Law_send_7 (lv_at hl 4 rfl) ?_
  refine th_vir S (t_LR_send hl0 (h0 := h0) (D := D) (ad := ad) (G := G) hf) (ws_t 490 (by decide +kernel) (by decide +kernel)) (ws_t 491 (by decide +kernel) (by decide +kernel)) (ws_t 492 (by decide +kernel) (by decide +kernel)) k_LR_send (ws_t 1 (by decide +kernel) (by decide +kernel)) hd_LR_send.2 ⟨rfl, rfl⟩ ⟨Nat.le_of_ble_eq_true rfl, Nat.le_of_ble_eq_true rfl⟩ (by decide) (by decide) zB_blind (va_recv hK hP rfl (wl_to LR_lt LR_at)) (zB_pre hP hK hA hZ) rfl hl.1 rfl (Nat.le_of_ble_eq_true rfl) d_Law_send_9 (fun q ce H1 a1 a2 a3 a4 a5 => ?_)
  refine th_catch ⟨0, 14, 17, 13⟩ hown htab (by decide) (by decide) (hts _ kl_Law_send) (hZ.2.2.2.1.1.use rfl) a1 a2 a3 ?_
  refine lv_astore (lv' := [(6, .ref q), (0, .ref (ad 0)), (1, .int a), (2, .int b), (3, .int z), (4, .int d), (5, .ref o)]) hx hb d_Law_send_17 hl (by decide) rfl (fun ls hl => ?_)
  refine lv_iconst (v := 1) hx hb d_Law_send_19 (by decide) ?_
  exact W.iret hx hb hr (fun t ht hW => ⟨rfl, by rw [ht]; exact a4, fun z hz => by rw [ht]; exact a5 z hz⟩) (fun z hz => nomatch hz) d_Law_send_20 hlk
abbrev rm_Law_hop : Room := { frames := 3, cells := 0, slots := 0, locals := 62 }
abbrev rmN_Law_hop : Room := { frames := 8, cells := 1, slots := 6, locals := 124 }
set_option maxHeartbeats 4000000 in
set_option maxRecDepth 100000 in
theorem l_Law_hop {l : Launch} {h0 : Nat} {D : va_G} {n : Nat} {ad : Nat → Nat} {G : Nat → ClassId} {M : Mem} {o : Nat} {v : Nat → Int64} {a : Int32} {x : Int32} (hf : f_LR_hop n a M = some x) : Met l y_Law_hop (wh y_Law_hop b_Law_hop 4 (some .int) [(0, 9, 12, 51)]) rm_Law_hop (va_Pc [.ref (ad 0), .int a, .ref o] (oB h0 D n ad G M o v)) (okQ D n ad G M o (vp_updL v 0 x.toInt64)) 0 0 (oA n ad o) := by
  refine k_metW (by decide) (Nat.le_of_ble_eq_true rfl) ?_
  intro p e s m args below meth c S htab hr hlk hB ls hl
  obtain ⟨hx, hb, hml, hown, hts⟩ := id S
  obtain ⟨⟨⟨hP, hK, hA0⟩, hZ⟩, hO, ho⟩ := hB
  have hA := wl_own hA0
  have hl : lv_has ls 4 [(0, .ref (ad 0)), (1, .int a), (2, .ref o)] := hl
  have hS : va_S (oA n ad o) s.heap s.heap [] := va_S.rf
  refine lv_aload_n hx hb d_Law_hop_0 rfl (lv_at hl 2 rfl) ?_
  refine lv_iconst (v := 0) hx hb d_Law_hop_1 (by decide) ?_
  refine lv_aload_n hx hb d_Law_hop_2 rfl (lv_at hl 0 rfl) ?_
  refine lv_iload_n hx hb d_Law_hop_3 rfl (lv_at hl 1 rfl) ?_
  refine k_rdi (k_vir S (c_LR_hop (l := l) (D := D) (n := n) (ad := ad) (G := G) hf) g_Law_48 hd_LR_hop ⟨rfl, rfl⟩ ⟨Nat.le_of_ble_eq_true rfl, Nat.le_of_ble_eq_true rfl⟩ wl_blind (va_recv hK hP rfl (wl_to LR_lt LR_at)) (wl_pre hP hK hA) rfl hl.1 rfl (Nat.le_of_ble_eq_true rfl) d_Law_hop_4 (Nat.zero_le _) (Nat.zero_le _)) ?_
  refine lv_i2l (v := x.toInt64) hx hb d_Law_hop_7 rfl ?_
  refine va_last (D := D) hx hb hK (hP.app hO) (o_D (oA_ok hA) ho (Or.inr rfl)) hS (cK n) 4 o_get rfl (nI_in (c := 0) (by decide) (by decide)) d_Law_hop_8 (fun H locs hP _ hS => ?_)
  rw [o_set] at hP
  refine lv_goto (tgt := 15) hx hb d_Law_hop_9 (by decide) ?_
  refine lv_iconst (v := 0) hx hb d_Law_hop_15 (by decide) ?_
  exact W.iret hx hb hr (fun t ht hW => ⟨rfl, by rw [ht]; exact o_left hP, by rw [ht]; exact o_right hP, hS.F ht⟩) hS.2.2 d_Law_hop_16 hlk
set_option maxHeartbeats 4000000 in
set_option maxRecDepth 100000 in
theorem n_Law_hop {l : Launch} (hl0 : l.stackTraces = false) {h0 : Nat} {D : va_G} {n : Nat} {ad : Nat → Nat} {G : Nat → ClassId} {M : Mem} {o : Nat} {v : Nat → Int64} {a : Int32} (hf : g_LR_hop n a M = none) : Met l y_Law_hop (wh y_Law_hop b_Law_hop 4 (some .int) [(0, 9, 12, 51)]) rmN_Law_hop (va_Pc [.ref (ad 0), .int a, .ref o] (oB h0 D n ad G M o v)) noQ 1 6 (fun _ => False) := by
  refine k_metW (by decide) (Nat.le_of_ble_eq_true rfl) ?_
  intro p e s m args below meth c S htab hr hlk hB ls hl
  obtain ⟨hx, hb, hml, hown, hts⟩ := id S
  obtain ⟨⟨⟨hP, hK, hA0⟩, hZ⟩, hO, ho⟩ := hB
  have hA := wl_own hA0
  have hl : lv_has ls 4 [(0, .ref (ad 0)), (1, .int a), (2, .ref o)] := hl
  refine lv_aload_n hx hb d_Law_hop_0 rfl (lv_at hl 2 rfl) ?_
  refine lv_iconst (v := 0) hx hb d_Law_hop_1 (by decide) ?_
  refine lv_aload_n hx hb d_Law_hop_2 rfl (lv_at hl 0 rfl) ?_
  refine lv_iload_n hx hb d_Law_hop_3 rfl (lv_at hl 1 rfl) ?_
  refine th_vir S (t_LR_hop hl0 (h0 := h0) (D := D) (ad := ad) (G := G) hf) (ws_t 563 (by decide +kernel) (by decide +kernel)) (ws_t 564 (by decide +kernel) (by decide +kernel)) (ws_t 565 (by decide +kernel) (by decide +kernel)) k_LR_hop (ws_t 1 (by decide +kernel) (by decide +kernel)) hd_LR_hop.2 ⟨rfl, rfl⟩ ⟨Nat.le_of_ble_eq_true rfl, Nat.le_of_ble_eq_true rfl⟩ (by decide) (by decide) zB_blind (va_recv hK hP rfl (wl_to LR_lt LR_at)) (zB_pre hP hK hA hZ) rfl hl.1 rfl (Nat.le_of_ble_eq_true rfl) d_Law_hop_4 (fun q ce H1 a1 a2 a3 a4 a5 => ?_)
  refine th_catch ⟨0, 9, 12, 51⟩ hown htab (by decide) (by decide) (hts _ kl_Law_hop) (hZ.2.2.2.1.2.use rfl) a1 a2 a3 ?_
  refine lv_astore_n (lv' := [(3, .ref q), (0, .ref (ad 0)), (1, .int a), (2, .ref o)]) hx hb d_Law_hop_12 rfl hl (by decide) rfl (fun ls hl => ?_)
  refine lv_iconst (v := 1) hx hb d_Law_hop_13 (by decide) ?_
  exact W.iret hx hb hr (fun t ht hW => ⟨rfl, by rw [ht]; exact a4, fun z hz => by rw [ht]; exact a5 z hz⟩) (fun z hz => nomatch hz) d_Law_hop_14 hlk
abbrev rm_Law_entry : Room := { frames := 3, cells := 0, slots := 0, locals := 62 }
abbrev rmN_Law_entry : Room := { frames := 8, cells := 1, slots := 6, locals := 124 }
set_option maxHeartbeats 4000000 in
set_option maxRecDepth 100000 in
theorem l_Law_entry {l : Launch} {h0 : Nat} {D : va_G} {n : Nat} {ad : Nat → Nat} {G : Nat → ClassId} {M : Mem} {o : Nat} {v : Nat → Int64} {a : Int32} {x : Int32} (hf : f_LR_entry n a M = some x) : Met l y_Law_entry (wh y_Law_entry b_Law_entry 4 (some .int) [(0, 9, 12, 51)]) rm_Law_entry (va_Pc [.ref (ad 0), .int a, .ref o] (oB h0 D n ad G M o v)) (okQ D n ad G M o (vp_updL v 0 x.toInt64)) 0 0 (oA n ad o) := by
  refine k_metW (by decide) (Nat.le_of_ble_eq_true rfl) ?_
  intro p e s m args below meth c S htab hr hlk hB ls hl
  obtain ⟨hx, hb, hml, hown, hts⟩ := id S
  obtain ⟨⟨⟨hP, hK, hA0⟩, hZ⟩, hO, ho⟩ := hB
  have hA := wl_own hA0
  have hl : lv_has ls 4 [(0, .ref (ad 0)), (1, .int a), (2, .ref o)] := hl
  have hS : va_S (oA n ad o) s.heap s.heap [] := va_S.rf
  refine lv_aload_n hx hb d_Law_entry_0 rfl (lv_at hl 2 rfl) ?_
  refine lv_iconst (v := 0) hx hb d_Law_entry_1 (by decide) ?_
  refine lv_aload_n hx hb d_Law_entry_2 rfl (lv_at hl 0 rfl) ?_
  refine lv_iload_n hx hb d_Law_entry_3 rfl (lv_at hl 1 rfl) ?_
  refine k_rdi (k_vir S (c_LR_entry (l := l) (D := D) (n := n) (ad := ad) (G := G) hf) g_Law_53 hd_LR_entry ⟨rfl, rfl⟩ ⟨Nat.le_of_ble_eq_true rfl, Nat.le_of_ble_eq_true rfl⟩ wl_blind (va_recv hK hP rfl (wl_to LR_lt LR_at)) (wl_pre hP hK hA) rfl hl.1 rfl (Nat.le_of_ble_eq_true rfl) d_Law_entry_4 (Nat.zero_le _) (Nat.zero_le _)) ?_
  refine lv_i2l (v := x.toInt64) hx hb d_Law_entry_7 rfl ?_
  refine va_last (D := D) hx hb hK (hP.app hO) (o_D (oA_ok hA) ho (Or.inr rfl)) hS (cK n) 4 o_get rfl (nI_in (c := 0) (by decide) (by decide)) d_Law_entry_8 (fun H locs hP _ hS => ?_)
  rw [o_set] at hP
  refine lv_goto (tgt := 15) hx hb d_Law_entry_9 (by decide) ?_
  refine lv_iconst (v := 0) hx hb d_Law_entry_15 (by decide) ?_
  exact W.iret hx hb hr (fun t ht hW => ⟨rfl, by rw [ht]; exact o_left hP, by rw [ht]; exact o_right hP, hS.F ht⟩) hS.2.2 d_Law_entry_16 hlk
set_option maxHeartbeats 4000000 in
set_option maxRecDepth 100000 in
theorem n_Law_entry {l : Launch} (hl0 : l.stackTraces = false) {h0 : Nat} {D : va_G} {n : Nat} {ad : Nat → Nat} {G : Nat → ClassId} {M : Mem} {o : Nat} {v : Nat → Int64} {a : Int32} (hf : g_LR_entry n a M = none) : Met l y_Law_entry (wh y_Law_entry b_Law_entry 4 (some .int) [(0, 9, 12, 51)]) rmN_Law_entry (va_Pc [.ref (ad 0), .int a, .ref o] (oB h0 D n ad G M o v)) noQ 1 6 (fun _ => False) := by
  refine k_metW (by decide) (Nat.le_of_ble_eq_true rfl) ?_
  intro p e s m args below meth c S htab hr hlk hB ls hl
  obtain ⟨hx, hb, hml, hown, hts⟩ := id S
  obtain ⟨⟨⟨hP, hK, hA0⟩, hZ⟩, hO, ho⟩ := hB
  have hA := wl_own hA0
  have hl : lv_has ls 4 [(0, .ref (ad 0)), (1, .int a), (2, .ref o)] := hl
  refine lv_aload_n hx hb d_Law_entry_0 rfl (lv_at hl 2 rfl) ?_
  refine lv_iconst (v := 0) hx hb d_Law_entry_1 (by decide) ?_
  refine lv_aload_n hx hb d_Law_entry_2 rfl (lv_at hl 0 rfl) ?_
  refine lv_iload_n hx hb d_Law_entry_3 rfl (lv_at hl 1 rfl) ?_
  refine th_vir S (t_LR_entry hl0 (h0 := h0) (D := D) (ad := ad) (G := G) hf) (ws_t 594 (by decide +kernel) (by decide +kernel)) (ws_t 595 (by decide +kernel) (by decide +kernel)) (ws_t 596 (by decide +kernel) (by decide +kernel)) k_LR_entry (ws_t 1 (by decide +kernel) (by decide +kernel)) hd_LR_entry.2 ⟨rfl, rfl⟩ ⟨Nat.le_of_ble_eq_true rfl, Nat.le_of_ble_eq_true rfl⟩ (by decide) (by decide) zB_blind (va_recv hK hP rfl (wl_to LR_lt LR_at)) (zB_pre hP hK hA hZ) rfl hl.1 rfl (Nat.le_of_ble_eq_true rfl) d_Law_entry_4 (fun q ce H1 a1 a2 a3 a4 a5 => ?_)
  refine th_catch ⟨0, 9, 12, 51⟩ hown htab (by decide) (by decide) (hts _ kl_Law_entry) (hZ.2.2.2.1.2.use rfl) a1 a2 a3 ?_
  refine lv_astore_n (lv' := [(3, .ref q), (0, .ref (ad 0)), (1, .int a), (2, .ref o)]) hx hb d_Law_entry_12 rfl hl (by decide) rfl (fun ls hl => ?_)
  refine lv_iconst (v := 1) hx hb d_Law_entry_13 (by decide) ?_
  exact W.iret hx hb hr (fun t ht hW => ⟨rfl, by rw [ht]; exact a4, fun z hz => by rw [ht]; exact a5 z hz⟩) (fun z hz => nomatch hz) d_Law_entry_14 hlk
