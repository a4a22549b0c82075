def f_LR_checkRange (a : Int32) (b : Int32) (z : Int32) : Option (Unit) :=
  if a < b then (none) else (if a ≤ z then (some ()) else (none))
abbrev rm_LR_checkRange : Room := { frames := 0, cells := 0, slots := 0, locals := 0 }
set_option maxHeartbeats 4000000 in
set_option maxRecDepth 100000 in
theorem c_LR_checkRange {l : Launch} {D : va_G} {n : Nat} {ad : Nat → Nat} {G : Nat → ClassId} {a : Int32} {b : Int32} {z : Int32}  {M : Mem} {x : Unit} (hf : f_LR_checkRange a b z = some x) : Met l y_LR_checkRange (wc y_LR_checkRange b_LR_checkRange 3 (none)) rm_LR_checkRange (va_Pc [.int a, .int b, .int z] (cB D n ad G M)) (rd_Q (none)) 0 0 (fun _ => False) := by
  refine k_met (by decide) (Nat.le_of_ble_eq_true rfl) ?_
  intro p e s m args below meth c S hr hlk hB ls hl
  obtain ⟨hx, hb, hml, hown, hts⟩ := id S
  obtain ⟨hP, hK, hA0⟩ := hB
  have hA := wl_own hA0
  have hl : lv_has ls 3 [(0, .int a), (1, .int b), (2, .int z)] := hl
  unfold f_LR_checkRange at hf
  refine lv_iload_n hx hb d_LR_checkRange_0 rfl (lv_at hl 0 rfl) ?_
  refine lv_iload_n hx hb d_LR_checkRange_1 rfl (lv_at hl 1 rfl) ?_
  refine lv_icmp_lt (tgt := 10) hx hb d_LR_checkRange_2 (by decide) (fun h2 => ?_) (fun h2 => ?_)
  · rw [if_pos h2] at hf
    cases hf
  · rw [if_neg h2] at hf
    refine lv_iload_n hx hb d_LR_checkRange_5 rfl (lv_at hl 0 rfl) ?_
    refine lv_iload_n hx hb d_LR_checkRange_6 rfl (lv_at hl 2 rfl) ?_
    refine lv_icmp_le (tgt := 20) hx hb d_LR_checkRange_7 (by decide) (fun h7 => ?_) (fun h7 => ?_)
    · rw [if_pos h7] at hf
      cases hf
      exact r_vret hx hb hr hlk d_LR_checkRange_20
    · rw [if_neg h7] at hf
      cases hf
def f_LR_checkRouter (n : Nat) (a : Int32) (M : Mem) : Option (Unit) :=
  (f_LR_checkRange a 0 ((nI n) - 1)).bind fun r8 => some ()
abbrev rm_LR_checkRouter : Room := { frames := 1, cells := 0, slots := 0, locals := 22 }
set_option maxHeartbeats 4000000 in
set_option maxRecDepth 100000 in
theorem c_LR_checkRouter {l : Launch} {D : va_G} {n : Nat} {ad : Nat → Nat} {G : Nat → ClassId} {a : Int32}  {M : Mem} {x : Unit} (hf : f_LR_checkRouter n a M = some x) : Met l y_LR_checkRouter (wc y_LR_checkRouter b_LR_checkRouter 2 (none)) rm_LR_checkRouter (va_Pc [.ref (ad 0), .int a] (cB D n ad G M)) (rd_Q (none)) 0 0 (fun _ => False) := by
  refine k_met (by decide) (Nat.le_of_ble_eq_true rfl) ?_
  intro p e s m args below meth c S hr hlk hB ls hl
  obtain ⟨hx, hb, hml, hown, hts⟩ := id S
  obtain ⟨hP, hK, hA0⟩ := hB
  have hA := wl_own hA0
  have hl : lv_has ls 2 [(0, .ref (ad 0)), (1, .int a)] := hl
  unfold f_LR_checkRouter at hf
  refine lv_iload_n hx hb d_LR_checkRouter_0 rfl (lv_at hl 1 rfl) ?_
  refine lv_iconst (v := 0) hx hb d_LR_checkRouter_1 (by decide) ?_
  refine lv_aload_n hx hb d_LR_checkRouter_2 rfl (lv_at hl 0 rfl) ?_
  refine va_get (D := D) (ci := 0) (v := .int (nI n)) (C := R_LR) (T := F_LR) (N := 6) hx hb hts in_LR hown hK hP 0 (wl_to (LR_lt) (LR_at)) rfl 0 (by decide) (hts _ fl_LR_18) (fun _ h => h) rfl d_LR_checkRouter_3 ?_
  refine lv_iconst (v := 1) hx hb d_LR_checkRouter_6 (by decide) ?_
  refine lv_isub hx hb d_LR_checkRouter_7 ?_
  obtain ⟨r8, hc8, hf⟩ := ob hf
  refine k_rdv (k_sta S (c_LR_checkRange (l := l) (D := D) (n := n) (ad := ad) (G := G) hc8) g_LR_66 hd_LR_checkRange ⟨rfl, rfl⟩ ⟨Nat.le_of_ble_eq_true rfl, Nat.le_of_ble_eq_true rfl⟩ wl_blind (wl_pre hP hK hA) rfl hl.1 rfl (Nat.le_of_ble_eq_true rfl) d_LR_checkRouter_8 (Nat.zero_le _) (Nat.zero_le _)) ?_
  cases hf
  exact r_vret hx hb hr hlk d_LR_checkRouter_11
def f_LR_checkRouterOrNone (n : Nat) (a : Int32) (M : Mem) : Option (Unit) :=
  (f_LR_checkRange a (-1) ((nI n) - 1)).bind fun r8 => some ()
abbrev rm_LR_checkRouterOrNone : Room := { frames := 1, cells := 0, slots := 0, locals := 22 }
set_option maxHeartbeats 4000000 in
set_option maxRecDepth 100000 in
theorem c_LR_checkRouterOrNone {l : Launch} {D : va_G} {n : Nat} {ad : Nat → Nat} {G : Nat → ClassId} {a : Int32}  {M : Mem} {x : Unit} (hf : f_LR_checkRouterOrNone n a M = some x) : Met l y_LR_checkRouterOrNone (wc y_LR_checkRouterOrNone b_LR_checkRouterOrNone 2 (none)) rm_LR_checkRouterOrNone (va_Pc [.ref (ad 0), .int a] (cB D n ad G M)) (rd_Q (none)) 0 0 (fun _ => False) := by
  refine k_met (by decide) (Nat.le_of_ble_eq_true rfl) ?_
  intro p e s m args below meth c S hr hlk hB ls hl
  obtain ⟨hx, hb, hml, hown, hts⟩ := id S
  obtain ⟨hP, hK, hA0⟩ := hB
  have hA := wl_own hA0
  have hl : lv_has ls 2 [(0, .ref (ad 0)), (1, .int a)] := hl
  unfold f_LR_checkRouterOrNone at hf
  refine lv_iload_n hx hb d_LR_checkRouterOrNone_0 rfl (lv_at hl 1 rfl) ?_
  refine lv_iconst (v := (-1)) hx hb d_LR_checkRouterOrNone_1 (by decide) ?_
  refine lv_aload_n hx hb d_LR_checkRouterOrNone_2 rfl (lv_at hl 0 rfl) ?_
  refine va_get (D := D) (ci := 0) (v := .int (nI n)) (C := R_LR) (T := F_LR) (N := 6) hx hb hts in_LR hown hK hP 0 (wl_to (LR_lt) (LR_at)) rfl 0 (by decide) (hts _ fl_LR_18) (fun _ h => h) rfl d_LR_checkRouterOrNone_3 ?_
  refine lv_iconst (v := 1) hx hb d_LR_checkRouterOrNone_6 (by decide) ?_
  refine lv_isub hx hb d_LR_checkRouterOrNone_7 ?_
  obtain ⟨r8, hc8, hf⟩ := ob hf
  refine k_rdv (k_sta S (c_LR_checkRange (l := l) (D := D) (n := n) (ad := ad) (G := G) hc8) g_LR_66 hd_LR_checkRange ⟨rfl, rfl⟩ ⟨Nat.le_of_ble_eq_true rfl, Nat.le_of_ble_eq_true rfl⟩ wl_blind (wl_pre hP hK hA) rfl hl.1 rfl (Nat.le_of_ble_eq_true rfl) d_LR_checkRouterOrNone_8 (Nat.zero_le _) (Nat.zero_le _)) ?_
  cases hf
  exact r_vret hx hb hr hlk d_LR_checkRouterOrNone_11
def f_LR_checkTwoRouters (n : Nat) (a : Int32) (b : Int32) (M : Mem) : Option (Unit) :=
  (f_LR_checkRouter n a M).bind fun r2 => (f_LR_checkRouter n b M).bind fun r7 => if a = b then (none) else (some ())
abbrev rm_LR_checkTwoRouters : Room := { frames := 2, cells := 0, slots := 0, locals := 43 }
set_option maxHeartbeats 4000000 in
set_option maxRecDepth 100000 in
theorem c_LR_checkTwoRouters {l : Launch} {D : va_G} {n : Nat} {ad : Nat → Nat} {G : Nat → ClassId} {a : Int32} {b : Int32}  {M : Mem} {x : Unit} (hf : f_LR_checkTwoRouters n a b M = some x) : Met l y_LR_checkTwoRouters (wc y_LR_checkTwoRouters b_LR_checkTwoRouters 3 (none)) rm_LR_checkTwoRouters (va_Pc [.ref (ad 0), .int a, .int b] (cB D n ad G M)) (rd_Q (none)) 0 0 (fun _ => False) := by
  refine k_met (by decide) (Nat.le_of_ble_eq_true rfl) ?_
  intro p e s m args below meth c S hr hlk hB ls hl
  obtain ⟨hx, hb, hml, hown, hts⟩ := id S
  obtain ⟨hP, hK, hA0⟩ := hB
  have hA := wl_own hA0
  have hl : lv_has ls 3 [(0, .ref (ad 0)), (1, .int a), (2, .int b)] := hl
  unfold f_LR_checkTwoRouters at hf
  refine lv_aload_n hx hb d_LR_checkTwoRouters_0 rfl (lv_at hl 0 rfl) ?_
  refine lv_iload_n hx hb d_LR_checkTwoRouters_1 rfl (lv_at hl 1 rfl) ?_
  obtain ⟨r2, hc2, hf⟩ := ob hf
  refine k_rdv (k_vir S (c_LR_checkRouter (l := l) (D := D) (n := n) (ad := ad) (G := G) hc2) g_LR_116 hd_LR_checkRouter ⟨rfl, rfl⟩ ⟨Nat.le_of_ble_eq_true rfl, Nat.le_of_ble_eq_true rfl⟩ wl_blind (va_recv hK hP rfl (wl_to (LR_lt) (LR_at))) (wl_pre hP hK hA) rfl hl.1 rfl (Nat.le_of_ble_eq_true rfl) d_LR_checkTwoRouters_2 (Nat.zero_le _) (Nat.zero_le _)) ?_
  refine lv_aload_n hx hb d_LR_checkTwoRouters_5 rfl (lv_at hl 0 rfl) ?_
  refine lv_iload_n hx hb d_LR_checkTwoRouters_6 rfl (lv_at hl 2 rfl) ?_
  obtain ⟨r7, hc7, hf⟩ := ob hf
  refine k_rdv (k_vir S (c_LR_checkRouter (l := l) (D := D) (n := n) (ad := ad) (G := G) hc7) g_LR_116 hd_LR_checkRouter ⟨rfl, rfl⟩ ⟨Nat.le_of_ble_eq_true rfl, Nat.le_of_ble_eq_true rfl⟩ wl_blind (va_recv hK hP rfl (wl_to (LR_lt) (LR_at))) (wl_pre hP hK hA) rfl hl.1 rfl (Nat.le_of_ble_eq_true rfl) d_LR_checkTwoRouters_7 (Nat.zero_le _) (Nat.zero_le _)) ?_
  refine lv_iload_n hx hb d_LR_checkTwoRouters_10 rfl (lv_at hl 1 rfl) ?_
  refine lv_iload_n hx hb d_LR_checkTwoRouters_11 rfl (lv_at hl 2 rfl) ?_
  refine lv_icmp_ne (tgt := 25) hx hb d_LR_checkTwoRouters_12 (by decide) (fun h12 => ?_) (fun h12 => ?_)
  · rw [if_neg h12] at hf
    cases hf
    exact r_vret hx hb hr hlk d_LR_checkTwoRouters_25
  · rw [if_pos h12] at hf
    cases hf
def f_LR_checkPrefix (a : Int32) : Option (Unit) :=
  (f_LR_checkRange a 0 3).bind fun r3 => some ()
abbrev rm_LR_checkPrefix : Room := { frames := 1, cells := 0, slots := 0, locals := 22 }
set_option maxHeartbeats 4000000 in
set_option maxRecDepth 100000 in
theorem c_LR_checkPrefix {l : Launch} {D : va_G} {n : Nat} {ad : Nat → Nat} {G : Nat → ClassId} {a : Int32}  {M : Mem} {x : Unit} (hf : f_LR_checkPrefix a = some x) : Met l y_LR_checkPrefix (wc y_LR_checkPrefix b_LR_checkPrefix 1 (none)) rm_LR_checkPrefix (va_Pc [.int a] (cB D n ad G M)) (rd_Q (none)) 0 0 (fun _ => False) := by
  refine k_met (by decide) (Nat.le_of_ble_eq_true rfl) ?_
  intro p e s m args below meth c S hr hlk hB ls hl
  obtain ⟨hx, hb, hml, hown, hts⟩ := id S
  obtain ⟨hP, hK, hA0⟩ := hB
  have hA := wl_own hA0
  have hl : lv_has ls 1 [(0, .int a)] := hl
  unfold f_LR_checkPrefix at hf
  refine lv_iload_n hx hb d_LR_checkPrefix_0 rfl (lv_at hl 0 rfl) ?_
  refine lv_iconst (v := 0) hx hb d_LR_checkPrefix_1 (by decide) ?_
  refine lv_iconst (v := 3) hx hb d_LR_checkPrefix_2 (by decide) ?_
  obtain ⟨r3, hc3, hf⟩ := ob hf
  refine k_rdv (k_sta S (c_LR_checkRange (l := l) (D := D) (n := n) (ad := ad) (G := G) hc3) g_LR_66 hd_LR_checkRange ⟨rfl, rfl⟩ ⟨Nat.le_of_ble_eq_true rfl, Nat.le_of_ble_eq_true rfl⟩ wl_blind (wl_pre hP hK hA) rfl hl.1 rfl (Nat.le_of_ble_eq_true rfl) d_LR_checkPrefix_3 (Nat.zero_le _) (Nat.zero_le _)) ?_
  cases hf
  exact r_vret hx hb hr hlk d_LR_checkPrefix_6
def f_LR_checkHop (n : Nat) (a : Int32) (M : Mem) : Option (Unit) :=
  if a < 0 then (none) else ((f_Packet_placeCount n M).bind fun r9 => if a < r9 then (some ()) else (none))
abbrev rm_LR_checkHop : Room := { frames := 1, cells := 0, slots := 0, locals := 20 }
set_option maxHeartbeats 4000000 in
set_option maxRecDepth 100000 in
theorem c_LR_checkHop {l : Launch} {D : va_G} {n : Nat} {ad : Nat → Nat} {G : Nat → ClassId} {a : Int32}  {M : Mem} {x : Unit} (hf : f_LR_checkHop n a M = some x) : Met l y_LR_checkHop (wc y_LR_checkHop b_LR_checkHop 2 (none)) rm_LR_checkHop (va_Pc [.ref (ad 0), .int a] (cB D n ad G M)) (rd_Q (none)) 0 0 (fun _ => False) := by
  refine k_met (by decide) (Nat.le_of_ble_eq_true rfl) ?_
  intro p e s m args below meth c S hr hlk hB ls hl
  obtain ⟨hx, hb, hml, hown, hts⟩ := id S
  obtain ⟨hP, hK, hA0⟩ := hB
  have hA := wl_own hA0
  have hl : lv_has ls 2 [(0, .ref (ad 0)), (1, .int a)] := hl
  unfold f_LR_checkHop at hf
  refine lv_iload_n hx hb d_LR_checkHop_0 rfl (lv_at hl 1 rfl) ?_
  refine lv_if_lt (tgt := 15) hx hb d_LR_checkHop_1 (by decide) (fun h1 => ?_) (fun h1 => ?_)
  · rw [if_pos h1] at hf
    cases hf
  · rw [if_neg h1] at hf
    refine lv_iload_n hx hb d_LR_checkHop_4 rfl (lv_at hl 1 rfl) ?_
    refine lv_aload_n hx hb d_LR_checkHop_5 rfl (lv_at hl 0 rfl) ?_
    refine va_get (D := D) (ci := 0) (v := .ref (ad 9)) (C := R_LR) (T := F_LR) (N := 6) hx hb hts in_LR hown hK hP 0 (wl_to (LR_lt) (LR_at)) rfl 5 (by decide) (hts _ fl_LR_58) (fun _ h => h) rfl d_LR_checkHop_6 ?_
    obtain ⟨r9, hc9, hf⟩ := ob hf
    refine k_rdi (k_vir S (c_Packet_placeCount (l := l) (D := D) (n := n) (ad := ad) (G := G) hc9) g_LR_141 hd_Packet_placeCount ⟨rfl, rfl⟩ ⟨Nat.le_of_ble_eq_true rfl, Nat.le_of_ble_eq_true rfl⟩ wl_blind (va_recv hK hP rfl (wl_to (PK_lt) (PK_at))) (wl_pre hP hK hA) rfl hl.1 rfl (Nat.le_of_ble_eq_true rfl) d_LR_checkHop_9 (Nat.zero_le _) (Nat.zero_le _)) ?_
    refine lv_icmp_lt (tgt := 25) hx hb d_LR_checkHop_12 (by decide) (fun h12 => ?_) (fun h12 => ?_)
    · rw [if_pos h12] at hf
      cases hf
      exact r_vret hx hb hr hlk d_LR_checkHop_25
    · rw [if_neg h12] at hf
      cases hf
def f_LR_cutOff (n : Nat) (a : Int32) (b : Int32) (M : Mem) : Option (Mem) :=
  (f_Mail_dropBetween n a b M).bind fun r6 => (ix a n).bind fun j14 => (f_Router_forget n j14 b r6).bind fun r16 => (ix b n).bind fun j24 => (f_Router_forget n j24 a r16).bind fun r26 => some r26
abbrev rm_LR_cutOff : Room := { frames := 2, cells := 0, slots := 0, locals := 47 }
set_option maxHeartbeats 4000000 in
set_option maxRecDepth 100000 in
theorem c_LR_cutOff {l : Launch} {D : va_G} {n : Nat} {ad : Nat → Nat} {G : Nat → ClassId} {a : Int32} {b : Int32}  {M : Mem} {x : Mem} (hf : f_LR_cutOff n a b M = some x) : Met l y_LR_cutOff (wc y_LR_cutOff b_LR_cutOff 3 (none)) rm_LR_cutOff (va_Pc [.ref (ad 0), .int a, .int b] (cB D n ad G M)) (wr_Q (none) D cls (cK n) ad (cE n ad G x)) 0 0 (wl_A (cK n) ad) := by
  refine k_met (by decide) (Nat.le_of_ble_eq_true rfl) ?_
  intro p e s m args below meth c S hr hlk hB ls hl
  obtain ⟨hx, hb, hml, hown, hts⟩ := id S
  obtain ⟨hP, hK, hA0⟩ := hB
  have hA := wl_own hA0
  have hl : lv_has ls 3 [(0, .ref (ad 0)), (1, .int a), (2, .int b)] := hl
  have hS : va_S (wl_A (cK n) ad) s.heap s.heap [] := va_S.rf
  unfold f_LR_cutOff at hf
  refine lv_aload_n hx hb d_LR_cutOff_0 rfl (lv_at hl 0 rfl) ?_
  refine va_get (D := D) (ci := 0) (v := .ref (ad 5)) (C := R_LR) (T := F_LR) (N := 6) hx hb hts in_LR hown hK hP 0 (wl_to (LR_lt) (LR_at)) rfl 2 (by decide) (hts _ fl_LR_34) (fun _ h => h) rfl d_LR_cutOff_1 ?_
  refine lv_iload_n hx hb d_LR_cutOff_4 rfl (lv_at hl 1 rfl) ?_
  refine lv_iload_n hx hb d_LR_cutOff_5 rfl (lv_at hl 2 rfl) ?_
  obtain ⟨r6, hc6, hf⟩ := ob hf
  refine k_wrv (k_vir S (c_Mail_dropBetween (l := l) (D := D) (n := n) (ad := ad) (G := G) hc6) g_LR_167 hd_Mail_dropBetween ⟨rfl, rfl⟩ ⟨Nat.le_of_ble_eq_true rfl, Nat.le_of_ble_eq_true rfl⟩ wl_blind (va_recv hK hP rfl (wl_to (Mail_lt) (Mail_at))) (wl_pre hP hK hA) rfl hl.1 rfl (Nat.le_of_ble_eq_true rfl) d_LR_cutOff_6 (Nat.zero_le _) (Nat.zero_le _)) hS (fun _ h => h) (fun H locs hP _ _ hS => ?_)
  refine lv_aload_n hx hb d_LR_cutOff_9 rfl (lv_at hl 0 rfl) ?_
  refine va_get (D := D) (ci := 0) (v := .ref (ad 7)) (C := R_LR) (T := F_LR) (N := 6) hx hb hts in_LR hown hK hP 0 (wl_to (LR_lt) (LR_at)) rfl 3 (by decide) (hts _ fl_LR_40) (fun _ h => h) rfl d_LR_cutOff_10 ?_
  refine lv_iload_n hx hb d_LR_cutOff_13 rfl (lv_at hl 1 rfl) ?_
  obtain ⟨j14, hj14, hf⟩ := ob hf
  refine k_aald hx hb hK hP 7 2 (RA_lt) (RA_at) rfl hj14 rfl d_LR_cutOff_14 ?_
  refine lv_iload_n hx hb d_LR_cutOff_15 rfl (lv_at hl 2 rfl) ?_
  obtain ⟨r16, hc16, hf⟩ := ob hf
  refine k_wrv (k_vir S (c_Router_forget (l := l) (D := D) (n := n) (ad := ad) (G := G) (ix_lt hj14) hc16) g_LR_170 hd_Router_forget ⟨rfl, rfl⟩ ⟨Nat.le_of_ble_eq_true rfl, Nat.le_of_ble_eq_true rfl⟩ wl_blind (va_recv hK hP rfl (wl_to (RT_lt (ix_lt hj14)) (RT_at (ix_lt hj14)))) (wl_pre hP hK hA) rfl hl.1 rfl (Nat.le_of_ble_eq_true rfl) d_LR_cutOff_16 (Nat.zero_le _) (Nat.zero_le _)) hS (fun _ h => h) (fun H locs hP _ _ hS => ?_)
  refine lv_aload_n hx hb d_LR_cutOff_19 rfl (lv_at hl 0 rfl) ?_
  refine va_get (D := D) (ci := 0) (v := .ref (ad 7)) (C := R_LR) (T := F_LR) (N := 6) hx hb hts in_LR hown hK hP 0 (wl_to (LR_lt) (LR_at)) rfl 3 (by decide) (hts _ fl_LR_40) (fun _ h => h) rfl d_LR_cutOff_20 ?_
  refine lv_iload_n hx hb d_LR_cutOff_23 rfl (lv_at hl 2 rfl) ?_
  obtain ⟨j24, hj24, hf⟩ := ob hf
  refine k_aald hx hb hK hP 7 2 (RA_lt) (RA_at) rfl hj24 rfl d_LR_cutOff_24 ?_
  refine lv_iload_n hx hb d_LR_cutOff_25 rfl (lv_at hl 1 rfl) ?_
  obtain ⟨r26, hc26, hf⟩ := ob hf
  refine k_wrv (k_vir S (c_Router_forget (l := l) (D := D) (n := n) (ad := ad) (G := G) (ix_lt hj24) hc26) g_LR_170 hd_Router_forget ⟨rfl, rfl⟩ ⟨Nat.le_of_ble_eq_true rfl, Nat.le_of_ble_eq_true rfl⟩ wl_blind (va_recv hK hP rfl (wl_to (RT_lt (ix_lt hj24)) (RT_at (ix_lt hj24)))) (wl_pre hP hK hA) rfl hl.1 rfl (Nat.le_of_ble_eq_true rfl) d_LR_cutOff_26 (Nat.zero_le _) (Nat.zero_le _)) hS (fun _ h => h) (fun H locs hP _ _ hS => ?_)
  cases hf
  exact w_vret hx hb hr hlk hP hS d_LR_cutOff_29
def f_LR_tellLabels_2 (n : Nat) (a : Int32) (b : Int32) : Nat → Int32 → Mem → Option (Mem)
  | 0, _, _ => none
  | k2 + 1, v3_2, N2 =>
    if 4 ≤ v3_2 then (some N2) else ((ix a n).bind fun j12 => (f_Router_labelOf n j12 v3_2 N2).bind fun r14 => if r14 = 0 then (f_LR_tellLabels_2 n a b k2 (v3_2 + 1) N2) else ((f_Mail_post n 1 a b v3_2 r14 N2).bind fun r34 => f_LR_tellLabels_2 n a b k2 (v3_2 + 1) r34))
def f_LR_tellLabels (n : Nat) (a : Int32) (b : Int32) (M : Mem) : Option (Mem) :=
  f_LR_tellLabels_2 n a b 1000 0 M
abbrev rm_LR_tellLabels : Room := { frames := 1, cells := 0, slots := 0, locals := 25 }
set_option maxHeartbeats 4000000 in
set_option maxRecDepth 100000 in
theorem c_LR_tellLabels {l : Launch} {D : va_G} {n : Nat} {ad : Nat → Nat} {G : Nat → ClassId} {a : Int32} {b : Int32}  {M : Mem} {x : Mem} (hf : f_LR_tellLabels n a b M = some x) : Met l y_LR_tellLabels (wc y_LR_tellLabels b_LR_tellLabels 5 (none)) rm_LR_tellLabels (va_Pc [.ref (ad 0), .int a, .int b] (cB D n ad G M)) (wr_Q (none) D cls (cK n) ad (cE n ad G x)) 0 0 (wl_A (cK n) ad) := by
  refine k_met (by decide) (Nat.le_of_ble_eq_true rfl) ?_
  intro p e s m args below meth c S hr hlk hB ls hl
  obtain ⟨hx, hb, hml, hown, hts⟩ := id S
  obtain ⟨hP, hK, hA0⟩ := hB
  have hA := wl_own hA0
  have hl : lv_has ls 5 [(0, .ref (ad 0)), (1, .int a), (2, .int b)] := hl
  have hS : va_S (wl_A (cK n) ad) s.heap s.heap [] := va_S.rf
  unfold f_LR_tellLabels at hf
  refine lv_iconst (v := 0) hx hb d_LR_tellLabels_0 (by decide) ?_
  refine lv_istore_n (lv' := [(3, .int 0), (0, .ref (ad 0)), (1, .int a), (2, .int b)]) hx hb d_LR_tellLabels_1 rfl hl (by decide) rfl (fun ls hl => ?_)
  have L2 : ∀ (k2 : Nat) (v3_2 : Int32) (N2 : Mem) (H : Heap) (locs : List Loc) (ls : Array Slot), lv_has ls 5 [(3, .int v3_2), (0, .ref (ad 0)), (1, .int a), (2, .int b)] → va_P D cls (cW n ad G N2) H → va_S (wl_A (cK n) ad) s.heap H locs → f_LR_tellLabels_2 n a b k2 v3_2 N2 = some x → W p l e rm_LR_tellLabels s m args below meth c H locs 0 0 (MQ below (wr_Q (none) D cls (cK n) ad (cE n ad G x)) args s 0 0 (wl_A (cK n) ad)) (F0 m 2 ls []) := by
    intro k2
    induction k2 with
    | zero =>
      intro v3_2 N2 H locs ls hl hP hS hf
      simp [f_LR_tellLabels_2] at hf
    | succ k2 ih2 =>
      intro v3_2 N2 H locs ls hl hP hS hf
      rw [f_LR_tellLabels_2] at hf
      refine lv_iload_n hx hb d_LR_tellLabels_2 rfl (lv_at hl 0 rfl) ?_
      refine lv_iconst (v := 4) hx hb d_LR_tellLabels_3 (by decide) ?_
      refine lv_icmp_ge (tgt := 43) hx hb d_LR_tellLabels_4 (by decide) (fun h4 => ?_) (fun h4 => ?_)
      · rw [if_pos h4] at hf
        cases hf
        exact w_vret hx hb hr hlk hP hS d_LR_tellLabels_43
      · rw [if_neg h4] at hf
        refine lv_aload_n hx hb d_LR_tellLabels_7 rfl (lv_at hl 1 rfl) ?_
        refine va_get (D := D) (ci := 0) (v := .ref (ad 7)) (C := R_LR) (T := F_LR) (N := 6) hx hb hts in_LR hown hK hP 0 (wl_to (LR_lt) (LR_at)) rfl 3 (by decide) (hts _ fl_LR_40) (fun _ h => h) rfl d_LR_tellLabels_8 ?_
        refine lv_iload_n hx hb d_LR_tellLabels_11 rfl (lv_at hl 2 rfl) ?_
        obtain ⟨j12, hj12, hf⟩ := ob hf
        refine k_aald hx hb hK hP 7 2 (RA_lt) (RA_at) rfl hj12 rfl d_LR_tellLabels_12 ?_
        refine lv_iload_n hx hb d_LR_tellLabels_13 rfl (lv_at hl 0 rfl) ?_
        obtain ⟨r14, hc14, hf⟩ := ob hf
        refine k_rdi (k_vir S (c_Router_labelOf (l := l) (D := D) (n := n) (ad := ad) (G := G) (ix_lt hj12) hc14) g_LR_125 hd_Router_labelOf ⟨rfl, rfl⟩ ⟨Nat.le_of_ble_eq_true rfl, Nat.le_of_ble_eq_true rfl⟩ wl_blind (va_recv hK hP rfl (wl_to (RT_lt (ix_lt hj12)) (RT_at (ix_lt hj12)))) (wl_pre hP hK hA) rfl hl.1 rfl (Nat.le_of_ble_eq_true rfl) d_LR_tellLabels_14 (Nat.zero_le _) (Nat.zero_le _)) ?_
        refine lv_istore (lv' := [(4, .int r14), (3, .int v3_2), (0, .ref (ad 0)), (1, .int a), (2, .int b)]) hx hb d_LR_tellLabels_17 hl (by decide) rfl (fun ls hl => ?_)
        refine lv_iload hx hb d_LR_tellLabels_19 (lv_at hl 0 rfl) ?_
        refine lv_if_eq (tgt := 37) hx hb d_LR_tellLabels_21 (by decide) (fun h21 => ?_) (fun h21 => ?_)
        · rw [if_pos h21] at hf
          refine lv_iinc (v := (v3_2 + 1)) (lv' := [(3, .int (v3_2 + 1)), (4, .int r14), (0, .ref (ad 0)), (1, .int a), (2, .int b)]) hx hb d_LR_tellLabels_37 hl (k := 1) rfl rfl (by decide) rfl (fun ls hl => ?_)
          refine lv_goto (tgt := 2) hx hb d_LR_tellLabels_40 (by decide) ?_
          exact ih2 _ _ _ _ _ (lv_sub hl [0, 2, 3, 4] rfl) hP hS hf
        · rw [if_neg h21] at hf
          refine lv_aload_n hx hb d_LR_tellLabels_24 rfl (lv_at hl 2 rfl) ?_
          refine va_get (D := D) (ci := 0) (v := .ref (ad 5)) (C := R_LR) (T := F_LR) (N := 6) hx hb hts in_LR hown hK hP 0 (wl_to (LR_lt) (LR_at)) rfl 2 (by decide) (hts _ fl_LR_34) (fun _ h => h) rfl d_LR_tellLabels_25 ?_
          refine lv_iconst (v := 1) hx hb d_LR_tellLabels_28 (by decide) ?_
          refine lv_iload_n hx hb d_LR_tellLabels_29 rfl (lv_at hl 3 rfl) ?_
          refine lv_iload_n hx hb d_LR_tellLabels_30 rfl (lv_at hl 4 rfl) ?_
          refine lv_iload_n hx hb d_LR_tellLabels_31 rfl (lv_at hl 1 rfl) ?_
          refine lv_iload hx hb d_LR_tellLabels_32 (lv_at hl 0 rfl) ?_
          obtain ⟨r34, hc34, hf⟩ := ob hf
          refine k_wrv (k_vir S (c_Mail_post (l := l) (D := D) (n := n) (ad := ad) (G := G) hc34) g_LR_173 hd_Mail_post ⟨rfl, rfl⟩ ⟨Nat.le_of_ble_eq_true rfl, Nat.le_of_ble_eq_true rfl⟩ wl_blind (va_recv hK hP rfl (wl_to (Mail_lt) (Mail_at))) (wl_pre hP hK hA) rfl hl.1 rfl (Nat.le_of_ble_eq_true rfl) d_LR_tellLabels_34 (Nat.zero_le _) (Nat.zero_le _)) hS (fun _ h => h) (fun H locs hP _ _ hS => ?_)
          refine lv_iinc (v := (v3_2 + 1)) (lv' := [(3, .int (v3_2 + 1)), (4, .int r14), (0, .ref (ad 0)), (1, .int a), (2, .int b)]) hx hb d_LR_tellLabels_37 hl (k := 1) rfl rfl (by decide) rfl (fun ls hl => ?_)
          refine lv_goto (tgt := 2) hx hb d_LR_tellLabels_40 (by decide) ?_
          exact ih2 _ _ _ _ _ (lv_sub hl [0, 2, 3, 4] rfl) hP hS hf
  exact L2 _ _ _ _ _ _ (lv_sub hl [0, 1, 2, 3] rfl) hP hS hf
def f_LR_isReady (n : Nat) (a : Int32) (b : Int32) (M : Mem) : Option (Int32) :=
  (f_Ways_owns n a b M).bind fun r6 => if r6 = 0 then ((f_Ways_nextOf n a b M).bind fun r20 => if r20 = (-1) then (some 0) else ((ix a n).bind fun j34 => (f_Router_toldBy n j34 r20 b M).bind fun r37 => if r37 = 0 then (some 0) else (some 1))) else (some 1)
abbrev rm_LR_isReady : Room := { frames := 2, cells := 0, slots := 0, locals := 46 }
set_option maxHeartbeats 4000000 in
set_option maxRecDepth 100000 in
theorem c_LR_isReady {l : Launch} {D : va_G} {n : Nat} {ad : Nat → Nat} {G : Nat → ClassId} {a : Int32} {b : Int32}  {M : Mem} {x : Int32} (hf : f_LR_isReady n a b M = some x) : Met l y_LR_isReady (wc y_LR_isReady b_LR_isReady 4 (some .boolean)) rm_LR_isReady (va_Pc [.ref (ad 0), .int a, .int b] (cB D n ad G M)) (rd_Q (some (.int x))) 0 0 (fun _ => False) := by
  refine k_met (by decide) (Nat.le_of_ble_eq_true rfl) ?_
  intro p e s m args below meth c S hr hlk hB ls hl
  obtain ⟨hx, hb, hml, hown, hts⟩ := id S
  obtain ⟨hP, hK, hA0⟩ := hB
  have hA := wl_own hA0
  have hl : lv_has ls 4 [(0, .ref (ad 0)), (1, .int a), (2, .int b)] := hl
  unfold f_LR_isReady at hf
  refine lv_aload_n hx hb d_LR_isReady_0 rfl (lv_at hl 0 rfl) ?_
  refine va_get (D := D) (ci := 0) (v := .ref (ad 1)) (C := R_LR) (T := F_LR) (N := 6) hx hb hts in_LR hown hK hP 0 (wl_to (LR_lt) (LR_at)) rfl 1 (by decide) (hts _ fl_LR_27) (fun _ h => h) rfl d_LR_isReady_1 ?_
  refine lv_iload_n hx hb d_LR_isReady_4 rfl (lv_at hl 1 rfl) ?_
  refine lv_iload_n hx hb d_LR_isReady_5 rfl (lv_at hl 2 rfl) ?_
  obtain ⟨r6, hc6, hf⟩ := ob hf
  refine k_rdi (k_vir S (c_Ways_owns (l := l) (D := D) (n := n) (ad := ad) (G := G) hc6) g_LR_193 hd_Ways_owns ⟨rfl, rfl⟩ ⟨Nat.le_of_ble_eq_true rfl, Nat.le_of_ble_eq_true rfl⟩ wl_blind (va_recv hK hP rfl (wl_to (Ways_lt) (Ways_at))) (wl_pre hP hK hA) rfl hl.1 rfl (Nat.le_of_ble_eq_true rfl) d_LR_isReady_6 (Nat.zero_le _) (Nat.zero_le _)) ?_
  refine lv_if_eq (tgt := 14) hx hb d_LR_isReady_9 (by decide) (fun h9 => ?_) (fun h9 => ?_)
  · rw [if_pos h9] at hf
    refine lv_aload_n hx hb d_LR_isReady_14 rfl (lv_at hl 0 rfl) ?_
    refine va_get (D := D) (ci := 0) (v := .ref (ad 1)) (C := R_LR) (T := F_LR) (N := 6) hx hb hts in_LR hown hK hP 0 (wl_to (LR_lt) (LR_at)) rfl 1 (by decide) (hts _ fl_LR_27) (fun _ h => h) rfl d_LR_isReady_15 ?_
    refine lv_iload_n hx hb d_LR_isReady_18 rfl (lv_at hl 1 rfl) ?_
    refine lv_iload_n hx hb d_LR_isReady_19 rfl (lv_at hl 2 rfl) ?_
    obtain ⟨r20, hc20, hf⟩ := ob hf
    refine k_rdi (k_vir S (c_Ways_nextOf (l := l) (D := D) (n := n) (ad := ad) (G := G) hc20) g_LR_122 hd_Ways_nextOf ⟨rfl, rfl⟩ ⟨Nat.le_of_ble_eq_true rfl, Nat.le_of_ble_eq_true rfl⟩ wl_blind (va_recv hK hP rfl (wl_to (Ways_lt) (Ways_at))) (wl_pre hP hK hA) rfl hl.1 rfl (Nat.le_of_ble_eq_true rfl) d_LR_isReady_20 (Nat.zero_le _) (Nat.zero_le _)) ?_
    refine lv_istore_n (lv' := [(3, .int r20), (0, .ref (ad 0)), (1, .int a), (2, .int b)]) hx hb d_LR_isReady_23 rfl hl (by decide) rfl (fun ls hl => ?_)
    refine lv_iload_n hx hb d_LR_isReady_24 rfl (lv_at hl 0 rfl) ?_
    refine lv_iconst (v := (-1)) hx hb d_LR_isReady_25 (by decide) ?_
    refine lv_icmp_eq (tgt := 47) hx hb d_LR_isReady_26 (by decide) (fun h26 => ?_) (fun h26 => ?_)
    · rw [if_pos h26] at hf
      refine lv_iconst (v := 0) hx hb d_LR_isReady_47 (by decide) ?_
      cases hf
      exact r_zret hx hb hr hlk (by decide) d_LR_isReady_48
    · rw [if_neg h26] at hf
      refine lv_aload_n hx hb d_LR_isReady_29 rfl (lv_at hl 1 rfl) ?_
      refine va_get (D := D) (ci := 0) (v := .ref (ad 7)) (C := R_LR) (T := F_LR) (N := 6) hx hb hts in_LR hown hK hP 0 (wl_to (LR_lt) (LR_at)) rfl 3 (by decide) (hts _ fl_LR_40) (fun _ h => h) rfl d_LR_isReady_30 ?_
      refine lv_iload_n hx hb d_LR_isReady_33 rfl (lv_at hl 2 rfl) ?_
      obtain ⟨j34, hj34, hf⟩ := ob hf
      refine k_aald hx hb hK hP 7 2 (RA_lt) (RA_at) rfl hj34 rfl d_LR_isReady_34 ?_
      refine lv_iload_n hx hb d_LR_isReady_35 rfl (lv_at hl 0 rfl) ?_
      refine lv_iload_n hx hb d_LR_isReady_36 rfl (lv_at hl 3 rfl) ?_
      obtain ⟨r37, hc37, hf⟩ := ob hf
      refine k_rdi (k_vir S (c_Router_toldBy (l := l) (D := D) (n := n) (ad := ad) (G := G) (ix_lt hj34) hc37) g_LR_128 hd_Router_toldBy ⟨rfl, rfl⟩ ⟨Nat.le_of_ble_eq_true rfl, Nat.le_of_ble_eq_true rfl⟩ wl_blind (va_recv hK hP rfl (wl_to (RT_lt (ix_lt hj34)) (RT_at (ix_lt hj34)))) (wl_pre hP hK hA) rfl hl.1 rfl (Nat.le_of_ble_eq_true rfl) d_LR_isReady_37 (Nat.zero_le _) (Nat.zero_le _)) ?_
      refine lv_if_eq (tgt := 47) hx hb d_LR_isReady_40 (by decide) (fun h40 => ?_) (fun h40 => ?_)
      · rw [if_pos h40] at hf
        refine lv_iconst (v := 0) hx hb d_LR_isReady_47 (by decide) ?_
        cases hf
        exact r_zret hx hb hr hlk (by decide) d_LR_isReady_48
      · rw [if_neg h40] at hf
        refine lv_iconst (v := 1) hx hb d_LR_isReady_43 (by decide) ?_
        refine lv_goto (tgt := 48) hx hb d_LR_isReady_44 (by decide) ?_
        cases hf
        exact r_zret hx hb hr hlk (by decide) d_LR_isReady_48
  · rw [if_neg h9] at hf
    refine lv_iconst (v := 1) hx hb d_LR_isReady_12 (by decide) ?_
    cases hf
    exact r_zret hx hb hr hlk (by decide) d_LR_isReady_13
def f_LR_giveLabel_29 (n : Nat) (a : Int32) (b : Int32) (r6 : Int32) : Nat → Int32 → Mem → Option (Mem)
  | 0, _, _ => none
  | k29 + 1, v4_29, N29 =>
    if (nI n) ≤ v4_29 then (some N29) else ((f_Ways_areLinked n a v4_29 N29).bind fun r45 => if r45 = 0 then (f_LR_giveLabel_29 n a b r6 k29 (v4_29 + 1) N29) else ((f_Mail_post n 1 a v4_29 b r6 N29).bind fun r61 => f_LR_giveLabel_29 n a b r6 k29 (v4_29 + 1) r61))
def f_LR_giveLabel (n : Nat) (a : Int32) (b : Int32) (M : Mem) : Option (Mem) :=
  (ix a n).bind fun j5 => (f_Router_leastFree n j5 M).bind fun r6 => if r6 = 0 then (some M) else ((ix a n).bind fun j20 => (f_Router_setLabel n j20 b r6 M).bind fun r23 => f_LR_giveLabel_29 n a b r6 1000 0 r23)
abbrev rm_LR_giveLabel : Room := { frames := 2, cells := 0, slots := 0, locals := 44 }
set_option maxHeartbeats 4000000 in
set_option maxRecDepth 100000 in
theorem c_LR_giveLabel {l : Launch} {D : va_G} {n : Nat} {ad : Nat → Nat} {G : Nat → ClassId} {a : Int32} {b : Int32}  {M : Mem} {x : Mem} (hf : f_LR_giveLabel n a b M = some x) : Met l y_LR_giveLabel (wc y_LR_giveLabel b_LR_giveLabel 5 (none)) rm_LR_giveLabel (va_Pc [.ref (ad 0), .int a, .int b] (cB D n ad G M)) (wr_Q (none) D cls (cK n) ad (cE n ad G x)) 0 0 (wl_A (cK n) ad) := by
  refine k_met (by decide) (Nat.le_of_ble_eq_true rfl) ?_
  intro p e s m args below meth c S hr hlk hB ls hl
  obtain ⟨hx, hb, hml, hown, hts⟩ := id S
  obtain ⟨hP, hK, hA0⟩ := hB
  have hA := wl_own hA0
  have hl : lv_has ls 5 [(0, .ref (ad 0)), (1, .int a), (2, .int b)] := hl
  have hS : va_S (wl_A (cK n) ad) s.heap s.heap [] := va_S.rf
  unfold f_LR_giveLabel at hf
  refine lv_aload_n hx hb d_LR_giveLabel_0 rfl (lv_at hl 0 rfl) ?_
  refine va_get (D := D) (ci := 0) (v := .ref (ad 7)) (C := R_LR) (T := F_LR) (N := 6) hx hb hts in_LR hown hK hP 0 (wl_to (LR_lt) (LR_at)) rfl 3 (by decide) (hts _ fl_LR_40) (fun _ h => h) rfl d_LR_giveLabel_1 ?_
  refine lv_iload_n hx hb d_LR_giveLabel_4 rfl (lv_at hl 1 rfl) ?_
  obtain ⟨j5, hj5, hf⟩ := ob hf
  refine k_aald hx hb hK hP 7 2 (RA_lt) (RA_at) rfl hj5 rfl d_LR_giveLabel_5 ?_
  obtain ⟨r6, hc6, hf⟩ := ob hf
  refine k_rdi (k_vir S (c_Router_leastFree (l := l) (D := D) (n := n) (ad := ad) (G := G) (ix_lt hj5) hc6) g_LR_196 hd_Router_leastFree ⟨rfl, rfl⟩ ⟨Nat.le_of_ble_eq_true rfl, Nat.le_of_ble_eq_true rfl⟩ wl_blind (va_recv hK hP rfl (wl_to (RT_lt (ix_lt hj5)) (RT_at (ix_lt hj5)))) (wl_pre hP hK hA) rfl hl.1 rfl (Nat.le_of_ble_eq_true rfl) d_LR_giveLabel_6 (Nat.zero_le _) (Nat.zero_le _)) ?_
  refine lv_istore_n (lv' := [(3, .int r6), (0, .ref (ad 0)), (1, .int a), (2, .int b)]) hx hb d_LR_giveLabel_9 rfl hl (by decide) rfl (fun ls hl => ?_)
  refine lv_iload_n hx hb d_LR_giveLabel_10 rfl (lv_at hl 0 rfl) ?_
  refine lv_if_ne (tgt := 15) hx hb d_LR_giveLabel_11 (by decide) (fun h11 => ?_) (fun h11 => ?_)
  · rw [if_neg h11] at hf
    refine lv_aload_n hx hb d_LR_giveLabel_15 rfl (lv_at hl 1 rfl) ?_
    refine va_get (D := D) (ci := 0) (v := .ref (ad 7)) (C := R_LR) (T := F_LR) (N := 6) hx hb hts in_LR hown hK hP 0 (wl_to (LR_lt) (LR_at)) rfl 3 (by decide) (hts _ fl_LR_40) (fun _ h => h) rfl d_LR_giveLabel_16 ?_
    refine lv_iload_n hx hb d_LR_giveLabel_19 rfl (lv_at hl 2 rfl) ?_
    obtain ⟨j20, hj20, hf⟩ := ob hf
    refine k_aald hx hb hK hP 7 2 (RA_lt) (RA_at) rfl hj20 rfl d_LR_giveLabel_20 ?_
    refine lv_iload_n hx hb d_LR_giveLabel_21 rfl (lv_at hl 3 rfl) ?_
    refine lv_iload_n hx hb d_LR_giveLabel_22 rfl (lv_at hl 0 rfl) ?_
    obtain ⟨r23, hc23, hf⟩ := ob hf
    refine k_wrv (k_vir S (c_Router_setLabel (l := l) (D := D) (n := n) (ad := ad) (G := G) (ix_lt hj20) hc23) g_LR_199 hd_Router_setLabel ⟨rfl, rfl⟩ ⟨Nat.le_of_ble_eq_true rfl, Nat.le_of_ble_eq_true rfl⟩ wl_blind (va_recv hK hP rfl (wl_to (RT_lt (ix_lt hj20)) (RT_at (ix_lt hj20)))) (wl_pre hP hK hA) rfl hl.1 rfl (Nat.le_of_ble_eq_true rfl) d_LR_giveLabel_23 (Nat.zero_le _) (Nat.zero_le _)) hS (fun _ h => h) (fun H locs hP _ _ hS => ?_)
    refine lv_iconst (v := 0) hx hb d_LR_giveLabel_26 (by decide) ?_
    refine lv_istore (lv' := [(4, .int 0), (3, .int r6), (0, .ref (ad 0)), (1, .int a), (2, .int b)]) hx hb d_LR_giveLabel_27 hl (by decide) rfl (fun ls hl => ?_)
    have L29 : ∀ (k29 : Nat) (v4_29 : Int32) (N29 : Mem) (H : Heap) (locs : List Loc) (ls : Array Slot), lv_has ls 5 [(4, .int v4_29), (3, .int r6), (0, .ref (ad 0)), (1, .int a), (2, .int b)] → va_P D cls (cW n ad G N29) H → va_S (wl_A (cK n) ad) s.heap H locs → f_LR_giveLabel_29 n a b r6 k29 v4_29 N29 = some x → W p l e rm_LR_giveLabel s m args below meth c H locs 0 0 (MQ below (wr_Q (none) D cls (cK n) ad (cE n ad G x)) args s 0 0 (wl_A (cK n) ad)) (F0 m 29 ls []) := by
      intro k29
      induction k29 with
      | zero =>
        intro v4_29 N29 H locs ls hl hP hS hf
        simp [f_LR_giveLabel_29] at hf
      | succ k29 ih29 =>
        intro v4_29 N29 H locs ls hl hP hS hf
        rw [f_LR_giveLabel_29] at hf
        refine lv_iload hx hb d_LR_giveLabel_29 (lv_at hl 0 rfl) ?_
        refine lv_aload_n hx hb d_LR_giveLabel_31 rfl (lv_at hl 2 rfl) ?_
        refine va_get (D := D) (ci := 0) (v := .int (nI n)) (C := R_LR) (T := F_LR) (N := 6) hx hb hts in_LR hown hK hP 0 (wl_to (LR_lt) (LR_at)) rfl 0 (by decide) (hts _ fl_LR_18) (fun _ h => h) rfl d_LR_giveLabel_32 ?_
        refine lv_icmp_ge (tgt := 70) hx hb d_LR_giveLabel_35 (by decide) (fun h35 => ?_) (fun h35 => ?_)
        · rw [if_pos h35] at hf
          cases hf
          exact w_vret hx hb hr hlk hP hS d_LR_giveLabel_70
        · rw [if_neg h35] at hf
          refine lv_aload_n hx hb d_LR_giveLabel_38 rfl (lv_at hl 2 rfl) ?_
          refine va_get (D := D) (ci := 0) (v := .ref (ad 1)) (C := R_LR) (T := F_LR) (N := 6) hx hb hts in_LR hown hK hP 0 (wl_to (LR_lt) (LR_at)) rfl 1 (by decide) (hts _ fl_LR_27) (fun _ h => h) rfl d_LR_giveLabel_39 ?_
          refine lv_iload_n hx hb d_LR_giveLabel_42 rfl (lv_at hl 3 rfl) ?_
          refine lv_iload hx hb d_LR_giveLabel_43 (lv_at hl 0 rfl) ?_
          obtain ⟨r45, hc45, hf⟩ := ob hf
          refine k_rdi (k_vir S (c_Ways_areLinked (l := l) (D := D) (n := n) (ad := ad) (G := G) hc45) g_LR_202 hd_Ways_areLinked ⟨rfl, rfl⟩ ⟨Nat.le_of_ble_eq_true rfl, Nat.le_of_ble_eq_true rfl⟩ wl_blind (va_recv hK hP rfl (wl_to (Ways_lt) (Ways_at))) (wl_pre hP hK hA) rfl hl.1 rfl (Nat.le_of_ble_eq_true rfl) d_LR_giveLabel_45 (Nat.zero_le _) (Nat.zero_le _)) ?_
          refine lv_if_eq (tgt := 64) hx hb d_LR_giveLabel_48 (by decide) (fun h48 => ?_) (fun h48 => ?_)
          · rw [if_pos h48] at hf
            refine lv_iinc (v := (v4_29 + 1)) (lv' := [(4, .int (v4_29 + 1)), (3, .int r6), (0, .ref (ad 0)), (1, .int a), (2, .int b)]) hx hb d_LR_giveLabel_64 hl (k := 0) rfl rfl (by decide) rfl (fun ls hl => ?_)
            refine lv_goto (tgt := 29) hx hb d_LR_giveLabel_67 (by decide) ?_
            exact ih29 _ _ _ _ _ (lv_sub hl [0, 1, 2, 3, 4] rfl) hP hS hf
          · rw [if_neg h48] at hf
            refine lv_aload_n hx hb d_LR_giveLabel_51 rfl (lv_at hl 2 rfl) ?_
            refine va_get (D := D) (ci := 0) (v := .ref (ad 5)) (C := R_LR) (T := F_LR) (N := 6) hx hb hts in_LR hown hK hP 0 (wl_to (LR_lt) (LR_at)) rfl 2 (by decide) (hts _ fl_LR_34) (fun _ h => h) rfl d_LR_giveLabel_52 ?_
            refine lv_iconst (v := 1) hx hb d_LR_giveLabel_55 (by decide) ?_
            refine lv_iload_n hx hb d_LR_giveLabel_56 rfl (lv_at hl 3 rfl) ?_
            refine lv_iload hx hb d_LR_giveLabel_57 (lv_at hl 0 rfl) ?_
            refine lv_iload_n hx hb d_LR_giveLabel_59 rfl (lv_at hl 4 rfl) ?_
            refine lv_iload_n hx hb d_LR_giveLabel_60 rfl (lv_at hl 1 rfl) ?_
            obtain ⟨r61, hc61, hf⟩ := ob hf
            refine k_wrv (k_vir S (c_Mail_post (l := l) (D := D) (n := n) (ad := ad) (G := G) hc61) g_LR_173 hd_Mail_post ⟨rfl, rfl⟩ ⟨Nat.le_of_ble_eq_true rfl, Nat.le_of_ble_eq_true rfl⟩ wl_blind (va_recv hK hP rfl (wl_to (Mail_lt) (Mail_at))) (wl_pre hP hK hA) rfl hl.1 rfl (Nat.le_of_ble_eq_true rfl) d_LR_giveLabel_61 (Nat.zero_le _) (Nat.zero_le _)) hS (fun _ h => h) (fun H locs hP _ _ hS => ?_)
            refine lv_iinc (v := (v4_29 + 1)) (lv' := [(4, .int (v4_29 + 1)), (3, .int r6), (0, .ref (ad 0)), (1, .int a), (2, .int b)]) hx hb d_LR_giveLabel_64 hl (k := 0) rfl rfl (by decide) rfl (fun ls hl => ?_)
            refine lv_goto (tgt := 29) hx hb d_LR_giveLabel_67 (by decide) ?_
            exact ih29 _ _ _ _ _ (lv_sub hl [0, 1, 2, 3, 4] rfl) hP hS hf
    exact L29 _ _ _ _ _ _ (lv_sub hl [0, 1, 2, 3, 4] rfl) hP hS hf
  · rw [if_pos h11] at hf
    cases hf
    exact w_vret hx hb hr hlk hP hS d_LR_giveLabel_14
def f_LR_withdrawLabel_14 (n : Nat) (a : Int32) (b : Int32) (r7 : Int32) : Nat → Int32 → Mem → Option (Mem)
  | 0, _, _ => none
  | k14 + 1, v4_14, N14 =>
    if (nI n) ≤ v4_14 then ((ix a n).bind fun j72 => (f_Router_setLabel n j72 b 0 N14).bind fun r75 => some r75) else ((f_Ways_areLinked n a v4_14 N14).bind fun r30 => if r30 = 0 then (f_LR_withdrawLabel_14 n a b r7 k14 (v4_14 + 1) N14) else ((f_Mail_post n 2 a v4_14 b r7 N14).bind fun r46 => (ix a n).bind fun j54 => (f_Router_awaitRelease n j54 r7 v4_14 r46).bind fun r58 => f_LR_withdrawLabel_14 n a b r7 k14 (v4_14 + 1) r58))
def f_LR_withdrawLabel (n : Nat) (a : Int32) (b : Int32) (M : Mem) : Option (Mem) :=
  (ix a n).bind fun j5 => (f_Router_labelOf n j5 b M).bind fun r7 => f_LR_withdrawLabel_14 n a b r7 1000 0 M
abbrev rm_LR_withdrawLabel : Room := { frames := 1, cells := 0, slots := 0, locals := 25 }
set_option maxHeartbeats 4000000 in
set_option maxRecDepth 100000 in
theorem c_LR_withdrawLabel {l : Launch} {D : va_G} {n : Nat} {ad : Nat → Nat} {G : Nat → ClassId} {a : Int32} {b : Int32}  {M : Mem} {x : Mem} (hf : f_LR_withdrawLabel n a b M = some x) : Met l y_LR_withdrawLabel (wc y_LR_withdrawLabel b_LR_withdrawLabel 5 (none)) rm_LR_withdrawLabel (va_Pc [.ref (ad 0), .int a, .int b] (cB D n ad G M)) (wr_Q (none) D cls (cK n) ad (cE n ad G x)) 0 0 (wl_A (cK n) ad) := by
  refine k_met (by decide) (Nat.le_of_ble_eq_true rfl) ?_
  intro p e s m args below meth c S hr hlk hB ls hl
  obtain ⟨hx, hb, hml, hown, hts⟩ := id S
  obtain ⟨hP, hK, hA0⟩ := hB
  have hA := wl_own hA0
  have hl : lv_has ls 5 [(0, .ref (ad 0)), (1, .int a), (2, .int b)] := hl
  have hS : va_S (wl_A (cK n) ad) s.heap s.heap [] := va_S.rf
  unfold f_LR_withdrawLabel at hf
  refine lv_aload_n hx hb d_LR_withdrawLabel_0 rfl (lv_at hl 0 rfl) ?_
  refine va_get (D := D) (ci := 0) (v := .ref (ad 7)) (C := R_LR) (T := F_LR) (N := 6) hx hb hts in_LR hown hK hP 0 (wl_to (LR_lt) (LR_at)) rfl 3 (by decide) (hts _ fl_LR_40) (fun _ h => h) rfl d_LR_withdrawLabel_1 ?_
  refine lv_iload_n hx hb d_LR_withdrawLabel_4 rfl (lv_at hl 1 rfl) ?_
  obtain ⟨j5, hj5, hf⟩ := ob hf
  refine k_aald hx hb hK hP 7 2 (RA_lt) (RA_at) rfl hj5 rfl d_LR_withdrawLabel_5 ?_
  refine lv_iload_n hx hb d_LR_withdrawLabel_6 rfl (lv_at hl 2 rfl) ?_
  obtain ⟨r7, hc7, hf⟩ := ob hf
  refine k_rdi (k_vir S (c_Router_labelOf (l := l) (D := D) (n := n) (ad := ad) (G := G) (ix_lt hj5) hc7) g_LR_125 hd_Router_labelOf ⟨rfl, rfl⟩ ⟨Nat.le_of_ble_eq_true rfl, Nat.le_of_ble_eq_true rfl⟩ wl_blind (va_recv hK hP rfl (wl_to (RT_lt (ix_lt hj5)) (RT_at (ix_lt hj5)))) (wl_pre hP hK hA) rfl hl.1 rfl (Nat.le_of_ble_eq_true rfl) d_LR_withdrawLabel_7 (Nat.zero_le _) (Nat.zero_le _)) ?_
  refine lv_istore_n (lv' := [(3, .int r7), (0, .ref (ad 0)), (1, .int a), (2, .int b)]) hx hb d_LR_withdrawLabel_10 rfl hl (by decide) rfl (fun ls hl => ?_)
  refine lv_iconst (v := 0) hx hb d_LR_withdrawLabel_11 (by decide) ?_
  refine lv_istore (lv' := [(4, .int 0), (3, .int r7), (0, .ref (ad 0)), (1, .int a), (2, .int b)]) hx hb d_LR_withdrawLabel_12 hl (by decide) rfl (fun ls hl => ?_)
  have L14 : ∀ (k14 : Nat) (v4_14 : Int32) (N14 : Mem) (H : Heap) (locs : List Loc) (ls : Array Slot), lv_has ls 5 [(4, .int v4_14), (3, .int r7), (0, .ref (ad 0)), (1, .int a), (2, .int b)] → va_P D cls (cW n ad G N14) H → va_S (wl_A (cK n) ad) s.heap H locs → f_LR_withdrawLabel_14 n a b r7 k14 v4_14 N14 = some x → W p l e rm_LR_withdrawLabel s m args below meth c H locs 0 0 (MQ below (wr_Q (none) D cls (cK n) ad (cE n ad G x)) args s 0 0 (wl_A (cK n) ad)) (F0 m 14 ls []) := by
    intro k14
    induction k14 with
    | zero =>
      intro v4_14 N14 H locs ls hl hP hS hf
      simp [f_LR_withdrawLabel_14] at hf
    | succ k14 ih14 =>
      intro v4_14 N14 H locs ls hl hP hS hf
      rw [f_LR_withdrawLabel_14] at hf
      refine lv_iload hx hb d_LR_withdrawLabel_14 (lv_at hl 0 rfl) ?_
      refine lv_aload_n hx hb d_LR_withdrawLabel_16 rfl (lv_at hl 2 rfl) ?_
      refine va_get (D := D) (ci := 0) (v := .int (nI n)) (C := R_LR) (T := F_LR) (N := 6) hx hb hts in_LR hown hK hP 0 (wl_to (LR_lt) (LR_at)) rfl 0 (by decide) (hts _ fl_LR_18) (fun _ h => h) rfl d_LR_withdrawLabel_17 ?_
      refine lv_icmp_ge (tgt := 67) hx hb d_LR_withdrawLabel_20 (by decide) (fun h20 => ?_) (fun h20 => ?_)
      · rw [if_pos h20] at hf
        refine lv_aload_n hx hb d_LR_withdrawLabel_67 rfl (lv_at hl 2 rfl) ?_
        refine va_get (D := D) (ci := 0) (v := .ref (ad 7)) (C := R_LR) (T := F_LR) (N := 6) hx hb hts in_LR hown hK hP 0 (wl_to (LR_lt) (LR_at)) rfl 3 (by decide) (hts _ fl_LR_40) (fun _ h => h) rfl d_LR_withdrawLabel_68 ?_
        refine lv_iload_n hx hb d_LR_withdrawLabel_71 rfl (lv_at hl 3 rfl) ?_
        obtain ⟨j72, hj72, hf⟩ := ob hf
        refine k_aald hx hb hK hP 7 2 (RA_lt) (RA_at) rfl hj72 rfl d_LR_withdrawLabel_72 ?_
        refine lv_iload_n hx hb d_LR_withdrawLabel_73 rfl (lv_at hl 4 rfl) ?_
        refine lv_iconst (v := 0) hx hb d_LR_withdrawLabel_74 (by decide) ?_
        obtain ⟨r75, hc75, hf⟩ := ob hf
        refine k_wrv (k_vir S (c_Router_setLabel (l := l) (D := D) (n := n) (ad := ad) (G := G) (ix_lt hj72) hc75) g_LR_199 hd_Router_setLabel ⟨rfl, rfl⟩ ⟨Nat.le_of_ble_eq_true rfl, Nat.le_of_ble_eq_true rfl⟩ wl_blind (va_recv hK hP rfl (wl_to (RT_lt (ix_lt hj72)) (RT_at (ix_lt hj72)))) (wl_pre hP hK hA) rfl hl.1 rfl (Nat.le_of_ble_eq_true rfl) d_LR_withdrawLabel_75 (Nat.zero_le _) (Nat.zero_le _)) hS (fun _ h => h) (fun H locs hP _ _ hS => ?_)
        cases hf
        exact w_vret hx hb hr hlk hP hS d_LR_withdrawLabel_78
      · rw [if_neg h20] at hf
        refine lv_aload_n hx hb d_LR_withdrawLabel_23 rfl (lv_at hl 2 rfl) ?_
        refine va_get (D := D) (ci := 0) (v := .ref (ad 1)) (C := R_LR) (T := F_LR) (N := 6) hx hb hts in_LR hown hK hP 0 (wl_to (LR_lt) (LR_at)) rfl 1 (by decide) (hts _ fl_LR_27) (fun _ h => h) rfl d_LR_withdrawLabel_24 ?_
        refine lv_iload_n hx hb d_LR_withdrawLabel_27 rfl (lv_at hl 3 rfl) ?_
        refine lv_iload hx hb d_LR_withdrawLabel_28 (lv_at hl 0 rfl) ?_
        obtain ⟨r30, hc30, hf⟩ := ob hf
        refine k_rdi (k_vir S (c_Ways_areLinked (l := l) (D := D) (n := n) (ad := ad) (G := G) hc30) g_LR_202 hd_Ways_areLinked ⟨rfl, rfl⟩ ⟨Nat.le_of_ble_eq_true rfl, Nat.le_of_ble_eq_true rfl⟩ wl_blind (va_recv hK hP rfl (wl_to (Ways_lt) (Ways_at))) (wl_pre hP hK hA) rfl hl.1 rfl (Nat.le_of_ble_eq_true rfl) d_LR_withdrawLabel_30 (Nat.zero_le _) (Nat.zero_le _)) ?_
        refine lv_if_eq (tgt := 61) hx hb d_LR_withdrawLabel_33 (by decide) (fun h33 => ?_) (fun h33 => ?_)
        · rw [if_pos h33] at hf
          refine lv_iinc (v := (v4_14 + 1)) (lv' := [(4, .int (v4_14 + 1)), (3, .int r7), (0, .ref (ad 0)), (1, .int a), (2, .int b)]) hx hb d_LR_withdrawLabel_61 hl (k := 0) rfl rfl (by decide) rfl (fun ls hl => ?_)
          refine lv_goto (tgt := 14) hx hb d_LR_withdrawLabel_64 (by decide) ?_
          exact ih14 _ _ _ _ _ (lv_sub hl [0, 1, 2, 3, 4] rfl) hP hS hf
        · rw [if_neg h33] at hf
          refine lv_aload_n hx hb d_LR_withdrawLabel_36 rfl (lv_at hl 2 rfl) ?_
          refine va_get (D := D) (ci := 0) (v := .ref (ad 5)) (C := R_LR) (T := F_LR) (N := 6) hx hb hts in_LR hown hK hP 0 (wl_to (LR_lt) (LR_at)) rfl 2 (by decide) (hts _ fl_LR_34) (fun _ h => h) rfl d_LR_withdrawLabel_37 ?_
          refine lv_iconst (v := 2) hx hb d_LR_withdrawLabel_40 (by decide) ?_
          refine lv_iload_n hx hb d_LR_withdrawLabel_41 rfl (lv_at hl 3 rfl) ?_
          refine lv_iload hx hb d_LR_withdrawLabel_42 (lv_at hl 0 rfl) ?_
          refine lv_iload_n hx hb d_LR_withdrawLabel_44 rfl (lv_at hl 4 rfl) ?_
          refine lv_iload_n hx hb d_LR_withdrawLabel_45 rfl (lv_at hl 1 rfl) ?_
          obtain ⟨r46, hc46, hf⟩ := ob hf
          refine k_wrv (k_vir S (c_Mail_post (l := l) (D := D) (n := n) (ad := ad) (G := G) hc46) g_LR_173 hd_Mail_post ⟨rfl, rfl⟩ ⟨Nat.le_of_ble_eq_true rfl, Nat.le_of_ble_eq_true rfl⟩ wl_blind (va_recv hK hP rfl (wl_to (Mail_lt) (Mail_at))) (wl_pre hP hK hA) rfl hl.1 rfl (Nat.le_of_ble_eq_true rfl) d_LR_withdrawLabel_46 (Nat.zero_le _) (Nat.zero_le _)) hS (fun _ h => h) (fun H locs hP _ _ hS => ?_)
          refine lv_aload_n hx hb d_LR_withdrawLabel_49 rfl (lv_at hl 2 rfl) ?_
          refine va_get (D := D) (ci := 0) (v := .ref (ad 7)) (C := R_LR) (T := F_LR) (N := 6) hx hb hts in_LR hown hK hP 0 (wl_to (LR_lt) (LR_at)) rfl 3 (by decide) (hts _ fl_LR_40) (fun _ h => h) rfl d_LR_withdrawLabel_50 ?_
          refine lv_iload_n hx hb d_LR_withdrawLabel_53 rfl (lv_at hl 3 rfl) ?_
          obtain ⟨j54, hj54, hf⟩ := ob hf
          refine k_aald hx hb hK hP 7 2 (RA_lt) (RA_at) rfl hj54 rfl d_LR_withdrawLabel_54 ?_
          refine lv_iload_n hx hb d_LR_withdrawLabel_55 rfl (lv_at hl 1 rfl) ?_
          refine lv_iload hx hb d_LR_withdrawLabel_56 (lv_at hl 0 rfl) ?_
          obtain ⟨r58, hc58, hf⟩ := ob hf
          refine k_wrv (k_vir S (c_Router_awaitRelease (l := l) (D := D) (n := n) (ad := ad) (G := G) (ix_lt hj54) hc58) g_LR_205 hd_Router_awaitRelease ⟨rfl, rfl⟩ ⟨Nat.le_of_ble_eq_true rfl, Nat.le_of_ble_eq_true rfl⟩ wl_blind (va_recv hK hP rfl (wl_to (RT_lt (ix_lt hj54)) (RT_at (ix_lt hj54)))) (wl_pre hP hK hA) rfl hl.1 rfl (Nat.le_of_ble_eq_true rfl) d_LR_withdrawLabel_58 (Nat.zero_le _) (Nat.zero_le _)) hS (fun _ h => h) (fun H locs hP _ _ hS => ?_)
          refine lv_iinc (v := (v4_14 + 1)) (lv' := [(4, .int (v4_14 + 1)), (3, .int r7), (0, .ref (ad 0)), (1, .int a), (2, .int b)]) hx hb d_LR_withdrawLabel_61 hl (k := 0) rfl rfl (by decide) rfl (fun ls hl => ?_)
          refine lv_goto (tgt := 14) hx hb d_LR_withdrawLabel_64 (by decide) ?_
          exact ih14 _ _ _ _ _ (lv_sub hl [0, 1, 2, 3, 4] rfl) hP hS hf
  exact L14 _ _ _ _ _ _ (lv_sub hl [0, 1, 2, 3, 4] rfl) hP hS hf
def f_LR_settle (n : Nat) (a : Int32) (b : Int32) (M : Mem) : Option (Mem) :=
  (f_LR_isReady n a b M).bind fun r3 => (ix a n).bind fun j12 => (f_Router_labelOf n j12 b M).bind fun r14 => if r14 = 0 then (if r3 = 0 then (if r3 = 0 then (some M) else (some M)) else ((f_LR_giveLabel n a b M).bind fun r39 => some r39)) else (if r3 = 0 then (if r3 = 0 then ((f_LR_withdrawLabel n a b M).bind fun r57 => some r57) else (some M)) else (if r3 = 0 then ((f_LR_withdrawLabel n a b M).bind fun r57 => some r57) else (some M)))
abbrev rm_LR_settle : Room := { frames := 3, cells := 0, slots := 0, locals := 69 }
set_option maxHeartbeats 4000000 in
set_option maxRecDepth 100000 in
theorem c_LR_settle {l : Launch} {D : va_G} {n : Nat} {ad : Nat → Nat} {G : Nat → ClassId} {a : Int32} {b : Int32}  {M : Mem} {x : Mem} (hf : f_LR_settle n a b M = some x) : Met l y_LR_settle (wc y_LR_settle b_LR_settle 5 (none)) rm_LR_settle (va_Pc [.ref (ad 0), .int a, .int b] (cB D n ad G M)) (wr_Q (none) D cls (cK n) ad (cE n ad G x)) 0 0 (wl_A (cK n) ad) := by
  refine k_met (by decide) (Nat.le_of_ble_eq_true rfl) ?_
  intro p e s m args below meth c S hr hlk hB ls hl
  obtain ⟨hx, hb, hml, hown, hts⟩ := id S
  obtain ⟨hP, hK, hA0⟩ := hB
  have hA := wl_own hA0
  have hl : lv_has ls 5 [(0, .ref (ad 0)), (1, .int a), (2, .int b)] := hl
  have hS : va_S (wl_A (cK n) ad) s.heap s.heap [] := va_S.rf
  unfold f_LR_settle at hf
  refine lv_aload_n hx hb d_LR_settle_0 rfl (lv_at hl 0 rfl) ?_
  refine lv_iload_n hx hb d_LR_settle_1 rfl (lv_at hl 1 rfl) ?_
  refine lv_iload_n hx hb d_LR_settle_2 rfl (lv_at hl 2 rfl) ?_
  obtain ⟨r3, hc3, hf⟩ := ob hf
  refine k_rdi (k_vir S (c_LR_isReady (l := l) (D := D) (n := n) (ad := ad) (G := G) hc3) g_LR_183 hd_LR_isReady ⟨rfl, rfl⟩ ⟨Nat.le_of_ble_eq_true rfl, Nat.le_of_ble_eq_true rfl⟩ wl_blind (va_recv hK hP rfl (wl_to (LR_lt) (LR_at))) (wl_pre hP hK hA) rfl hl.1 rfl (Nat.le_of_ble_eq_true rfl) d_LR_settle_3 (Nat.zero_le _) (Nat.zero_le _)) ?_
  refine lv_istore_n (lv' := [(3, .int r3), (0, .ref (ad 0)), (1, .int a), (2, .int b)]) hx hb d_LR_settle_6 rfl hl (by decide) rfl (fun ls hl => ?_)
  refine lv_aload_n hx hb d_LR_settle_7 rfl (lv_at hl 1 rfl) ?_
  refine va_get (D := D) (ci := 0) (v := .ref (ad 7)) (C := R_LR) (T := F_LR) (N := 6) hx hb hts in_LR hown hK hP 0 (wl_to (LR_lt) (LR_at)) rfl 3 (by decide) (hts _ fl_LR_40) (fun _ h => h) rfl d_LR_settle_8 ?_
  refine lv_iload_n hx hb d_LR_settle_11 rfl (lv_at hl 2 rfl) ?_
  obtain ⟨j12, hj12, hf⟩ := ob hf
  refine k_aald hx hb hK hP 7 2 (RA_lt) (RA_at) rfl hj12 rfl d_LR_settle_12 ?_
  refine lv_iload_n hx hb d_LR_settle_13 rfl (lv_at hl 3 rfl) ?_
  obtain ⟨r14, hc14, hf⟩ := ob hf
  refine k_rdi (k_vir S (c_Router_labelOf (l := l) (D := D) (n := n) (ad := ad) (G := G) (ix_lt hj12) hc14) g_LR_125 hd_Router_labelOf ⟨rfl, rfl⟩ ⟨Nat.le_of_ble_eq_true rfl, Nat.le_of_ble_eq_true rfl⟩ wl_blind (va_recv hK hP rfl (wl_to (RT_lt (ix_lt hj12)) (RT_at (ix_lt hj12)))) (wl_pre hP hK hA) rfl hl.1 rfl (Nat.le_of_ble_eq_true rfl) d_LR_settle_14 (Nat.zero_le _) (Nat.zero_le _)) ?_
  refine lv_if_eq (tgt := 24) hx hb d_LR_settle_17 (by decide) (fun h17 => ?_) (fun h17 => ?_)
  · rw [if_pos h17] at hf
    refine lv_iconst (v := 0) hx hb d_LR_settle_24 (by decide) ?_
    refine lv_istore (lv' := [(4, .int 0), (3, .int r3), (0, .ref (ad 0)), (1, .int a), (2, .int b)]) hx hb d_LR_settle_25 hl (by decide) rfl (fun ls hl => ?_)
    refine lv_iload_n hx hb d_LR_settle_27 rfl (lv_at hl 1 rfl) ?_
    refine lv_if_eq (tgt := 45) hx hb d_LR_settle_28 (by decide) (fun h28 => ?_) (fun h28 => ?_)
    · rw [if_pos h28] at hf
      refine lv_iload_n hx hb d_LR_settle_45 rfl (lv_at hl 1 rfl) ?_
      refine lv_if_ne (tgt := 60) hx hb d_LR_settle_46 (by decide) (fun h46 => ?_) (fun h46 => ?_)
      · rw [if_neg h46] at hf
        cases hf
        exact w_vret hx hb hr hlk hP hS d_LR_settle_60
      · rw [if_pos h46] at hf
        refine lv_iload hx hb d_LR_settle_49 (lv_at hl 0 rfl) ?_
        refine lv_if_eq (tgt := 60) hx hb d_LR_settle_51 (by decide) (fun _ => ?_) (fun h => absurd h (by decide))
        cases hf
        exact w_vret hx hb hr hlk hP hS d_LR_settle_60
    · rw [if_neg h28] at hf
      refine lv_iload hx hb d_LR_settle_31 (lv_at hl 0 rfl) ?_
      refine lv_if_ne (tgt := 45) hx hb d_LR_settle_33 (by decide) (fun h => absurd h (by decide)) (fun _ => ?_)
      refine lv_aload_n hx hb d_LR_settle_36 rfl (lv_at hl 2 rfl) ?_
      refine lv_iload_n hx hb d_LR_settle_37 rfl (lv_at hl 3 rfl) ?_
      refine lv_iload_n hx hb d_LR_settle_38 rfl (lv_at hl 4 rfl) ?_
      obtain ⟨r39, hc39, hf⟩ := ob hf
      refine k_wrv (k_vir S (c_LR_giveLabel (l := l) (D := D) (n := n) (ad := ad) (G := G) hc39) g_LR_187 hd_LR_giveLabel ⟨rfl, rfl⟩ ⟨Nat.le_of_ble_eq_true rfl, Nat.le_of_ble_eq_true rfl⟩ wl_blind (va_recv hK hP rfl (wl_to (LR_lt) (LR_at))) (wl_pre hP hK hA) rfl hl.1 rfl (Nat.le_of_ble_eq_true rfl) d_LR_settle_39 (Nat.zero_le _) (Nat.zero_le _)) hS (fun _ h => h) (fun H locs hP _ _ hS => ?_)
      refine lv_goto (tgt := 60) hx hb d_LR_settle_42 (by decide) ?_
      cases hf
      exact w_vret hx hb hr hlk hP hS d_LR_settle_60
  · rw [if_neg h17] at hf
    refine lv_iconst (v := 1) hx hb d_LR_settle_20 (by decide) ?_
    refine lv_goto (tgt := 25) hx hb d_LR_settle_21 (by decide) ?_
    refine lv_istore (lv' := [(4, .int 1), (3, .int r3), (0, .ref (ad 0)), (1, .int a), (2, .int b)]) hx hb d_LR_settle_25 hl (by decide) rfl (fun ls hl => ?_)
    refine lv_iload_n hx hb d_LR_settle_27 rfl (lv_at hl 1 rfl) ?_
    refine lv_if_eq (tgt := 45) hx hb d_LR_settle_28 (by decide) (fun h28 => ?_) (fun h28 => ?_)
    · rw [if_pos h28] at hf
      refine lv_iload_n hx hb d_LR_settle_45 rfl (lv_at hl 1 rfl) ?_
      refine lv_if_ne (tgt := 60) hx hb d_LR_settle_46 (by decide) (fun h46 => ?_) (fun h46 => ?_)
      · rw [if_neg h46] at hf
        cases hf
        exact w_vret hx hb hr hlk hP hS d_LR_settle_60
      · rw [if_pos h46] at hf
        refine lv_iload hx hb d_LR_settle_49 (lv_at hl 0 rfl) ?_
        refine lv_if_eq (tgt := 60) hx hb d_LR_settle_51 (by decide) (fun h => absurd h (by decide)) (fun _ => ?_)
        refine lv_aload_n hx hb d_LR_settle_54 rfl (lv_at hl 2 rfl) ?_
        refine lv_iload_n hx hb d_LR_settle_55 rfl (lv_at hl 3 rfl) ?_
        refine lv_iload_n hx hb d_LR_settle_56 rfl (lv_at hl 4 rfl) ?_
        obtain ⟨r57, hc57, hf⟩ := ob hf
        refine k_wrv (k_vir S (c_LR_withdrawLabel (l := l) (D := D) (n := n) (ad := ad) (G := G) hc57) g_LR_190 hd_LR_withdrawLabel ⟨rfl, rfl⟩ ⟨Nat.le_of_ble_eq_true rfl, Nat.le_of_ble_eq_true rfl⟩ wl_blind (va_recv hK hP rfl (wl_to (LR_lt) (LR_at))) (wl_pre hP hK hA) rfl hl.1 rfl (Nat.le_of_ble_eq_true rfl) d_LR_settle_57 (Nat.zero_le _) (Nat.zero_le _)) hS (fun _ h => h) (fun H locs hP _ _ hS => ?_)
        cases hf
        exact w_vret hx hb hr hlk hP hS d_LR_settle_60
    · rw [if_neg h28] at hf
      refine lv_iload hx hb d_LR_settle_31 (lv_at hl 0 rfl) ?_
      refine lv_if_ne (tgt := 45) hx hb d_LR_settle_33 (by decide) (fun _ => ?_) (fun h => absurd h (by decide))
      refine lv_iload_n hx hb d_LR_settle_45 rfl (lv_at hl 1 rfl) ?_
      refine lv_if_ne (tgt := 60) hx hb d_LR_settle_46 (by decide) (fun h46 => ?_) (fun h46 => ?_)
      · rw [if_neg h46] at hf
        cases hf
        exact w_vret hx hb hr hlk hP hS d_LR_settle_60
      · rw [if_pos h46] at hf
        refine lv_iload hx hb d_LR_settle_49 (lv_at hl 0 rfl) ?_
        refine lv_if_eq (tgt := 60) hx hb d_LR_settle_51 (by decide) (fun h => absurd h (by decide)) (fun _ => ?_)
        refine lv_aload_n hx hb d_LR_settle_54 rfl (lv_at hl 2 rfl) ?_
        refine lv_iload_n hx hb d_LR_settle_55 rfl (lv_at hl 3 rfl) ?_
        refine lv_iload_n hx hb d_LR_settle_56 rfl (lv_at hl 4 rfl) ?_
        obtain ⟨r57, hc57, hf⟩ := ob hf
        refine k_wrv (k_vir S (c_LR_withdrawLabel (l := l) (D := D) (n := n) (ad := ad) (G := G) hc57) g_LR_190 hd_LR_withdrawLabel ⟨rfl, rfl⟩ ⟨Nat.le_of_ble_eq_true rfl, Nat.le_of_ble_eq_true rfl⟩ wl_blind (va_recv hK hP rfl (wl_to (LR_lt) (LR_at))) (wl_pre hP hK hA) rfl hl.1 rfl (Nat.le_of_ble_eq_true rfl) d_LR_settle_57 (Nat.zero_le _) (Nat.zero_le _)) hS (fun _ h => h) (fun H locs hP _ _ hS => ?_)
        cases hf
        exact w_vret hx hb hr hlk hP hS d_LR_settle_60
def f_LR_settlePrefixes_2 (n : Nat) (a : Int32) : Nat → Int32 → Mem → Option (Mem)
  | 0, _, _ => none
  | k2 + 1, v2_2, N2 =>
    if 4 ≤ v2_2 then (some N2) else ((f_LR_settle n a v2_2 N2).bind fun r10 => f_LR_settlePrefixes_2 n a k2 (v2_2 + 1) r10)
def f_LR_settlePrefixes (n : Nat) (a : Int32) (M : Mem) : Option (Mem) :=
  f_LR_settlePrefixes_2 n a 1000 0 M
abbrev rm_LR_settlePrefixes : Room := { frames := 4, cells := 0, slots := 0, locals := 93 }
set_option maxHeartbeats 4000000 in
set_option maxRecDepth 100000 in
theorem c_LR_settlePrefixes {l : Launch} {D : va_G} {n : Nat} {ad : Nat → Nat} {G : Nat → ClassId} {a : Int32}  {M : Mem} {x : Mem} (hf : f_LR_settlePrefixes n a M = some x) : Met l y_LR_settlePrefixes (wc y_LR_settlePrefixes b_LR_settlePrefixes 3 (none)) rm_LR_settlePrefixes (va_Pc [.ref (ad 0), .int a] (cB D n ad G M)) (wr_Q (none) D cls (cK n) ad (cE n ad G x)) 0 0 (wl_A (cK n) ad) := by
  refine k_met (by decide) (Nat.le_of_ble_eq_true rfl) ?_
  intro p e s m args below meth c S hr hlk hB ls hl
  obtain ⟨hx, hb, hml, hown, hts⟩ := id S
  obtain ⟨hP, hK, hA0⟩ := hB
  have hA := wl_own hA0
  have hl : lv_has ls 3 [(0, .ref (ad 0)), (1, .int a)] := hl
  have hS : va_S (wl_A (cK n) ad) s.heap s.heap [] := va_S.rf
  unfold f_LR_settlePrefixes at hf
  refine lv_iconst (v := 0) hx hb d_LR_settlePrefixes_0 (by decide) ?_
  refine lv_istore_n (lv' := [(2, .int 0), (0, .ref (ad 0)), (1, .int a)]) hx hb d_LR_settlePrefixes_1 rfl hl (by decide) rfl (fun ls hl => ?_)
  have L2 : ∀ (k2 : Nat) (v2_2 : Int32) (N2 : Mem) (H : Heap) (locs : List Loc) (ls : Array Slot), lv_has ls 3 [(2, .int v2_2), (0, .ref (ad 0)), (1, .int a)] → va_P D cls (cW n ad G N2) H → va_S (wl_A (cK n) ad) s.heap H locs → f_LR_settlePrefixes_2 n a k2 v2_2 N2 = some x → W p l e rm_LR_settlePrefixes s m args below meth c H locs 0 0 (MQ below (wr_Q (none) D cls (cK n) ad (cE n ad G x)) args s 0 0 (wl_A (cK n) ad)) (F0 m 2 ls []) := by
    intro k2
    induction k2 with
    | zero =>
      intro v2_2 N2 H locs ls hl hP hS hf
      simp [f_LR_settlePrefixes_2] at hf
    | succ k2 ih2 =>
      intro v2_2 N2 H locs ls hl hP hS hf
      rw [f_LR_settlePrefixes_2] at hf
      refine lv_iload_n hx hb d_LR_settlePrefixes_2 rfl (lv_at hl 0 rfl) ?_
      refine lv_iconst (v := 4) hx hb d_LR_settlePrefixes_3 (by decide) ?_
      refine lv_icmp_ge (tgt := 19) hx hb d_LR_settlePrefixes_4 (by decide) (fun h4 => ?_) (fun h4 => ?_)
      · rw [if_pos h4] at hf
        cases hf
        exact w_vret hx hb hr hlk hP hS d_LR_settlePrefixes_19
      · rw [if_neg h4] at hf
        refine lv_aload_n hx hb d_LR_settlePrefixes_7 rfl (lv_at hl 1 rfl) ?_
        refine lv_iload_n hx hb d_LR_settlePrefixes_8 rfl (lv_at hl 2 rfl) ?_
        refine lv_iload_n hx hb d_LR_settlePrefixes_9 rfl (lv_at hl 0 rfl) ?_
        obtain ⟨r10, hc10, hf⟩ := ob hf
        refine k_wrv (k_vir S (c_LR_settle (l := l) (D := D) (n := n) (ad := ad) (G := G) hc10) g_LR_180 hd_LR_settle ⟨rfl, rfl⟩ ⟨Nat.le_of_ble_eq_true rfl, Nat.le_of_ble_eq_true rfl⟩ wl_blind (va_recv hK hP rfl (wl_to (LR_lt) (LR_at))) (wl_pre hP hK hA) rfl hl.1 rfl (Nat.le_of_ble_eq_true rfl) d_LR_settlePrefixes_10 (Nat.zero_le _) (Nat.zero_le _)) hS (fun _ h => h) (fun H locs hP _ _ hS => ?_)
        refine lv_iinc (v := (v2_2 + 1)) (lv' := [(2, .int (v2_2 + 1)), (0, .ref (ad 0)), (1, .int a)]) hx hb d_LR_settlePrefixes_13 hl (k := 0) rfl rfl (by decide) rfl (fun ls hl => ?_)
        refine lv_goto (tgt := 2) hx hb d_LR_settlePrefixes_16 (by decide) ?_
        exact ih2 _ _ _ _ _ (lv_sub hl [0, 1, 2] rfl) hP hS hf
  exact L2 _ _ _ _ _ _ (lv_sub hl [0, 1, 2] rfl) hP hS hf
def f_LR_settleAll_2 (n : Nat) : Nat → Int32 → Mem → Option (Mem)
  | 0, _, _ => none
  | k2 + 1, v1_2, N2 =>
    if (nI n) ≤ v1_2 then (some N2) else ((f_LR_settlePrefixes n v1_2 N2).bind fun r12 => f_LR_settleAll_2 n k2 (v1_2 + 1) r12)
def f_LR_settleAll (n : Nat) (M : Mem) : Option (Mem) :=
  f_LR_settleAll_2 n 1000 0 M
abbrev rm_LR_settleAll : Room := { frames := 5, cells := 0, slots := 0, locals := 115 }
set_option maxHeartbeats 4000000 in
set_option maxRecDepth 100000 in
theorem c_LR_settleAll {l : Launch} {D : va_G} {n : Nat} {ad : Nat → Nat} {G : Nat → ClassId}  {M : Mem} {x : Mem} (hf : f_LR_settleAll n M = some x) : Met l y_LR_settleAll (wc y_LR_settleAll b_LR_settleAll 2 (none)) rm_LR_settleAll (va_Pc [.ref (ad 0)] (cB D n ad G M)) (wr_Q (none) D cls (cK n) ad (cE n ad G x)) 0 0 (wl_A (cK n) ad) := by
  refine k_met (by decide) (Nat.le_of_ble_eq_true rfl) ?_
  intro p e s m args below meth c S hr hlk hB ls hl
  obtain ⟨hx, hb, hml, hown, hts⟩ := id S
  obtain ⟨hP, hK, hA0⟩ := hB
  have hA := wl_own hA0
  have hl : lv_has ls 2 [(0, .ref (ad 0))] := hl
  have hS : va_S (wl_A (cK n) ad) s.heap s.heap [] := va_S.rf
  unfold f_LR_settleAll at hf
  refine lv_iconst (v := 0) hx hb d_LR_settleAll_0 (by decide) ?_
  refine lv_istore_n (lv' := [(1, .int 0), (0, .ref (ad 0))]) hx hb d_LR_settleAll_1 rfl hl (by decide) rfl (fun ls hl => ?_)
  have L2 : ∀ (k2 : Nat) (v1_2 : Int32) (N2 : Mem) (H : Heap) (locs : List Loc) (ls : Array Slot), lv_has ls 2 [(1, .int v1_2), (0, .ref (ad 0))] → va_P D cls (cW n ad G N2) H → va_S (wl_A (cK n) ad) s.heap H locs → f_LR_settleAll_2 n k2 v1_2 N2 = some x → W p l e rm_LR_settleAll s m args below meth c H locs 0 0 (MQ below (wr_Q (none) D cls (cK n) ad (cE n ad G x)) args s 0 0 (wl_A (cK n) ad)) (F0 m 2 ls []) := by
    intro k2
    induction k2 with
    | zero =>
      intro v1_2 N2 H locs ls hl hP hS hf
      simp [f_LR_settleAll_2] at hf
    | succ k2 ih2 =>
      intro v1_2 N2 H locs ls hl hP hS hf
      rw [f_LR_settleAll_2] at hf
      refine lv_iload_n hx hb d_LR_settleAll_2 rfl (lv_at hl 0 rfl) ?_
      refine lv_aload_n hx hb d_LR_settleAll_3 rfl (lv_at hl 1 rfl) ?_
      refine va_get (D := D) (ci := 0) (v := .int (nI n)) (C := R_LR) (T := F_LR) (N := 6) hx hb hts in_LR hown hK hP 0 (wl_to (LR_lt) (LR_at)) rfl 0 (by decide) (hts _ fl_LR_18) (fun _ h => h) rfl d_LR_settleAll_4 ?_
      refine lv_icmp_ge (tgt := 21) hx hb d_LR_settleAll_7 (by decide) (fun h7 => ?_) (fun h7 => ?_)
      · rw [if_pos h7] at hf
        cases hf
        exact w_vret hx hb hr hlk hP hS d_LR_settleAll_21
      · rw [if_neg h7] at hf
        refine lv_aload_n hx hb d_LR_settleAll_10 rfl (lv_at hl 1 rfl) ?_
        refine lv_iload_n hx hb d_LR_settleAll_11 rfl (lv_at hl 0 rfl) ?_
        obtain ⟨r12, hc12, hf⟩ := ob hf
        refine k_wrv (k_vir S (c_LR_settlePrefixes (l := l) (D := D) (n := n) (ad := ad) (G := G) hc12) g_LR_177 hd_LR_settlePrefixes ⟨rfl, rfl⟩ ⟨Nat.le_of_ble_eq_true rfl, Nat.le_of_ble_eq_true rfl⟩ wl_blind (va_recv hK hP rfl (wl_to (LR_lt) (LR_at))) (wl_pre hP hK hA) rfl hl.1 rfl (Nat.le_of_ble_eq_true rfl) d_LR_settleAll_12 (Nat.zero_le _) (Nat.zero_le _)) hS (fun _ h => h) (fun H locs hP _ _ hS => ?_)
        refine lv_iinc (v := (v1_2 + 1)) (lv' := [(1, .int (v1_2 + 1)), (0, .ref (ad 0))]) hx hb d_LR_settleAll_15 hl (k := 0) rfl rfl (by decide) rfl (fun ls hl => ?_)
        refine lv_goto (tgt := 2) hx hb d_LR_settleAll_18 (by decide) ?_
        exact ih2 _ _ _ _ _ (lv_sub hl [0, 1] rfl) hP hS hf
  exact L2 _ _ _ _ _ _ (lv_sub hl [0, 1] rfl) hP hS hf
def f_LR_receive (n : Nat) (a : Int32) (M : Mem) : Option (Mem) :=
  (f_Mail_fromOf a).bind fun r1 => (f_Mail_toOf a).bind fun r6 => (f_Mail_prefixOf a).bind fun r11 => (f_Mail_labelOf a).bind fun r17 => (f_Mail_kindOf a).bind fun r23 => if r23 = 1 then ((ix r6 n).bind fun j57 => (f_Router_hear n j57 r1 r11 r17 M).bind fun r63 => (f_LR_settle n r6 r11 r63).bind fun r70 => some r70) else if r23 = 2 then ((ix r6 n).bind fun j81 => (f_Router_unhear n j81 r1 r11 r17 M).bind fun r87 => (f_Mail_post n 3 r6 r1 r11 r17 r87).bind fun r101 => (f_LR_settle n r6 r11 r101).bind fun r108 => some r108) else ((ix r6 n).bind fun j119 => (f_Router_endRelease n j119 r17 r1 M).bind fun r123 => (f_LR_settlePrefixes n r6 r123).bind fun r128 => some r128)
abbrev rm_LR_receive : Room := { frames := 5, cells := 0, slots := 0, locals := 115 }
set_option maxHeartbeats 4000000 in
set_option maxRecDepth 100000 in
theorem c_LR_receive {l : Launch} {D : va_G} {n : Nat} {ad : Nat → Nat} {G : Nat → ClassId} {a : Int32}  {M : Mem} {x : Mem} (hf : f_LR_receive n a M = some x) : Met l y_LR_receive (wc y_LR_receive b_LR_receive 6 (none)) rm_LR_receive (va_Pc [.ref (ad 0), .int a] (cB D n ad G M)) (wr_Q (none) D cls (cK n) ad (cE n ad G x)) 0 0 (wl_A (cK n) ad) := by
  refine k_met (by decide) (Nat.le_of_ble_eq_true rfl) ?_
  intro p e s m args below meth c S hr hlk hB ls hl
  obtain ⟨hx, hb, hml, hown, hts⟩ := id S
  obtain ⟨hP, hK, hA0⟩ := hB
  have hA := wl_own hA0
  have hl : lv_has ls 6 [(0, .ref (ad 0)), (1, .int a)] := hl
  have hS : va_S (wl_A (cK n) ad) s.heap s.heap [] := va_S.rf
  unfold f_LR_receive at hf
  refine lv_iload_n hx hb d_LR_receive_0 rfl (lv_at hl 1 rfl) ?_
  obtain ⟨r1, hc1, hf⟩ := ob hf
  refine k_rdi (k_sta S (c_Mail_fromOf (l := l) (D := D) (n := n) (ad := ad) (G := G) hc1) g_LR_208 hd_Mail_fromOf ⟨rfl, rfl⟩ ⟨Nat.le_of_ble_eq_true rfl, Nat.le_of_ble_eq_true rfl⟩ wl_blind (wl_pre hP hK hA) rfl hl.1 rfl (Nat.le_of_ble_eq_true rfl) d_LR_receive_1 (Nat.zero_le _) (Nat.zero_le _)) ?_
  refine lv_istore_n (lv' := [(2, .int r1), (0, .ref (ad 0)), (1, .int a)]) hx hb d_LR_receive_4 rfl hl (by decide) rfl (fun ls hl => ?_)
  refine lv_iload_n hx hb d_LR_receive_5 rfl (lv_at hl 2 rfl) ?_
  obtain ⟨r6, hc6, hf⟩ := ob hf
  refine k_rdi (k_sta S (c_Mail_toOf (l := l) (D := D) (n := n) (ad := ad) (G := G) hc6) g_LR_211 hd_Mail_toOf ⟨rfl, rfl⟩ ⟨Nat.le_of_ble_eq_true rfl, Nat.le_of_ble_eq_true rfl⟩ wl_blind (wl_pre hP hK hA) rfl hl.1 rfl (Nat.le_of_ble_eq_true rfl) d_LR_receive_6 (Nat.zero_le _) (Nat.zero_le _)) ?_
  refine lv_istore_n (lv' := [(3, .int r6), (2, .int r1), (0, .ref (ad 0)), (1, .int a)]) hx hb d_LR_receive_9 rfl hl (by decide) rfl (fun ls hl => ?_)
  refine lv_iload_n hx hb d_LR_receive_10 rfl (lv_at hl 3 rfl) ?_
  obtain ⟨r11, hc11, hf⟩ := ob hf
  refine k_rdi (k_sta S (c_Mail_prefixOf (l := l) (D := D) (n := n) (ad := ad) (G := G) hc11) g_LR_214 hd_Mail_prefixOf ⟨rfl, rfl⟩ ⟨Nat.le_of_ble_eq_true rfl, Nat.le_of_ble_eq_true rfl⟩ wl_blind (wl_pre hP hK hA) rfl hl.1 rfl (Nat.le_of_ble_eq_true rfl) d_LR_receive_11 (Nat.zero_le _) (Nat.zero_le _)) ?_
  refine lv_istore (lv' := [(4, .int r11), (3, .int r6), (2, .int r1), (0, .ref (ad 0)), (1, .int a)]) hx hb d_LR_receive_14 hl (by decide) rfl (fun ls hl => ?_)
  refine lv_iload_n hx hb d_LR_receive_16 rfl (lv_at hl 4 rfl) ?_
  obtain ⟨r17, hc17, hf⟩ := ob hf
  refine k_rdi (k_sta S (c_Mail_labelOf (l := l) (D := D) (n := n) (ad := ad) (G := G) hc17) g_LR_217 hd_Mail_labelOf ⟨rfl, rfl⟩ ⟨Nat.le_of_ble_eq_true rfl, Nat.le_of_ble_eq_true rfl⟩ wl_blind (wl_pre hP hK hA) rfl hl.1 rfl (Nat.le_of_ble_eq_true rfl) d_LR_receive_17 (Nat.zero_le _) (Nat.zero_le _)) ?_
  refine lv_istore (lv' := [(5, .int r17), (4, .int r11), (3, .int r6), (2, .int r1), (0, .ref (ad 0)), (1, .int a)]) hx hb d_LR_receive_20 hl (by decide) rfl (fun ls hl => ?_)
  refine lv_iload_n hx hb d_LR_receive_22 rfl (lv_at hl 5 rfl) ?_
  obtain ⟨r23, hc23, hf⟩ := ob hf
  refine k_rdi (k_sta S (c_Mail_kindOf (l := l) (D := D) (n := n) (ad := ad) (G := G) hc23) g_LR_107 hd_Mail_kindOf ⟨rfl, rfl⟩ ⟨Nat.le_of_ble_eq_true rfl, Nat.le_of_ble_eq_true rfl⟩ wl_blind (wl_pre hP hK hA) rfl hl.1 rfl (Nat.le_of_ble_eq_true rfl) d_LR_receive_23 (Nat.zero_le _) (Nat.zero_le _)) ?_
  by_cases hs26_1 : r23 = 1
  · rw [if_pos hs26_1] at hf
    refine lv_lookup (off := 26) (tgt := 52) hx hb d_LR_receive_26 (by decide) (by rw [hs26_1]; rfl) (by decide) ?_
    refine lv_aload_n hx hb d_LR_receive_52 rfl (lv_at hl 4 rfl) ?_
    refine va_get (D := D) (ci := 0) (v := .ref (ad 7)) (C := R_LR) (T := F_LR) (N := 6) hx hb hts in_LR hown hK hP 0 (wl_to (LR_lt) (LR_at)) rfl 3 (by decide) (hts _ fl_LR_40) (fun _ h => h) rfl d_LR_receive_53 ?_
    refine lv_iload_n hx hb d_LR_receive_56 rfl (lv_at hl 2 rfl) ?_
    obtain ⟨j57, hj57, hf⟩ := ob hf
    refine k_aald hx hb hK hP 7 2 (RA_lt) (RA_at) rfl hj57 rfl d_LR_receive_57 ?_
    refine lv_iload_n hx hb d_LR_receive_58 rfl (lv_at hl 3 rfl) ?_
    refine lv_iload hx hb d_LR_receive_59 (lv_at hl 1 rfl) ?_
    refine lv_iload hx hb d_LR_receive_61 (lv_at hl 0 rfl) ?_
    obtain ⟨r63, hc63, hf⟩ := ob hf
    refine k_wrv (k_vir S (c_Router_hear (l := l) (D := D) (n := n) (ad := ad) (G := G) (ix_lt hj57) hc63) g_LR_218 hd_Router_hear ⟨rfl, rfl⟩ ⟨Nat.le_of_ble_eq_true rfl, Nat.le_of_ble_eq_true rfl⟩ wl_blind (va_recv hK hP rfl (wl_to (RT_lt (ix_lt hj57)) (RT_at (ix_lt hj57)))) (wl_pre hP hK hA) rfl hl.1 rfl (Nat.le_of_ble_eq_true rfl) d_LR_receive_63 (Nat.zero_le _) (Nat.zero_le _)) hS (fun _ h => h) (fun H locs hP _ _ hS => ?_)
    refine lv_aload_n hx hb d_LR_receive_66 rfl (lv_at hl 4 rfl) ?_
    refine lv_iload_n hx hb d_LR_receive_67 rfl (lv_at hl 2 rfl) ?_
    refine lv_iload hx hb d_LR_receive_68 (lv_at hl 1 rfl) ?_
    obtain ⟨r70, hc70, hf⟩ := ob hf
    refine k_wrv (k_vir S (c_LR_settle (l := l) (D := D) (n := n) (ad := ad) (G := G) hc70) g_LR_180 hd_LR_settle ⟨rfl, rfl⟩ ⟨Nat.le_of_ble_eq_true rfl, Nat.le_of_ble_eq_true rfl⟩ wl_blind (va_recv hK hP rfl (wl_to (LR_lt) (LR_at))) (wl_pre hP hK hA) rfl hl.1 rfl (Nat.le_of_ble_eq_true rfl) d_LR_receive_70 (Nat.zero_le _) (Nat.zero_le _)) hS (fun _ h => h) (fun H locs hP _ _ hS => ?_)
    refine lv_goto (tgt := 131) hx hb d_LR_receive_73 (by decide) ?_
    cases hf
    exact w_vret hx hb hr hlk hP hS d_LR_receive_131
  rw [if_neg hs26_1] at hf
  by_cases hs26_2 : r23 = 2
  · rw [if_pos hs26_2] at hf
    refine lv_lookup (off := 50) (tgt := 76) hx hb d_LR_receive_26 (by decide) (by rw [hs26_2]; rfl) (by decide) ?_
    refine lv_aload_n hx hb d_LR_receive_76 rfl (lv_at hl 4 rfl) ?_
    refine va_get (D := D) (ci := 0) (v := .ref (ad 7)) (C := R_LR) (T := F_LR) (N := 6) hx hb hts in_LR hown hK hP 0 (wl_to (LR_lt) (LR_at)) rfl 3 (by decide) (hts _ fl_LR_40) (fun _ h => h) rfl d_LR_receive_77 ?_
    refine lv_iload_n hx hb d_LR_receive_80 rfl (lv_at hl 2 rfl) ?_
    obtain ⟨j81, hj81, hf⟩ := ob hf
    refine k_aald hx hb hK hP 7 2 (RA_lt) (RA_at) rfl hj81 rfl d_LR_receive_81 ?_
    refine lv_iload_n hx hb d_LR_receive_82 rfl (lv_at hl 3 rfl) ?_
    refine lv_iload hx hb d_LR_receive_83 (lv_at hl 1 rfl) ?_
    refine lv_iload hx hb d_LR_receive_85 (lv_at hl 0 rfl) ?_
    obtain ⟨r87, hc87, hf⟩ := ob hf
    refine k_wrv (k_vir S (c_Router_unhear (l := l) (D := D) (n := n) (ad := ad) (G := G) (ix_lt hj81) hc87) g_LR_221 hd_Router_unhear ⟨rfl, rfl⟩ ⟨Nat.le_of_ble_eq_true rfl, Nat.le_of_ble_eq_true rfl⟩ wl_blind (va_recv hK hP rfl (wl_to (RT_lt (ix_lt hj81)) (RT_at (ix_lt hj81)))) (wl_pre hP hK hA) rfl hl.1 rfl (Nat.le_of_ble_eq_true rfl) d_LR_receive_87 (Nat.zero_le _) (Nat.zero_le _)) hS (fun _ h => h) (fun H locs hP _ _ hS => ?_)
    refine lv_aload_n hx hb d_LR_receive_90 rfl (lv_at hl 4 rfl) ?_
    refine va_get (D := D) (ci := 0) (v := .ref (ad 5)) (C := R_LR) (T := F_LR) (N := 6) hx hb hts in_LR hown hK hP 0 (wl_to (LR_lt) (LR_at)) rfl 2 (by decide) (hts _ fl_LR_34) (fun _ h => h) rfl d_LR_receive_91 ?_
    refine lv_iconst (v := 3) hx hb d_LR_receive_94 (by decide) ?_
    refine lv_iload_n hx hb d_LR_receive_95 rfl (lv_at hl 2 rfl) ?_
    refine lv_iload_n hx hb d_LR_receive_96 rfl (lv_at hl 3 rfl) ?_
    refine lv_iload hx hb d_LR_receive_97 (lv_at hl 1 rfl) ?_
    refine lv_iload hx hb d_LR_receive_99 (lv_at hl 0 rfl) ?_
    obtain ⟨r101, hc101, hf⟩ := ob hf
    refine k_wrv (k_vir S (c_Mail_post (l := l) (D := D) (n := n) (ad := ad) (G := G) hc101) g_LR_173 hd_Mail_post ⟨rfl, rfl⟩ ⟨Nat.le_of_ble_eq_true rfl, Nat.le_of_ble_eq_true rfl⟩ wl_blind (va_recv hK hP rfl (wl_to (Mail_lt) (Mail_at))) (wl_pre hP hK hA) rfl hl.1 rfl (Nat.le_of_ble_eq_true rfl) d_LR_receive_101 (Nat.zero_le _) (Nat.zero_le _)) hS (fun _ h => h) (fun H locs hP _ _ hS => ?_)
    refine lv_aload_n hx hb d_LR_receive_104 rfl (lv_at hl 4 rfl) ?_
    refine lv_iload_n hx hb d_LR_receive_105 rfl (lv_at hl 2 rfl) ?_
    refine lv_iload hx hb d_LR_receive_106 (lv_at hl 1 rfl) ?_
    obtain ⟨r108, hc108, hf⟩ := ob hf
    refine k_wrv (k_vir S (c_LR_settle (l := l) (D := D) (n := n) (ad := ad) (G := G) hc108) g_LR_180 hd_LR_settle ⟨rfl, rfl⟩ ⟨Nat.le_of_ble_eq_true rfl, Nat.le_of_ble_eq_true rfl⟩ wl_blind (va_recv hK hP rfl (wl_to (LR_lt) (LR_at))) (wl_pre hP hK hA) rfl hl.1 rfl (Nat.le_of_ble_eq_true rfl) d_LR_receive_108 (Nat.zero_le _) (Nat.zero_le _)) hS (fun _ h => h) (fun H locs hP _ _ hS => ?_)
    refine lv_goto (tgt := 131) hx hb d_LR_receive_111 (by decide) ?_
    cases hf
    exact w_vret hx hb hr hlk hP hS d_LR_receive_131
  rw [if_neg hs26_2] at hf
  refine lv_lookup (off := 88) (tgt := 114) hx hb d_LR_receive_26 (by decide) ((lv_osw hs26_1 rfl).trans ((lv_osw hs26_2 rfl).trans rfl)) (by decide) ?_
  refine lv_aload_n hx hb d_LR_receive_114 rfl (lv_at hl 4 rfl) ?_
  refine va_get (D := D) (ci := 0) (v := .ref (ad 7)) (C := R_LR) (T := F_LR) (N := 6) hx hb hts in_LR hown hK hP 0 (wl_to (LR_lt) (LR_at)) rfl 3 (by decide) (hts _ fl_LR_40) (fun _ h => h) rfl d_LR_receive_115 ?_
  refine lv_iload_n hx hb d_LR_receive_118 rfl (lv_at hl 2 rfl) ?_
  obtain ⟨j119, hj119, hf⟩ := ob hf
  refine k_aald hx hb hK hP 7 2 (RA_lt) (RA_at) rfl hj119 rfl d_LR_receive_119 ?_
  refine lv_iload hx hb d_LR_receive_120 (lv_at hl 0 rfl) ?_
  refine lv_iload_n hx hb d_LR_receive_122 rfl (lv_at hl 3 rfl) ?_
  obtain ⟨r123, hc123, hf⟩ := ob hf
  refine k_wrv (k_vir S (c_Router_endRelease (l := l) (D := D) (n := n) (ad := ad) (G := G) (ix_lt hj119) hc123) g_LR_224 hd_Router_endRelease ⟨rfl, rfl⟩ ⟨Nat.le_of_ble_eq_true rfl, Nat.le_of_ble_eq_true rfl⟩ wl_blind (va_recv hK hP rfl (wl_to (RT_lt (ix_lt hj119)) (RT_at (ix_lt hj119)))) (wl_pre hP hK hA) rfl hl.1 rfl (Nat.le_of_ble_eq_true rfl) d_LR_receive_123 (Nat.zero_le _) (Nat.zero_le _)) hS (fun _ h => h) (fun H locs hP _ _ hS => ?_)
  refine lv_aload_n hx hb d_LR_receive_126 rfl (lv_at hl 4 rfl) ?_
  refine lv_iload_n hx hb d_LR_receive_127 rfl (lv_at hl 2 rfl) ?_
  obtain ⟨r128, hc128, hf⟩ := ob hf
  refine k_wrv (k_vir S (c_LR_settlePrefixes (l := l) (D := D) (n := n) (ad := ad) (G := G) hc128) g_LR_177 hd_LR_settlePrefixes ⟨rfl, rfl⟩ ⟨Nat.le_of_ble_eq_true rfl, Nat.le_of_ble_eq_true rfl⟩ wl_blind (va_recv hK hP rfl (wl_to (LR_lt) (LR_at))) (wl_pre hP hK hA) rfl hl.1 rfl (Nat.le_of_ble_eq_true rfl) d_LR_receive_128 (Nat.zero_le _) (Nat.zero_le _)) hS (fun _ h => h) (fun H locs hP _ _ hS => ?_)
  cases hf
  exact w_vret hx hb hr hlk hP hS d_LR_receive_131
def f_LR_goOn (n : Nat) (a : Int32) (b : Int32) (z : Int32) (M : Mem) : Option (Int32 × Mem) :=
  (f_Ways_nextOf n a b M).bind fun r6 => if r6 = (-1) then (some (1, M)) else ((ix a n).bind fun j24 => (f_Router_toldBy n j24 r6 b M).bind fun r28 => if z = 0 then ((f_Packet_isAtLastHop n M).bind fun r48 => if r48 = 0 then ((f_Packet_moveTo n r6 r28 M).bind fun r64 => some ((-1), r64)) else (some (2, M))) else (if r28 = 0 then (some (4, M)) else ((f_Packet_isAtLastHop n M).bind fun r48 => if r48 = 0 then ((f_Packet_moveTo n r6 r28 M).bind fun r64 => some ((-1), r64)) else (some (2, M)))))
abbrev rm_LR_goOn : Room := { frames := 2, cells := 0, slots := 0, locals := 46 }
set_option maxHeartbeats 4000000 in
set_option maxRecDepth 100000 in
theorem c_LR_goOn {l : Launch} {D : va_G} {n : Nat} {ad : Nat → Nat} {G : Nat → ClassId} {a : Int32} {b : Int32} {z : Int32}  {M : Mem} {x : Int32 × Mem} (hf : f_LR_goOn n a b z M = some x) : Met l y_LR_goOn (wc y_LR_goOn b_LR_goOn 6 (some .int)) rm_LR_goOn (va_Pc [.ref (ad 0), .int a, .int b, .int z] (cB D n ad G M)) (wr_Q (some (.int x.1)) D cls (cK n) ad (cE n ad G x.2)) 0 0 (wl_A (cK n) ad) := by
  refine k_met (by decide) (Nat.le_of_ble_eq_true rfl) ?_
  intro p e s m args below meth c S hr hlk hB ls hl
  obtain ⟨hx, hb, hml, hown, hts⟩ := id S
  obtain ⟨hP, hK, hA0⟩ := hB
  have hA := wl_own hA0
  have hl : lv_has ls 6 [(0, .ref (ad 0)), (1, .int a), (2, .int b), (3, .int z)] := hl
  have hS : va_S (wl_A (cK n) ad) s.heap s.heap [] := va_S.rf
  unfold f_LR_goOn at hf
  refine lv_aload_n hx hb d_LR_goOn_0 rfl (lv_at hl 0 rfl) ?_
  refine va_get (D := D) (ci := 0) (v := .ref (ad 1)) (C := R_LR) (T := F_LR) (N := 6) hx hb hts in_LR hown hK hP 0 (wl_to (LR_lt) (LR_at)) rfl 1 (by decide) (hts _ fl_LR_27) (fun _ h => h) rfl d_LR_goOn_1 ?_
  refine lv_iload_n hx hb d_LR_goOn_4 rfl (lv_at hl 1 rfl) ?_
  refine lv_iload_n hx hb d_LR_goOn_5 rfl (lv_at hl 2 rfl) ?_
  obtain ⟨r6, hc6, hf⟩ := ob hf
  refine k_rdi (k_vir S (c_Ways_nextOf (l := l) (D := D) (n := n) (ad := ad) (G := G) hc6) g_LR_122 hd_Ways_nextOf ⟨rfl, rfl⟩ ⟨Nat.le_of_ble_eq_true rfl, Nat.le_of_ble_eq_true rfl⟩ wl_blind (va_recv hK hP rfl (wl_to (Ways_lt) (Ways_at))) (wl_pre hP hK hA) rfl hl.1 rfl (Nat.le_of_ble_eq_true rfl) d_LR_goOn_6 (Nat.zero_le _) (Nat.zero_le _)) ?_
  refine lv_istore (lv' := [(4, .int r6), (0, .ref (ad 0)), (1, .int a), (2, .int b), (3, .int z)]) hx hb d_LR_goOn_9 hl (by decide) rfl (fun ls hl => ?_)
  refine lv_iload hx hb d_LR_goOn_11 (lv_at hl 0 rfl) ?_
  refine lv_iconst (v := (-1)) hx hb d_LR_goOn_13 (by decide) ?_
  refine lv_icmp_ne (tgt := 19) hx hb d_LR_goOn_14 (by decide) (fun h14 => ?_) (fun h14 => ?_)
  · rw [if_neg h14] at hf
    refine lv_aload_n hx hb d_LR_goOn_19 rfl (lv_at hl 1 rfl) ?_
    refine va_get (D := D) (ci := 0) (v := .ref (ad 7)) (C := R_LR) (T := F_LR) (N := 6) hx hb hts in_LR hown hK hP 0 (wl_to (LR_lt) (LR_at)) rfl 3 (by decide) (hts _ fl_LR_40) (fun _ h => h) rfl d_LR_goOn_20 ?_
    refine lv_iload_n hx hb d_LR_goOn_23 rfl (lv_at hl 2 rfl) ?_
    obtain ⟨j24, hj24, hf⟩ := ob hf
    refine k_aald hx hb hK hP 7 2 (RA_lt) (RA_at) rfl hj24 rfl d_LR_goOn_24 ?_
    refine lv_iload hx hb d_LR_goOn_25 (lv_at hl 0 rfl) ?_
    refine lv_iload_n hx hb d_LR_goOn_27 rfl (lv_at hl 3 rfl) ?_
    obtain ⟨r28, hc28, hf⟩ := ob hf
    refine k_rdi (k_vir S (c_Router_toldBy (l := l) (D := D) (n := n) (ad := ad) (G := G) (ix_lt hj24) hc28) g_LR_128 hd_Router_toldBy ⟨rfl, rfl⟩ ⟨Nat.le_of_ble_eq_true rfl, Nat.le_of_ble_eq_true rfl⟩ wl_blind (va_recv hK hP rfl (wl_to (RT_lt (ix_lt hj24)) (RT_at (ix_lt hj24)))) (wl_pre hP hK hA) rfl hl.1 rfl (Nat.le_of_ble_eq_true rfl) d_LR_goOn_28 (Nat.zero_le _) (Nat.zero_le _)) ?_
    refine lv_istore (lv' := [(5, .int r28), (4, .int r6), (0, .ref (ad 0)), (1, .int a), (2, .int b), (3, .int z)]) hx hb d_LR_goOn_31 hl (by decide) rfl (fun ls hl => ?_)
    refine lv_iload_n hx hb d_LR_goOn_33 rfl (lv_at hl 5 rfl) ?_
    refine lv_if_eq (tgt := 44) hx hb d_LR_goOn_34 (by decide) (fun h34 => ?_) (fun h34 => ?_)
    · rw [if_pos h34] at hf
      refine lv_aload_n hx hb d_LR_goOn_44 rfl (lv_at hl 2 rfl) ?_
      refine va_get (D := D) (ci := 0) (v := .ref (ad 9)) (C := R_LR) (T := F_LR) (N := 6) hx hb hts in_LR hown hK hP 0 (wl_to (LR_lt) (LR_at)) rfl 5 (by decide) (hts _ fl_LR_58) (fun _ h => h) rfl d_LR_goOn_45 ?_
      obtain ⟨r48, hc48, hf⟩ := ob hf
      refine k_rdi (k_vir S (c_Packet_isAtLastHop (l := l) (D := D) (n := n) (ad := ad) (G := G) hc48) g_LR_257 hd_Packet_isAtLastHop ⟨rfl, rfl⟩ ⟨Nat.le_of_ble_eq_true rfl, Nat.le_of_ble_eq_true rfl⟩ wl_blind (va_recv hK hP rfl (wl_to (PK_lt) (PK_at))) (wl_pre hP hK hA) rfl hl.1 rfl (Nat.le_of_ble_eq_true rfl) d_LR_goOn_48 (Nat.zero_le _) (Nat.zero_le _)) ?_
      refine lv_if_eq (tgt := 56) hx hb d_LR_goOn_51 (by decide) (fun h51 => ?_) (fun h51 => ?_)
      · rw [if_pos h51] at hf
        refine lv_aload_n hx hb d_LR_goOn_56 rfl (lv_at hl 2 rfl) ?_
        refine va_get (D := D) (ci := 0) (v := .ref (ad 9)) (C := R_LR) (T := F_LR) (N := 6) hx hb hts in_LR hown hK hP 0 (wl_to (LR_lt) (LR_at)) rfl 5 (by decide) (hts _ fl_LR_58) (fun _ h => h) rfl d_LR_goOn_57 ?_
        refine lv_iload hx hb d_LR_goOn_60 (lv_at hl 1 rfl) ?_
        refine lv_iload hx hb d_LR_goOn_62 (lv_at hl 0 rfl) ?_
        obtain ⟨r64, hc64, hf⟩ := ob hf
        refine k_wrv (k_vir S (c_Packet_moveTo (l := l) (D := D) (n := n) (ad := ad) (G := G) hc64) g_LR_260 hd_Packet_moveTo ⟨rfl, rfl⟩ ⟨Nat.le_of_ble_eq_true rfl, Nat.le_of_ble_eq_true rfl⟩ wl_blind (va_recv hK hP rfl (wl_to (PK_lt) (PK_at))) (wl_pre hP hK hA) rfl hl.1 rfl (Nat.le_of_ble_eq_true rfl) d_LR_goOn_64 (Nat.zero_le _) (Nat.zero_le _)) hS (fun _ h => h) (fun H locs hP _ _ hS => ?_)
        refine lv_iconst (v := (-1)) hx hb d_LR_goOn_67 (by decide) ?_
        cases hf
        exact w_iret hx hb hr hlk hP hS d_LR_goOn_68
      · rw [if_neg h51] at hf
        refine lv_iconst (v := 2) hx hb d_LR_goOn_54 (by decide) ?_
        cases hf
        exact w_iret hx hb hr hlk hP hS d_LR_goOn_55
    · rw [if_neg h34] at hf
      refine lv_iload hx hb d_LR_goOn_37 (lv_at hl 0 rfl) ?_
      refine lv_if_ne (tgt := 44) hx hb d_LR_goOn_39 (by decide) (fun h39 => ?_) (fun h39 => ?_)
      · rw [if_neg h39] at hf
        refine lv_aload_n hx hb d_LR_goOn_44 rfl (lv_at hl 2 rfl) ?_
        refine va_get (D := D) (ci := 0) (v := .ref (ad 9)) (C := R_LR) (T := F_LR) (N := 6) hx hb hts in_LR hown hK hP 0 (wl_to (LR_lt) (LR_at)) rfl 5 (by decide) (hts _ fl_LR_58) (fun _ h => h) rfl d_LR_goOn_45 ?_
        obtain ⟨r48, hc48, hf⟩ := ob hf
        refine k_rdi (k_vir S (c_Packet_isAtLastHop (l := l) (D := D) (n := n) (ad := ad) (G := G) hc48) g_LR_257 hd_Packet_isAtLastHop ⟨rfl, rfl⟩ ⟨Nat.le_of_ble_eq_true rfl, Nat.le_of_ble_eq_true rfl⟩ wl_blind (va_recv hK hP rfl (wl_to (PK_lt) (PK_at))) (wl_pre hP hK hA) rfl hl.1 rfl (Nat.le_of_ble_eq_true rfl) d_LR_goOn_48 (Nat.zero_le _) (Nat.zero_le _)) ?_
        refine lv_if_eq (tgt := 56) hx hb d_LR_goOn_51 (by decide) (fun h51 => ?_) (fun h51 => ?_)
        · rw [if_pos h51] at hf
          refine lv_aload_n hx hb d_LR_goOn_56 rfl (lv_at hl 2 rfl) ?_
          refine va_get (D := D) (ci := 0) (v := .ref (ad 9)) (C := R_LR) (T := F_LR) (N := 6) hx hb hts in_LR hown hK hP 0 (wl_to (LR_lt) (LR_at)) rfl 5 (by decide) (hts _ fl_LR_58) (fun _ h => h) rfl d_LR_goOn_57 ?_
          refine lv_iload hx hb d_LR_goOn_60 (lv_at hl 1 rfl) ?_
          refine lv_iload hx hb d_LR_goOn_62 (lv_at hl 0 rfl) ?_
          obtain ⟨r64, hc64, hf⟩ := ob hf
          refine k_wrv (k_vir S (c_Packet_moveTo (l := l) (D := D) (n := n) (ad := ad) (G := G) hc64) g_LR_260 hd_Packet_moveTo ⟨rfl, rfl⟩ ⟨Nat.le_of_ble_eq_true rfl, Nat.le_of_ble_eq_true rfl⟩ wl_blind (va_recv hK hP rfl (wl_to (PK_lt) (PK_at))) (wl_pre hP hK hA) rfl hl.1 rfl (Nat.le_of_ble_eq_true rfl) d_LR_goOn_64 (Nat.zero_le _) (Nat.zero_le _)) hS (fun _ h => h) (fun H locs hP _ _ hS => ?_)
          refine lv_iconst (v := (-1)) hx hb d_LR_goOn_67 (by decide) ?_
          cases hf
          exact w_iret hx hb hr hlk hP hS d_LR_goOn_68
        · rw [if_neg h51] at hf
          refine lv_iconst (v := 2) hx hb d_LR_goOn_54 (by decide) ?_
          cases hf
          exact w_iret hx hb hr hlk hP hS d_LR_goOn_55
      · rw [if_pos h39] at hf
        refine lv_iconst (v := 4) hx hb d_LR_goOn_42 (by decide) ?_
        cases hf
        exact w_iret hx hb hr hlk hP hS d_LR_goOn_43
  · rw [if_pos h14] at hf
    refine lv_iconst (v := 1) hx hb d_LR_goOn_17 (by decide) ?_
    cases hf
    exact w_iret hx hb hr hlk hP hS d_LR_goOn_18
def f_LR_tryService (n : Nat) (a : Int32) (M : Mem) : Option (Int32) :=
  (f_Packet_targetService n M).bind fun r8 => (ix r8 4).bind fun j11 => if (M 8 0 0 j11) = a then (some 0) else (some 3)
abbrev rm_LR_tryService : Room := { frames := 1, cells := 0, slots := 0, locals := 20 }
set_option maxHeartbeats 4000000 in
set_option maxRecDepth 100000 in
theorem c_LR_tryService {l : Launch} {D : va_G} {n : Nat} {ad : Nat → Nat} {G : Nat → ClassId} {a : Int32}  {M : Mem} {x : Int32} (hf : f_LR_tryService n a M = some x) : Met l y_LR_tryService (wc y_LR_tryService b_LR_tryService 2 (some .int)) rm_LR_tryService (va_Pc [.ref (ad 0), .int a] (cB D n ad G M)) (rd_Q (some (.int x))) 0 0 (fun _ => False) := by
  refine k_met (by decide) (Nat.le_of_ble_eq_true rfl) ?_
  intro p e s m args below meth c S hr hlk hB ls hl
  obtain ⟨hx, hb, hml, hown, hts⟩ := id S
  obtain ⟨hP, hK, hA0⟩ := hB
  have hA := wl_own hA0
  have hl : lv_has ls 2 [(0, .ref (ad 0)), (1, .int a)] := hl
  unfold f_LR_tryService at hf
  refine lv_aload_n hx hb d_LR_tryService_0 rfl (lv_at hl 0 rfl) ?_
  refine va_get (D := D) (ci := 0) (v := .ref (ad 8)) (C := R_LR) (T := F_LR) (N := 6) hx hb hts in_LR hown hK hP 0 (wl_to (LR_lt) (LR_at)) rfl 4 (by decide) (hts _ fl_LR_45) (fun _ h => h) rfl d_LR_tryService_1 ?_
  refine lv_aload_n hx hb d_LR_tryService_4 rfl (lv_at hl 0 rfl) ?_
  refine va_get (D := D) (ci := 0) (v := .ref (ad 9)) (C := R_LR) (T := F_LR) (N := 6) hx hb hts in_LR hown hK hP 0 (wl_to (LR_lt) (LR_at)) rfl 5 (by decide) (hts _ fl_LR_58) (fun _ h => h) rfl d_LR_tryService_5 ?_
  obtain ⟨r8, hc8, hf⟩ := ob hf
  refine k_rdi (k_vir S (c_Packet_targetService (l := l) (D := D) (n := n) (ad := ad) (G := G) hc8) g_LR_254 hd_Packet_targetService ⟨rfl, rfl⟩ ⟨Nat.le_of_ble_eq_true rfl, Nat.le_of_ble_eq_true rfl⟩ wl_blind (va_recv hK hP rfl (wl_to (PK_lt) (PK_at))) (wl_pre hP hK hA) rfl hl.1 rfl (Nat.le_of_ble_eq_true rfl) d_LR_tryService_8 (Nat.zero_le _) (Nat.zero_le _)) ?_
  obtain ⟨j11, hj11, hf⟩ := ob hf
  refine k_iald hx hb hK hP 8 0 (PL_lt) (PL_at) rfl hj11 d_LR_tryService_11 ?_
  refine lv_iload_n hx hb d_LR_tryService_12 rfl (lv_at hl 1 rfl) ?_
  refine lv_icmp_ne (tgt := 20) hx hb d_LR_tryService_13 (by decide) (fun h13 => ?_) (fun h13 => ?_)
  · rw [if_neg h13] at hf
    refine lv_iconst (v := 3) hx hb d_LR_tryService_20 (by decide) ?_
    cases hf
    exact r_iret hx hb hr hlk d_LR_tryService_21
  · rw [if_pos h13] at hf
    refine lv_iconst (v := 0) hx hb d_LR_tryService_16 (by decide) ?_
    refine lv_goto (tgt := 21) hx hb d_LR_tryService_17 (by decide) ?_
    cases hf
    exact r_iret hx hb hr hlk d_LR_tryService_21
def f_LR_passUnlabelled (n : Nat) (a : Int32) (M : Mem) : Option (Int32 × Mem) :=
  (f_Packet_isForService n M).bind fun r4 => (f_Packet_targetPrefix n M).bind fun r17 => (f_Ways_owns n a r17 M).bind fun r20 => if r20 = 0 then ((f_Packet_targetPrefix n M).bind fun r46 => (f_LR_goOn n a r46 r4 M).bind fun r50 => some (r50.1, r50.2)) else (if r4 = 0 then (some (0, M)) else ((f_LR_tryService n a M).bind fun r32 => some (r32, M)))
abbrev rm_LR_passUnlabelled : Room := { frames := 3, cells := 0, slots := 0, locals := 71 }
set_option maxHeartbeats 4000000 in
set_option maxRecDepth 100000 in
theorem c_LR_passUnlabelled {l : Launch} {D : va_G} {n : Nat} {ad : Nat → Nat} {G : Nat → ClassId} {a : Int32}  {M : Mem} {x : Int32 × Mem} (hf : f_LR_passUnlabelled n a M = some x) : Met l y_LR_passUnlabelled (wc y_LR_passUnlabelled b_LR_passUnlabelled 3 (some .int)) rm_LR_passUnlabelled (va_Pc [.ref (ad 0), .int a] (cB D n ad G M)) (wr_Q (some (.int x.1)) D cls (cK n) ad (cE n ad G x.2)) 0 0 (wl_A (cK n) ad) := by
  refine k_met (by decide) (Nat.le_of_ble_eq_true rfl) ?_
  intro p e s m args below meth c S hr hlk hB ls hl
  obtain ⟨hx, hb, hml, hown, hts⟩ := id S
  obtain ⟨hP, hK, hA0⟩ := hB
  have hA := wl_own hA0
  have hl : lv_has ls 3 [(0, .ref (ad 0)), (1, .int a)] := hl
  have hS : va_S (wl_A (cK n) ad) s.heap s.heap [] := va_S.rf
  unfold f_LR_passUnlabelled at hf
  refine lv_aload_n hx hb d_LR_passUnlabelled_0 rfl (lv_at hl 0 rfl) ?_
  refine va_get (D := D) (ci := 0) (v := .ref (ad 9)) (C := R_LR) (T := F_LR) (N := 6) hx hb hts in_LR hown hK hP 0 (wl_to (LR_lt) (LR_at)) rfl 5 (by decide) (hts _ fl_LR_58) (fun _ h => h) rfl d_LR_passUnlabelled_1 ?_
  obtain ⟨r4, hc4, hf⟩ := ob hf
  refine k_rdi (k_vir S (c_Packet_isForService (l := l) (D := D) (n := n) (ad := ad) (G := G) hc4) g_LR_244 hd_Packet_isForService ⟨rfl, rfl⟩ ⟨Nat.le_of_ble_eq_true rfl, Nat.le_of_ble_eq_true rfl⟩ wl_blind (va_recv hK hP rfl (wl_to (PK_lt) (PK_at))) (wl_pre hP hK hA) rfl hl.1 rfl (Nat.le_of_ble_eq_true rfl) d_LR_passUnlabelled_4 (Nat.zero_le _) (Nat.zero_le _)) ?_
  refine lv_istore_n (lv' := [(2, .int r4), (0, .ref (ad 0)), (1, .int a)]) hx hb d_LR_passUnlabelled_7 rfl hl (by decide) rfl (fun ls hl => ?_)
  refine lv_aload_n hx hb d_LR_passUnlabelled_8 rfl (lv_at hl 1 rfl) ?_
  refine va_get (D := D) (ci := 0) (v := .ref (ad 1)) (C := R_LR) (T := F_LR) (N := 6) hx hb hts in_LR hown hK hP 0 (wl_to (LR_lt) (LR_at)) rfl 1 (by decide) (hts _ fl_LR_27) (fun _ h => h) rfl d_LR_passUnlabelled_9 ?_
  refine lv_iload_n hx hb d_LR_passUnlabelled_12 rfl (lv_at hl 2 rfl) ?_
  refine lv_aload_n hx hb d_LR_passUnlabelled_13 rfl (lv_at hl 1 rfl) ?_
  refine va_get (D := D) (ci := 0) (v := .ref (ad 9)) (C := R_LR) (T := F_LR) (N := 6) hx hb hts in_LR hown hK hP 0 (wl_to (LR_lt) (LR_at)) rfl 5 (by decide) (hts _ fl_LR_58) (fun _ h => h) rfl d_LR_passUnlabelled_14 ?_
  obtain ⟨r17, hc17, hf⟩ := ob hf
  refine k_rdi (k_vir S (c_Packet_targetPrefix (l := l) (D := D) (n := n) (ad := ad) (G := G) hc17) g_LR_251 hd_Packet_targetPrefix ⟨rfl, rfl⟩ ⟨Nat.le_of_ble_eq_true rfl, Nat.le_of_ble_eq_true rfl⟩ wl_blind (va_recv hK hP rfl (wl_to (PK_lt) (PK_at))) (wl_pre hP hK hA) rfl hl.1 rfl (Nat.le_of_ble_eq_true rfl) d_LR_passUnlabelled_17 (Nat.zero_le _) (Nat.zero_le _)) ?_
  obtain ⟨r20, hc20, hf⟩ := ob hf
  refine k_rdi (k_vir S (c_Ways_owns (l := l) (D := D) (n := n) (ad := ad) (G := G) hc20) g_LR_193 hd_Ways_owns ⟨rfl, rfl⟩ ⟨Nat.le_of_ble_eq_true rfl, Nat.le_of_ble_eq_true rfl⟩ wl_blind (va_recv hK hP rfl (wl_to (Ways_lt) (Ways_at))) (wl_pre hP hK hA) rfl hl.1 rfl (Nat.le_of_ble_eq_true rfl) d_LR_passUnlabelled_20 (Nat.zero_le _) (Nat.zero_le _)) ?_
  refine lv_if_eq (tgt := 40) hx hb d_LR_passUnlabelled_23 (by decide) (fun h23 => ?_) (fun h23 => ?_)
  · rw [if_pos h23] at hf
    refine lv_aload_n hx hb d_LR_passUnlabelled_40 rfl (lv_at hl 1 rfl) ?_
    refine lv_iload_n hx hb d_LR_passUnlabelled_41 rfl (lv_at hl 2 rfl) ?_
    refine lv_aload_n hx hb d_LR_passUnlabelled_42 rfl (lv_at hl 1 rfl) ?_
    refine va_get (D := D) (ci := 0) (v := .ref (ad 9)) (C := R_LR) (T := F_LR) (N := 6) hx hb hts in_LR hown hK hP 0 (wl_to (LR_lt) (LR_at)) rfl 5 (by decide) (hts _ fl_LR_58) (fun _ h => h) rfl d_LR_passUnlabelled_43 ?_
    obtain ⟨r46, hc46, hf⟩ := ob hf
    refine k_rdi (k_vir S (c_Packet_targetPrefix (l := l) (D := D) (n := n) (ad := ad) (G := G) hc46) g_LR_251 hd_Packet_targetPrefix ⟨rfl, rfl⟩ ⟨Nat.le_of_ble_eq_true rfl, Nat.le_of_ble_eq_true rfl⟩ wl_blind (va_recv hK hP rfl (wl_to (PK_lt) (PK_at))) (wl_pre hP hK hA) rfl hl.1 rfl (Nat.le_of_ble_eq_true rfl) d_LR_passUnlabelled_46 (Nat.zero_le _) (Nat.zero_le _)) ?_
    refine lv_iload_n hx hb d_LR_passUnlabelled_49 rfl (lv_at hl 0 rfl) ?_
    obtain ⟨r50, hc50, hf⟩ := ob hf
    refine k_wri (k_vir S (c_LR_goOn (l := l) (D := D) (n := n) (ad := ad) (G := G) hc50) g_LR_237 hd_LR_goOn ⟨rfl, rfl⟩ ⟨Nat.le_of_ble_eq_true rfl, Nat.le_of_ble_eq_true rfl⟩ wl_blind (va_recv hK hP rfl (wl_to (LR_lt) (LR_at))) (wl_pre hP hK hA) rfl hl.1 rfl (Nat.le_of_ble_eq_true rfl) d_LR_passUnlabelled_50 (Nat.zero_le _) (Nat.zero_le _)) hS (fun _ h => h) (fun H locs hP _ _ hS => ?_)
    cases hf
    exact w_iret hx hb hr hlk hP hS d_LR_passUnlabelled_53
  · rw [if_neg h23] at hf
    refine lv_iload_n hx hb d_LR_passUnlabelled_26 rfl (lv_at hl 0 rfl) ?_
    refine lv_if_eq (tgt := 38) hx hb d_LR_passUnlabelled_27 (by decide) (fun h27 => ?_) (fun h27 => ?_)
    · rw [if_pos h27] at hf
      refine lv_iconst (v := 0) hx hb d_LR_passUnlabelled_38 (by decide) ?_
      cases hf
      exact w_iret hx hb hr hlk hP hS d_LR_passUnlabelled_39
    · rw [if_neg h27] at hf
      refine lv_aload_n hx hb d_LR_passUnlabelled_30 rfl (lv_at hl 1 rfl) ?_
      refine lv_iload_n hx hb d_LR_passUnlabelled_31 rfl (lv_at hl 2 rfl) ?_
      obtain ⟨r32, hc32, hf⟩ := ob hf
      refine k_rdi (k_vir S (c_LR_tryService (l := l) (D := D) (n := n) (ad := ad) (G := G) hc32) g_LR_248 hd_LR_tryService ⟨rfl, rfl⟩ ⟨Nat.le_of_ble_eq_true rfl, Nat.le_of_ble_eq_true rfl⟩ wl_blind (va_recv hK hP rfl (wl_to (LR_lt) (LR_at))) (wl_pre hP hK hA) rfl hl.1 rfl (Nat.le_of_ble_eq_true rfl) d_LR_passUnlabelled_32 (Nat.zero_le _) (Nat.zero_le _)) ?_
      refine lv_goto (tgt := 39) hx hb d_LR_passUnlabelled_35 (by decide) ?_
      cases hf
      exact w_iret hx hb hr hlk hP hS d_LR_passUnlabelled_39
def f_LR_passRouter (n : Nat) (M : Mem) : Option (Int32 × Mem) :=
  (f_Packet_place n M).bind fun r4 => (f_Packet_topLabel n M).bind fun r12 => if r12 = 0 then ((f_LR_passUnlabelled n r4 M).bind fun r20 => some (r20.1, r20.2)) else ((ix r4 n).bind fun j29 => (f_Packet_topLabel n M).bind fun r34 => (f_Router_prefixOf n j29 r34 M).bind fun r37 => if r37 = (-1) then (some (3, M)) else ((f_Ways_owns n r4 r37 M).bind fun r54 => if r54 = 0 then ((f_LR_goOn n r4 r37 1 M).bind fun r64 => some (r64.1, r64.2)) else ((f_Packet_pop n M).bind fun r72 => (f_Packet_isForService n r72).bind fun r79 => if r79 = 0 then ((f_LR_passUnlabelled n r4 r72).bind fun r95 => some (r95.1, r95.2)) else ((f_LR_tryService n r4 r72).bind fun r87 => some (r87, r72)))))
abbrev rm_LR_passRouter : Room := { frames := 4, cells := 0, slots := 0, locals := 93 }
set_option maxHeartbeats 4000000 in
set_option maxRecDepth 100000 in
theorem c_LR_passRouter {l : Launch} {D : va_G} {n : Nat} {ad : Nat → Nat} {G : Nat → ClassId}  {M : Mem} {x : Int32 × Mem} (hf : f_LR_passRouter n M = some x) : Met l y_LR_passRouter (wc y_LR_passRouter b_LR_passRouter 3 (some .int)) rm_LR_passRouter (va_Pc [.ref (ad 0)] (cB D n ad G M)) (wr_Q (some (.int x.1)) D cls (cK n) ad (cE n ad G x.2)) 0 0 (wl_A (cK n) ad) := by
  refine k_met (by decide) (Nat.le_of_ble_eq_true rfl) ?_
  intro p e s m args below meth c S hr hlk hB ls hl
  obtain ⟨hx, hb, hml, hown, hts⟩ := id S
  obtain ⟨hP, hK, hA0⟩ := hB
  have hA := wl_own hA0
  have hl : lv_has ls 3 [(0, .ref (ad 0))] := hl
  have hS : va_S (wl_A (cK n) ad) s.heap s.heap [] := va_S.rf
  unfold f_LR_passRouter at hf
  refine lv_aload_n hx hb d_LR_passRouter_0 rfl (lv_at hl 0 rfl) ?_
  refine va_get (D := D) (ci := 0) (v := .ref (ad 9)) (C := R_LR) (T := F_LR) (N := 6) hx hb hts in_LR hown hK hP 0 (wl_to (LR_lt) (LR_at)) rfl 5 (by decide) (hts _ fl_LR_58) (fun _ h => h) rfl d_LR_passRouter_1 ?_
  obtain ⟨r4, hc4, hf⟩ := ob hf
  refine k_rdi (k_vir S (c_Packet_place (l := l) (D := D) (n := n) (ad := ad) (G := G) hc4) g_LR_227 hd_Packet_place ⟨rfl, rfl⟩ ⟨Nat.le_of_ble_eq_true rfl, Nat.le_of_ble_eq_true rfl⟩ wl_blind (va_recv hK hP rfl (wl_to (PK_lt) (PK_at))) (wl_pre hP hK hA) rfl hl.1 rfl (Nat.le_of_ble_eq_true rfl) d_LR_passRouter_4 (Nat.zero_le _) (Nat.zero_le _)) ?_
  refine lv_istore_n (lv' := [(1, .int r4), (0, .ref (ad 0))]) hx hb d_LR_passRouter_7 rfl hl (by decide) rfl (fun ls hl => ?_)
  refine lv_aload_n hx hb d_LR_passRouter_8 rfl (lv_at hl 1 rfl) ?_
  refine va_get (D := D) (ci := 0) (v := .ref (ad 9)) (C := R_LR) (T := F_LR) (N := 6) hx hb hts in_LR hown hK hP 0 (wl_to (LR_lt) (LR_at)) rfl 5 (by decide) (hts _ fl_LR_58) (fun _ h => h) rfl d_LR_passRouter_9 ?_
  obtain ⟨r12, hc12, hf⟩ := ob hf
  refine k_rdi (k_vir S (c_Packet_topLabel (l := l) (D := D) (n := n) (ad := ad) (G := G) hc12) g_LR_230 hd_Packet_topLabel ⟨rfl, rfl⟩ ⟨Nat.le_of_ble_eq_true rfl, Nat.le_of_ble_eq_true rfl⟩ wl_blind (va_recv hK hP rfl (wl_to (PK_lt) (PK_at))) (wl_pre hP hK hA) rfl hl.1 rfl (Nat.le_of_ble_eq_true rfl) d_LR_passRouter_12 (Nat.zero_le _) (Nat.zero_le _)) ?_
  refine lv_if_ne (tgt := 24) hx hb d_LR_passRouter_15 (by decide) (fun h15 => ?_) (fun h15 => ?_)
  · rw [if_neg h15] at hf
    refine lv_aload_n hx hb d_LR_passRouter_24 rfl (lv_at hl 1 rfl) ?_
    refine va_get (D := D) (ci := 0) (v := .ref (ad 7)) (C := R_LR) (T := F_LR) (N := 6) hx hb hts in_LR hown hK hP 0 (wl_to (LR_lt) (LR_at)) rfl 3 (by decide) (hts _ fl_LR_40) (fun _ h => h) rfl d_LR_passRouter_25 ?_
    refine lv_iload_n hx hb d_LR_passRouter_28 rfl (lv_at hl 0 rfl) ?_
    obtain ⟨j29, hj29, hf⟩ := ob hf
    refine k_aald hx hb hK hP 7 2 (RA_lt) (RA_at) rfl hj29 rfl d_LR_passRouter_29 ?_
    refine lv_aload_n hx hb d_LR_passRouter_30 rfl (lv_at hl 1 rfl) ?_
    refine va_get (D := D) (ci := 0) (v := .ref (ad 9)) (C := R_LR) (T := F_LR) (N := 6) hx hb hts in_LR hown hK hP 0 (wl_to (LR_lt) (LR_at)) rfl 5 (by decide) (hts _ fl_LR_58) (fun _ h => h) rfl d_LR_passRouter_31 ?_
    obtain ⟨r34, hc34, hf⟩ := ob hf
    refine k_rdi (k_vir S (c_Packet_topLabel (l := l) (D := D) (n := n) (ad := ad) (G := G) hc34) g_LR_230 hd_Packet_topLabel ⟨rfl, rfl⟩ ⟨Nat.le_of_ble_eq_true rfl, Nat.le_of_ble_eq_true rfl⟩ wl_blind (va_recv hK hP rfl (wl_to (PK_lt) (PK_at))) (wl_pre hP hK hA) rfl hl.1 rfl (Nat.le_of_ble_eq_true rfl) d_LR_passRouter_34 (Nat.zero_le _) (Nat.zero_le _)) ?_
    obtain ⟨r37, hc37, hf⟩ := ob hf
    refine k_rdi (k_vir S (c_Router_prefixOf (l := l) (D := D) (n := n) (ad := ad) (G := G) (ix_lt hj29) hc37) g_LR_236 hd_Router_prefixOf ⟨rfl, rfl⟩ ⟨Nat.le_of_ble_eq_true rfl, Nat.le_of_ble_eq_true rfl⟩ wl_blind (va_recv hK hP rfl (wl_to (RT_lt (ix_lt hj29)) (RT_at (ix_lt hj29)))) (wl_pre hP hK hA) rfl hl.1 rfl (Nat.le_of_ble_eq_true rfl) d_LR_passRouter_37 (Nat.zero_le _) (Nat.zero_le _)) ?_
    refine lv_istore_n (lv' := [(2, .int r37), (1, .int r4), (0, .ref (ad 0))]) hx hb d_LR_passRouter_40 rfl hl (by decide) rfl (fun ls hl => ?_)
    refine lv_iload_n hx hb d_LR_passRouter_41 rfl (lv_at hl 0 rfl) ?_
    refine lv_iconst (v := (-1)) hx hb d_LR_passRouter_42 (by decide) ?_
    refine lv_icmp_ne (tgt := 48) hx hb d_LR_passRouter_43 (by decide) (fun h43 => ?_) (fun h43 => ?_)
    · rw [if_neg h43] at hf
      refine lv_aload_n hx hb d_LR_passRouter_48 rfl (lv_at hl 2 rfl) ?_
      refine va_get (D := D) (ci := 0) (v := .ref (ad 1)) (C := R_LR) (T := F_LR) (N := 6) hx hb hts in_LR hown hK hP 0 (wl_to (LR_lt) (LR_at)) rfl 1 (by decide) (hts _ fl_LR_27) (fun _ h => h) rfl d_LR_passRouter_49 ?_
      refine lv_iload_n hx hb d_LR_passRouter_52 rfl (lv_at hl 1 rfl) ?_
      refine lv_iload_n hx hb d_LR_passRouter_53 rfl (lv_at hl 0 rfl) ?_
      obtain ⟨r54, hc54, hf⟩ := ob hf
      refine k_rdi (k_vir S (c_Ways_owns (l := l) (D := D) (n := n) (ad := ad) (G := G) hc54) g_LR_193 hd_Ways_owns ⟨rfl, rfl⟩ ⟨Nat.le_of_ble_eq_true rfl, Nat.le_of_ble_eq_true rfl⟩ wl_blind (va_recv hK hP rfl (wl_to (Ways_lt) (Ways_at))) (wl_pre hP hK hA) rfl hl.1 rfl (Nat.le_of_ble_eq_true rfl) d_LR_passRouter_54 (Nat.zero_le _) (Nat.zero_le _)) ?_
      refine lv_if_ne (tgt := 68) hx hb d_LR_passRouter_57 (by decide) (fun h57 => ?_) (fun h57 => ?_)
      · rw [if_neg h57] at hf
        refine lv_aload_n hx hb d_LR_passRouter_68 rfl (lv_at hl 2 rfl) ?_
        refine va_get (D := D) (ci := 0) (v := .ref (ad 9)) (C := R_LR) (T := F_LR) (N := 6) hx hb hts in_LR hown hK hP 0 (wl_to (LR_lt) (LR_at)) rfl 5 (by decide) (hts _ fl_LR_58) (fun _ h => h) rfl d_LR_passRouter_69 ?_
        obtain ⟨r72, hc72, hf⟩ := ob hf
        refine k_wrv (k_vir S (c_Packet_pop (l := l) (D := D) (n := n) (ad := ad) (G := G) hc72) g_LR_241 hd_Packet_pop ⟨rfl, rfl⟩ ⟨Nat.le_of_ble_eq_true rfl, Nat.le_of_ble_eq_true rfl⟩ wl_blind (va_recv hK hP rfl (wl_to (PK_lt) (PK_at))) (wl_pre hP hK hA) rfl hl.1 rfl (Nat.le_of_ble_eq_true rfl) d_LR_passRouter_72 (Nat.zero_le _) (Nat.zero_le _)) hS (fun _ h => h) (fun H locs hP _ _ hS => ?_)
        refine lv_aload_n hx hb d_LR_passRouter_75 rfl (lv_at hl 2 rfl) ?_
        refine va_get (D := D) (ci := 0) (v := .ref (ad 9)) (C := R_LR) (T := F_LR) (N := 6) hx hb hts in_LR hown hK hP 0 (wl_to (LR_lt) (LR_at)) rfl 5 (by decide) (hts _ fl_LR_58) (fun _ h => h) rfl d_LR_passRouter_76 ?_
        obtain ⟨r79, hc79, hf⟩ := ob hf
        refine k_rdi (k_vir S (c_Packet_isForService (l := l) (D := D) (n := n) (ad := ad) (G := G) hc79) g_LR_244 hd_Packet_isForService ⟨rfl, rfl⟩ ⟨Nat.le_of_ble_eq_true rfl, Nat.le_of_ble_eq_true rfl⟩ wl_blind (va_recv hK hP rfl (wl_to (PK_lt) (PK_at))) (wl_pre hP hK hA) rfl hl.1 rfl (Nat.le_of_ble_eq_true rfl) d_LR_passRouter_79 (Nat.zero_le _) (Nat.zero_le _)) ?_
        refine lv_if_eq (tgt := 93) hx hb d_LR_passRouter_82 (by decide) (fun h82 => ?_) (fun h82 => ?_)
        · rw [if_pos h82] at hf
          refine lv_aload_n hx hb d_LR_passRouter_93 rfl (lv_at hl 2 rfl) ?_
          refine lv_iload_n hx hb d_LR_passRouter_94 rfl (lv_at hl 1 rfl) ?_
          obtain ⟨r95, hc95, hf⟩ := ob hf
          refine k_wri (k_vir S (c_LR_passUnlabelled (l := l) (D := D) (n := n) (ad := ad) (G := G) hc95) g_LR_233 hd_LR_passUnlabelled ⟨rfl, rfl⟩ ⟨Nat.le_of_ble_eq_true rfl, Nat.le_of_ble_eq_true rfl⟩ wl_blind (va_recv hK hP rfl (wl_to (LR_lt) (LR_at))) (wl_pre hP hK hA) rfl hl.1 rfl (Nat.le_of_ble_eq_true rfl) d_LR_passRouter_95 (Nat.zero_le _) (Nat.zero_le _)) hS (fun _ h => h) (fun H locs hP _ _ hS => ?_)
          cases hf
          exact w_iret hx hb hr hlk hP hS d_LR_passRouter_98
        · rw [if_neg h82] at hf
          refine lv_aload_n hx hb d_LR_passRouter_85 rfl (lv_at hl 2 rfl) ?_
          refine lv_iload_n hx hb d_LR_passRouter_86 rfl (lv_at hl 1 rfl) ?_
          obtain ⟨r87, hc87, hf⟩ := ob hf
          refine k_rdi (k_vir S (c_LR_tryService (l := l) (D := D) (n := n) (ad := ad) (G := G) hc87) g_LR_248 hd_LR_tryService ⟨rfl, rfl⟩ ⟨Nat.le_of_ble_eq_true rfl, Nat.le_of_ble_eq_true rfl⟩ wl_blind (va_recv hK hP rfl (wl_to (LR_lt) (LR_at))) (wl_pre hP hK hA) rfl hl.1 rfl (Nat.le_of_ble_eq_true rfl) d_LR_passRouter_87 (Nat.zero_le _) (Nat.zero_le _)) ?_
          refine lv_goto (tgt := 98) hx hb d_LR_passRouter_90 (by decide) ?_
          cases hf
          exact w_iret hx hb hr hlk hP hS d_LR_passRouter_98
      · rw [if_pos h57] at hf
        refine lv_aload_n hx hb d_LR_passRouter_60 rfl (lv_at hl 2 rfl) ?_
        refine lv_iload_n hx hb d_LR_passRouter_61 rfl (lv_at hl 1 rfl) ?_
        refine lv_iload_n hx hb d_LR_passRouter_62 rfl (lv_at hl 0 rfl) ?_
        refine lv_iconst (v := 1) hx hb d_LR_passRouter_63 (by decide) ?_
        obtain ⟨r64, hc64, hf⟩ := ob hf
        refine k_wri (k_vir S (c_LR_goOn (l := l) (D := D) (n := n) (ad := ad) (G := G) hc64) g_LR_237 hd_LR_goOn ⟨rfl, rfl⟩ ⟨Nat.le_of_ble_eq_true rfl, Nat.le_of_ble_eq_true rfl⟩ wl_blind (va_recv hK hP rfl (wl_to (LR_lt) (LR_at))) (wl_pre hP hK hA) rfl hl.1 rfl (Nat.le_of_ble_eq_true rfl) d_LR_passRouter_64 (Nat.zero_le _) (Nat.zero_le _)) hS (fun _ h => h) (fun H locs hP _ _ hS => ?_)
        cases hf
        exact w_iret hx hb hr hlk hP hS d_LR_passRouter_67
    · rw [if_pos h43] at hf
      refine lv_iconst (v := 3) hx hb d_LR_passRouter_46 (by decide) ?_
      cases hf
      exact w_iret hx hb hr hlk hP hS d_LR_passRouter_47
  · rw [if_pos h15] at hf
    refine lv_aload_n hx hb d_LR_passRouter_18 rfl (lv_at hl 1 rfl) ?_
    refine lv_iload_n hx hb d_LR_passRouter_19 rfl (lv_at hl 0 rfl) ?_
    obtain ⟨r20, hc20, hf⟩ := ob hf
    refine k_wri (k_vir S (c_LR_passUnlabelled (l := l) (D := D) (n := n) (ad := ad) (G := G) hc20) g_LR_233 hd_LR_passUnlabelled ⟨rfl, rfl⟩ ⟨Nat.le_of_ble_eq_true rfl, Nat.le_of_ble_eq_true rfl⟩ wl_blind (va_recv hK hP rfl (wl_to (LR_lt) (LR_at))) (wl_pre hP hK hA) rfl hl.1 rfl (Nat.le_of_ble_eq_true rfl) d_LR_passRouter_20 (Nat.zero_le _) (Nat.zero_le _)) hS (fun _ h => h) (fun H locs hP _ _ hS => ?_)
    cases hf
    exact w_iret hx hb hr hlk hP hS d_LR_passRouter_23
def f_LR_link (n : Nat) (a : Int32) (b : Int32) (z : Int32) (M : Mem) : Option (Int32 × Mem) :=
  (f_LR_checkTwoRouters n a b M).bind fun r3 => (f_LR_checkRange z 0 15).bind fun r10 => (f_Ways_costOf n a b M).bind fun r19 => if z = r19 then (some (r19, M)) else ((f_Ways_setCost n a b z M).bind fun r40 => if z = 0 then ((f_LR_cutOff n a b r40).bind fun r50 => (f_LR_settleAll n r50).bind fun r90 => some (r19, r90)) else (if r19 = 0 then ((f_LR_tellLabels n (if b < a then b else a) (if a < b then b else a) r40).bind fun r72 => (f_LR_tellLabels n (if a < b then b else a) (if b < a then b else a) r72).bind fun r86 => (f_LR_settleAll n r86).bind fun r90 => some (r19, r90)) else ((f_LR_settleAll n r40).bind fun r90 => some (r19, r90))))
abbrev rm_LR_link : Room := { frames := 6, cells := 0, slots := 0, locals := 136 }
set_option maxHeartbeats 4000000 in
set_option maxRecDepth 100000 in
theorem c_LR_link {l : Launch} {D : va_G} {n : Nat} {ad : Nat → Nat} {G : Nat → ClassId} {a : Int32} {b : Int32} {z : Int32}  {M : Mem} {x : Int32 × Mem} (hf : f_LR_link n a b z M = some x) : Met l y_LR_link (wc y_LR_link b_LR_link 5 (some .int)) rm_LR_link (va_Pc [.ref (ad 0), .int a, .int b, .int z] (cB D n ad G M)) (wr_Q (some (.int x.1)) D cls (cK n) ad (cE n ad G x.2)) 0 0 (wl_A (cK n) ad) := by
  refine k_met (by decide) (Nat.le_of_ble_eq_true rfl) ?_
  intro p e s m args below meth c S hr hlk hB ls hl
  obtain ⟨hx, hb, hml, hown, hts⟩ := id S
  obtain ⟨hP, hK, hA0⟩ := hB
  have hA := wl_own hA0
  have hl : lv_has ls 5 [(0, .ref (ad 0)), (1, .int a), (2, .int b), (3, .int z)] := hl
  have hS : va_S (wl_A (cK n) ad) s.heap s.heap [] := va_S.rf
  unfold f_LR_link at hf
  refine lv_aload_n hx hb d_LR_link_0 rfl (lv_at hl 0 rfl) ?_
  refine lv_iload_n hx hb d_LR_link_1 rfl (lv_at hl 1 rfl) ?_
  refine lv_iload_n hx hb d_LR_link_2 rfl (lv_at hl 2 rfl) ?_
  obtain ⟨r3, hc3, hf⟩ := ob hf
  refine k_rdv (k_vir S (c_LR_checkTwoRouters (l := l) (D := D) (n := n) (ad := ad) (G := G) hc3) g_LR_62 hd_LR_checkTwoRouters ⟨rfl, rfl⟩ ⟨Nat.le_of_ble_eq_true rfl, Nat.le_of_ble_eq_true rfl⟩ wl_blind (va_recv hK hP rfl (wl_to (LR_lt) (LR_at))) (wl_pre hP hK hA) rfl hl.1 rfl (Nat.le_of_ble_eq_true rfl) d_LR_link_3 (Nat.zero_le _) (Nat.zero_le _)) ?_
  refine lv_iload_n hx hb d_LR_link_6 rfl (lv_at hl 3 rfl) ?_
  refine lv_iconst (v := 0) hx hb d_LR_link_7 (by decide) ?_
  refine lv_bipush (v := 15) hx hb d_LR_link_8 (by decide) ?_
  obtain ⟨r10, hc10, hf⟩ := ob hf
  refine k_rdv (k_sta S (c_LR_checkRange (l := l) (D := D) (n := n) (ad := ad) (G := G) hc10) g_LR_66 hd_LR_checkRange ⟨rfl, rfl⟩ ⟨Nat.le_of_ble_eq_true rfl, Nat.le_of_ble_eq_true rfl⟩ wl_blind (wl_pre hP hK hA) rfl hl.1 rfl (Nat.le_of_ble_eq_true rfl) d_LR_link_10 (Nat.zero_le _) (Nat.zero_le _)) ?_
  refine lv_aload_n hx hb d_LR_link_13 rfl (lv_at hl 0 rfl) ?_
  refine va_get (D := D) (ci := 0) (v := .ref (ad 1)) (C := R_LR) (T := F_LR) (N := 6) hx hb hts in_LR hown hK hP 0 (wl_to (LR_lt) (LR_at)) rfl 1 (by decide) (hts _ fl_LR_27) (fun _ h => h) rfl d_LR_link_14 ?_
  refine lv_iload_n hx hb d_LR_link_17 rfl (lv_at hl 1 rfl) ?_
  refine lv_iload_n hx hb d_LR_link_18 rfl (lv_at hl 2 rfl) ?_
  obtain ⟨r19, hc19, hf⟩ := ob hf
  refine k_rdi (k_vir S (c_Ways_costOf (l := l) (D := D) (n := n) (ad := ad) (G := G) hc19) g_LR_70 hd_Ways_costOf ⟨rfl, rfl⟩ ⟨Nat.le_of_ble_eq_true rfl, Nat.le_of_ble_eq_true rfl⟩ wl_blind (va_recv hK hP rfl (wl_to (Ways_lt) (Ways_at))) (wl_pre hP hK hA) rfl hl.1 rfl (Nat.le_of_ble_eq_true rfl) d_LR_link_19 (Nat.zero_le _) (Nat.zero_le _)) ?_
  refine lv_istore (lv' := [(4, .int r19), (0, .ref (ad 0)), (1, .int a), (2, .int b), (3, .int z)]) hx hb d_LR_link_22 hl (by decide) rfl (fun ls hl => ?_)
  refine lv_iload_n hx hb d_LR_link_24 rfl (lv_at hl 4 rfl) ?_
  refine lv_iload hx hb d_LR_link_25 (lv_at hl 0 rfl) ?_
  refine lv_icmp_ne (tgt := 33) hx hb d_LR_link_27 (by decide) (fun h27 => ?_) (fun h27 => ?_)
  · rw [if_neg h27] at hf
    refine lv_aload_n hx hb d_LR_link_33 rfl (lv_at hl 1 rfl) ?_
    refine va_get (D := D) (ci := 0) (v := .ref (ad 1)) (C := R_LR) (T := F_LR) (N := 6) hx hb hts in_LR hown hK hP 0 (wl_to (LR_lt) (LR_at)) rfl 1 (by decide) (hts _ fl_LR_27) (fun _ h => h) rfl d_LR_link_34 ?_
    refine lv_iload_n hx hb d_LR_link_37 rfl (lv_at hl 2 rfl) ?_
    refine lv_iload_n hx hb d_LR_link_38 rfl (lv_at hl 3 rfl) ?_
    refine lv_iload_n hx hb d_LR_link_39 rfl (lv_at hl 4 rfl) ?_
    obtain ⟨r40, hc40, hf⟩ := ob hf
    refine k_wrv (k_vir S (c_Ways_setCost (l := l) (D := D) (n := n) (ad := ad) (G := G) hc40) g_LR_73 hd_Ways_setCost ⟨rfl, rfl⟩ ⟨Nat.le_of_ble_eq_true rfl, Nat.le_of_ble_eq_true rfl⟩ wl_blind (va_recv hK hP rfl (wl_to (Ways_lt) (Ways_at))) (wl_pre hP hK hA) rfl hl.1 rfl (Nat.le_of_ble_eq_true rfl) d_LR_link_40 (Nat.zero_le _) (Nat.zero_le _)) hS (fun _ h => h) (fun H locs hP _ _ hS => ?_)
    refine lv_iload_n hx hb d_LR_link_43 rfl (lv_at hl 4 rfl) ?_
    refine lv_if_ne (tgt := 56) hx hb d_LR_link_44 (by decide) (fun h44 => ?_) (fun h44 => ?_)
    · rw [if_neg h44] at hf
      refine lv_iload hx hb d_LR_link_56 (lv_at hl 0 rfl) ?_
      refine lv_if_ne (tgt := 89) hx hb d_LR_link_58 (by decide) (fun h58 => ?_) (fun h58 => ?_)
      · rw [if_neg h58] at hf
        refine lv_aload_n hx hb d_LR_link_89 rfl (lv_at hl 1 rfl) ?_
        obtain ⟨r90, hc90, hf⟩ := ob hf
        refine k_wrv (k_vir S (c_LR_settleAll (l := l) (D := D) (n := n) (ad := ad) (G := G) hc90) g_LR_82 hd_LR_settleAll ⟨rfl, rfl⟩ ⟨Nat.le_of_ble_eq_true rfl, Nat.le_of_ble_eq_true rfl⟩ wl_blind (va_recv hK hP rfl (wl_to (LR_lt) (LR_at))) (wl_pre hP hK hA) rfl hl.1 rfl (Nat.le_of_ble_eq_true rfl) d_LR_link_90 (Nat.zero_le _) (Nat.zero_le _)) hS (fun _ h => h) (fun H locs hP _ _ hS => ?_)
        refine lv_iload hx hb d_LR_link_93 (lv_at hl 0 rfl) ?_
        cases hf
        exact w_iret hx hb hr hlk hP hS d_LR_link_95
      · rw [if_pos h58] at hf
        refine lv_aload_n hx hb d_LR_link_61 rfl (lv_at hl 1 rfl) ?_
        refine lv_iload_n hx hb d_LR_link_62 rfl (lv_at hl 2 rfl) ?_
        refine lv_iload_n hx hb d_LR_link_63 rfl (lv_at hl 3 rfl) ?_
        refine va_mmin hx hb (hml.trans hl.1.symm) hown (hts _ ml_LR_9) (hts _ ma_smin) (hts _ ma_ini) (hts _ ma_cmin) (by decide) (Nat.le_of_ble_eq_true rfl) (Nat.zero_le _) (Nat.zero_le _) d_LR_link_64 ?_
        refine lv_iload_n hx hb d_LR_link_67 rfl (lv_at hl 2 rfl) ?_
        refine lv_iload_n hx hb d_LR_link_68 rfl (lv_at hl 3 rfl) ?_
        refine va_mmax hx hb (hml.trans hl.1.symm) hown (hts _ ml_LR_15) (hts _ ma_smax) (hts _ ma_ini) (hts _ ma_cmax) (by decide) (Nat.le_of_ble_eq_true rfl) (Nat.zero_le _) (Nat.zero_le _) d_LR_link_69 ?_
        obtain ⟨r72, hc72, hf⟩ := ob hf
        refine k_wrv (k_vir S (c_LR_tellLabels (l := l) (D := D) (n := n) (ad := ad) (G := G) hc72) g_LR_79 hd_LR_tellLabels ⟨rfl, rfl⟩ ⟨Nat.le_of_ble_eq_true rfl, Nat.le_of_ble_eq_true rfl⟩ wl_blind (va_recv hK hP rfl (wl_to (LR_lt) (LR_at))) (wl_pre hP hK hA) rfl hl.1 rfl (Nat.le_of_ble_eq_true rfl) d_LR_link_72 (Nat.zero_le _) (Nat.zero_le _)) hS (fun _ h => h) (fun H locs hP _ _ hS => ?_)
        refine lv_aload_n hx hb d_LR_link_75 rfl (lv_at hl 1 rfl) ?_
        refine lv_iload_n hx hb d_LR_link_76 rfl (lv_at hl 2 rfl) ?_
        refine lv_iload_n hx hb d_LR_link_77 rfl (lv_at hl 3 rfl) ?_
        refine va_mmax hx hb (hml.trans hl.1.symm) hown (hts _ ml_LR_15) (hts _ ma_smax) (hts _ ma_ini) (hts _ ma_cmax) (by decide) (Nat.le_of_ble_eq_true rfl) (Nat.zero_le _) (Nat.zero_le _) d_LR_link_78 ?_
        refine lv_iload_n hx hb d_LR_link_81 rfl (lv_at hl 2 rfl) ?_
        refine lv_iload_n hx hb d_LR_link_82 rfl (lv_at hl 3 rfl) ?_
        refine va_mmin hx hb (hml.trans hl.1.symm) hown (hts _ ml_LR_9) (hts _ ma_smin) (hts _ ma_ini) (hts _ ma_cmin) (by decide) (Nat.le_of_ble_eq_true rfl) (Nat.zero_le _) (Nat.zero_le _) d_LR_link_83 ?_
        obtain ⟨r86, hc86, hf⟩ := ob hf
        refine k_wrv (k_vir S (c_LR_tellLabels (l := l) (D := D) (n := n) (ad := ad) (G := G) hc86) g_LR_79 hd_LR_tellLabels ⟨rfl, rfl⟩ ⟨Nat.le_of_ble_eq_true rfl, Nat.le_of_ble_eq_true rfl⟩ wl_blind (va_recv hK hP rfl (wl_to (LR_lt) (LR_at))) (wl_pre hP hK hA) rfl hl.1 rfl (Nat.le_of_ble_eq_true rfl) d_LR_link_86 (Nat.zero_le _) (Nat.zero_le _)) hS (fun _ h => h) (fun H locs hP _ _ hS => ?_)
        refine lv_aload_n hx hb d_LR_link_89 rfl (lv_at hl 1 rfl) ?_
        obtain ⟨r90, hc90, hf⟩ := ob hf
        refine k_wrv (k_vir S (c_LR_settleAll (l := l) (D := D) (n := n) (ad := ad) (G := G) hc90) g_LR_82 hd_LR_settleAll ⟨rfl, rfl⟩ ⟨Nat.le_of_ble_eq_true rfl, Nat.le_of_ble_eq_true rfl⟩ wl_blind (va_recv hK hP rfl (wl_to (LR_lt) (LR_at))) (wl_pre hP hK hA) rfl hl.1 rfl (Nat.le_of_ble_eq_true rfl) d_LR_link_90 (Nat.zero_le _) (Nat.zero_le _)) hS (fun _ h => h) (fun H locs hP _ _ hS => ?_)
        refine lv_iload hx hb d_LR_link_93 (lv_at hl 0 rfl) ?_
        cases hf
        exact w_iret hx hb hr hlk hP hS d_LR_link_95
    · rw [if_pos h44] at hf
      refine lv_aload_n hx hb d_LR_link_47 rfl (lv_at hl 1 rfl) ?_
      refine lv_iload_n hx hb d_LR_link_48 rfl (lv_at hl 2 rfl) ?_
      refine lv_iload_n hx hb d_LR_link_49 rfl (lv_at hl 3 rfl) ?_
      obtain ⟨r50, hc50, hf⟩ := ob hf
      refine k_wrv (k_vir S (c_LR_cutOff (l := l) (D := D) (n := n) (ad := ad) (G := G) hc50) g_LR_76 hd_LR_cutOff ⟨rfl, rfl⟩ ⟨Nat.le_of_ble_eq_true rfl, Nat.le_of_ble_eq_true rfl⟩ wl_blind (va_recv hK hP rfl (wl_to (LR_lt) (LR_at))) (wl_pre hP hK hA) rfl hl.1 rfl (Nat.le_of_ble_eq_true rfl) d_LR_link_50 (Nat.zero_le _) (Nat.zero_le _)) hS (fun _ h => h) (fun H locs hP _ _ hS => ?_)
      refine lv_goto (tgt := 89) hx hb d_LR_link_53 (by decide) ?_
      refine lv_aload_n hx hb d_LR_link_89 rfl (lv_at hl 1 rfl) ?_
      obtain ⟨r90, hc90, hf⟩ := ob hf
      refine k_wrv (k_vir S (c_LR_settleAll (l := l) (D := D) (n := n) (ad := ad) (G := G) hc90) g_LR_82 hd_LR_settleAll ⟨rfl, rfl⟩ ⟨Nat.le_of_ble_eq_true rfl, Nat.le_of_ble_eq_true rfl⟩ wl_blind (va_recv hK hP rfl (wl_to (LR_lt) (LR_at))) (wl_pre hP hK hA) rfl hl.1 rfl (Nat.le_of_ble_eq_true rfl) d_LR_link_90 (Nat.zero_le _) (Nat.zero_le _)) hS (fun _ h => h) (fun H locs hP _ _ hS => ?_)
      refine lv_iload hx hb d_LR_link_93 (lv_at hl 0 rfl) ?_
      cases hf
      exact w_iret hx hb hr hlk hP hS d_LR_link_95
  · rw [if_pos h27] at hf
    refine lv_iload hx hb d_LR_link_30 (lv_at hl 0 rfl) ?_
    cases hf
    exact w_iret hx hb hr hlk hP hS d_LR_link_32
def f_LR_own (n : Nat) (a : Int32) (b : Int32) (M : Mem) : Option (Int32 × Mem) :=
  (f_LR_checkPrefix a).bind fun r1 => (f_LR_checkRouterOrNone n b M).bind fun r6 => (f_Ways_ownerOf n a M).bind fun r14 => if b = r14 then (some (r14, M)) else ((f_Ways_setOwner n a b M).bind fun r29 => (f_LR_settleAll n r29).bind fun r33 => some (r14, r33))
abbrev rm_LR_own : Room := { frames := 6, cells := 0, slots := 0, locals := 136 }
set_option maxHeartbeats 4000000 in
set_option maxRecDepth 100000 in
theorem c_LR_own {l : Launch} {D : va_G} {n : Nat} {ad : Nat → Nat} {G : Nat → ClassId} {a : Int32} {b : Int32}  {M : Mem} {x : Int32 × Mem} (hf : f_LR_own n a b M = some x) : Met l y_LR_own (wc y_LR_own b_LR_own 4 (some .int)) rm_LR_own (va_Pc [.ref (ad 0), .int a, .int b] (cB D n ad G M)) (wr_Q (some (.int x.1)) D cls (cK n) ad (cE n ad G x.2)) 0 0 (wl_A (cK n) ad) := by
  refine k_met (by decide) (Nat.le_of_ble_eq_true rfl) ?_
  intro p e s m args below meth c S hr hlk hB ls hl
  obtain ⟨hx, hb, hml, hown, hts⟩ := id S
  obtain ⟨hP, hK, hA0⟩ := hB
  have hA := wl_own hA0
  have hl : lv_has ls 4 [(0, .ref (ad 0)), (1, .int a), (2, .int b)] := hl
  have hS : va_S (wl_A (cK n) ad) s.heap s.heap [] := va_S.rf
  unfold f_LR_own at hf
  refine lv_iload_n hx hb d_LR_own_0 rfl (lv_at hl 1 rfl) ?_
  obtain ⟨r1, hc1, hf⟩ := ob hf
  refine k_rdv (k_sta S (c_LR_checkPrefix (l := l) (D := D) (n := n) (ad := ad) (G := G) hc1) g_LR_85 hd_LR_checkPrefix ⟨rfl, rfl⟩ ⟨Nat.le_of_ble_eq_true rfl, Nat.le_of_ble_eq_true rfl⟩ wl_blind (wl_pre hP hK hA) rfl hl.1 rfl (Nat.le_of_ble_eq_true rfl) d_LR_own_1 (Nat.zero_le _) (Nat.zero_le _)) ?_
  refine lv_aload_n hx hb d_LR_own_4 rfl (lv_at hl 0 rfl) ?_
  refine lv_iload_n hx hb d_LR_own_5 rfl (lv_at hl 2 rfl) ?_
  obtain ⟨r6, hc6, hf⟩ := ob hf
  refine k_rdv (k_vir S (c_LR_checkRouterOrNone (l := l) (D := D) (n := n) (ad := ad) (G := G) hc6) g_LR_88 hd_LR_checkRouterOrNone ⟨rfl, rfl⟩ ⟨Nat.le_of_ble_eq_true rfl, Nat.le_of_ble_eq_true rfl⟩ wl_blind (va_recv hK hP rfl (wl_to (LR_lt) (LR_at))) (wl_pre hP hK hA) rfl hl.1 rfl (Nat.le_of_ble_eq_true rfl) d_LR_own_6 (Nat.zero_le _) (Nat.zero_le _)) ?_
  refine lv_aload_n hx hb d_LR_own_9 rfl (lv_at hl 0 rfl) ?_
  refine va_get (D := D) (ci := 0) (v := .ref (ad 1)) (C := R_LR) (T := F_LR) (N := 6) hx hb hts in_LR hown hK hP 0 (wl_to (LR_lt) (LR_at)) rfl 1 (by decide) (hts _ fl_LR_27) (fun _ h => h) rfl d_LR_own_10 ?_
  refine lv_iload_n hx hb d_LR_own_13 rfl (lv_at hl 1 rfl) ?_
  obtain ⟨r14, hc14, hf⟩ := ob hf
  refine k_rdi (k_vir S (c_Ways_ownerOf (l := l) (D := D) (n := n) (ad := ad) (G := G) hc14) g_LR_91 hd_Ways_ownerOf ⟨rfl, rfl⟩ ⟨Nat.le_of_ble_eq_true rfl, Nat.le_of_ble_eq_true rfl⟩ wl_blind (va_recv hK hP rfl (wl_to (Ways_lt) (Ways_at))) (wl_pre hP hK hA) rfl hl.1 rfl (Nat.le_of_ble_eq_true rfl) d_LR_own_14 (Nat.zero_le _) (Nat.zero_le _)) ?_
  refine lv_istore_n (lv' := [(3, .int r14), (0, .ref (ad 0)), (1, .int a), (2, .int b)]) hx hb d_LR_own_17 rfl hl (by decide) rfl (fun ls hl => ?_)
  refine lv_iload_n hx hb d_LR_own_18 rfl (lv_at hl 3 rfl) ?_
  refine lv_iload_n hx hb d_LR_own_19 rfl (lv_at hl 0 rfl) ?_
  refine lv_icmp_eq (tgt := 36) hx hb d_LR_own_20 (by decide) (fun h20 => ?_) (fun h20 => ?_)
  · rw [if_pos h20] at hf
    refine lv_iload_n hx hb d_LR_own_36 rfl (lv_at hl 0 rfl) ?_
    cases hf
    exact w_iret hx hb hr hlk hP hS d_LR_own_37
  · rw [if_neg h20] at hf
    refine lv_aload_n hx hb d_LR_own_23 rfl (lv_at hl 1 rfl) ?_
    refine va_get (D := D) (ci := 0) (v := .ref (ad 1)) (C := R_LR) (T := F_LR) (N := 6) hx hb hts in_LR hown hK hP 0 (wl_to (LR_lt) (LR_at)) rfl 1 (by decide) (hts _ fl_LR_27) (fun _ h => h) rfl d_LR_own_24 ?_
    refine lv_iload_n hx hb d_LR_own_27 rfl (lv_at hl 2 rfl) ?_
    refine lv_iload_n hx hb d_LR_own_28 rfl (lv_at hl 3 rfl) ?_
    obtain ⟨r29, hc29, hf⟩ := ob hf
    refine k_wrv (k_vir S (c_Ways_setOwner (l := l) (D := D) (n := n) (ad := ad) (G := G) hc29) g_LR_95 hd_Ways_setOwner ⟨rfl, rfl⟩ ⟨Nat.le_of_ble_eq_true rfl, Nat.le_of_ble_eq_true rfl⟩ wl_blind (va_recv hK hP rfl (wl_to (Ways_lt) (Ways_at))) (wl_pre hP hK hA) rfl hl.1 rfl (Nat.le_of_ble_eq_true rfl) d_LR_own_29 (Nat.zero_le _) (Nat.zero_le _)) hS (fun _ h => h) (fun H locs hP _ _ hS => ?_)
    refine lv_aload_n hx hb d_LR_own_32 rfl (lv_at hl 1 rfl) ?_
    obtain ⟨r33, hc33, hf⟩ := ob hf
    refine k_wrv (k_vir S (c_LR_settleAll (l := l) (D := D) (n := n) (ad := ad) (G := G) hc33) g_LR_82 hd_LR_settleAll ⟨rfl, rfl⟩ ⟨Nat.le_of_ble_eq_true rfl, Nat.le_of_ble_eq_true rfl⟩ wl_blind (va_recv hK hP rfl (wl_to (LR_lt) (LR_at))) (wl_pre hP hK hA) rfl hl.1 rfl (Nat.le_of_ble_eq_true rfl) d_LR_own_33 (Nat.zero_le _) (Nat.zero_le _)) hS (fun _ h => h) (fun H locs hP _ _ hS => ?_)
    refine lv_iload_n hx hb d_LR_own_36 rfl (lv_at hl 0 rfl) ?_
    cases hf
    exact w_iret hx hb hr hlk hP hS d_LR_own_37
def f_LR_serve (n : Nat) (a : Int32) (b : Int32) (M : Mem) : Option (Int32 × Mem) :=
  (f_LR_checkRange a 0 3).bind fun r3 => (f_LR_checkRouterOrNone n b M).bind fun r8 => (ix a 4).bind fun j16 => (ix a 4).bind fun j24 => some ((M 8 0 0 j16), (mset M 8 0 0 j24 b))
abbrev rm_LR_serve : Room := { frames := 2, cells := 0, slots := 0, locals := 43 }
set_option maxHeartbeats 4000000 in
set_option maxRecDepth 100000 in
theorem c_LR_serve {l : Launch} {D : va_G} {n : Nat} {ad : Nat → Nat} {G : Nat → ClassId} {a : Int32} {b : Int32}  {M : Mem} {x : Int32 × Mem} (hf : f_LR_serve n a b M = some x) : Met l y_LR_serve (wc y_LR_serve b_LR_serve 4 (some .int)) rm_LR_serve (va_Pc [.ref (ad 0), .int a, .int b] (cB D n ad G M)) (wr_Q (some (.int x.1)) D cls (cK n) ad (cE n ad G x.2)) 0 0 (wl_A (cK n) ad) := by
  refine k_met (by decide) (Nat.le_of_ble_eq_true rfl) ?_
  intro p e s m args below meth c S hr hlk hB ls hl
  obtain ⟨hx, hb, hml, hown, hts⟩ := id S
  obtain ⟨hP, hK, hA0⟩ := hB
  have hA := wl_own hA0
  have hl : lv_has ls 4 [(0, .ref (ad 0)), (1, .int a), (2, .int b)] := hl
  have hS : va_S (wl_A (cK n) ad) s.heap s.heap [] := va_S.rf
  unfold f_LR_serve at hf
  refine lv_iload_n hx hb d_LR_serve_0 rfl (lv_at hl 1 rfl) ?_
  refine lv_iconst (v := 0) hx hb d_LR_serve_1 (by decide) ?_
  refine lv_iconst (v := 3) hx hb d_LR_serve_2 (by decide) ?_
  obtain ⟨r3, hc3, hf⟩ := ob hf
  refine k_rdv (k_sta S (c_LR_checkRange (l := l) (D := D) (n := n) (ad := ad) (G := G) hc3) g_LR_66 hd_LR_checkRange ⟨rfl, rfl⟩ ⟨Nat.le_of_ble_eq_true rfl, Nat.le_of_ble_eq_true rfl⟩ wl_blind (wl_pre hP hK hA) rfl hl.1 rfl (Nat.le_of_ble_eq_true rfl) d_LR_serve_3 (Nat.zero_le _) (Nat.zero_le _)) ?_
  refine lv_aload_n hx hb d_LR_serve_6 rfl (lv_at hl 0 rfl) ?_
  refine lv_iload_n hx hb d_LR_serve_7 rfl (lv_at hl 2 rfl) ?_
  obtain ⟨r8, hc8, hf⟩ := ob hf
  refine k_rdv (k_vir S (c_LR_checkRouterOrNone (l := l) (D := D) (n := n) (ad := ad) (G := G) hc8) g_LR_88 hd_LR_checkRouterOrNone ⟨rfl, rfl⟩ ⟨Nat.le_of_ble_eq_true rfl, Nat.le_of_ble_eq_true rfl⟩ wl_blind (va_recv hK hP rfl (wl_to (LR_lt) (LR_at))) (wl_pre hP hK hA) rfl hl.1 rfl (Nat.le_of_ble_eq_true rfl) d_LR_serve_8 (Nat.zero_le _) (Nat.zero_le _)) ?_
  refine lv_aload_n hx hb d_LR_serve_11 rfl (lv_at hl 0 rfl) ?_
  refine va_get (D := D) (ci := 0) (v := .ref (ad 8)) (C := R_LR) (T := F_LR) (N := 6) hx hb hts in_LR hown hK hP 0 (wl_to (LR_lt) (LR_at)) rfl 4 (by decide) (hts _ fl_LR_45) (fun _ h => h) rfl d_LR_serve_12 ?_
  refine lv_iload_n hx hb d_LR_serve_15 rfl (lv_at hl 1 rfl) ?_
  obtain ⟨j16, hj16, hf⟩ := ob hf
  refine k_iald hx hb hK hP 8 0 (PL_lt) (PL_at) rfl hj16 d_LR_serve_16 ?_
  refine lv_istore_n (lv' := [(3, .int (M 8 0 0 j16)), (0, .ref (ad 0)), (1, .int a), (2, .int b)]) hx hb d_LR_serve_17 rfl hl (by decide) rfl (fun ls hl => ?_)
  refine lv_aload_n hx hb d_LR_serve_18 rfl (lv_at hl 1 rfl) ?_
  refine va_get (D := D) (ci := 0) (v := .ref (ad 8)) (C := R_LR) (T := F_LR) (N := 6) hx hb hts in_LR hown hK hP 0 (wl_to (LR_lt) (LR_at)) rfl 4 (by decide) (hts _ fl_LR_45) (fun _ h => h) rfl d_LR_serve_19 ?_
  refine lv_iload_n hx hb d_LR_serve_22 rfl (lv_at hl 2 rfl) ?_
  refine lv_iload_n hx hb d_LR_serve_23 rfl (lv_at hl 3 rfl) ?_
  obtain ⟨j24, hj24, hf⟩ := ob hf
  refine m_iast (x := b) hx hb hK hP hA hS cJ 8 0 (PL_lt) (PL_tg) (fun f => PL_row f) rfl hj24 d_LR_serve_24 (fun H locs hP hS => ?_)
  refine lv_iload_n hx hb d_LR_serve_25 rfl (lv_at hl 0 rfl) ?_
  cases hf
  exact w_iret hx hb hr hlk hP hS d_LR_serve_26
def f_LR_step (n : Nat) (a : Int32) (b : Int32) (M : Mem) : Option (Int32 × Mem) :=
  (f_LR_checkTwoRouters n a b M).bind fun r3 => (f_Mail_firstBetween n a b M).bind fun r12 => if r12 = (-1) then (some (0, M)) else ((f_Mail_take n r12 M).bind fun r28 => (f_LR_receive n r28.1 r28.2).bind fun r36 => (f_Mail_kindOf r28.1).bind fun r41 => some (r41, r36))
abbrev rm_LR_step : Room := { frames := 6, cells := 0, slots := 0, locals := 142 }
set_option maxHeartbeats 4000000 in
set_option maxRecDepth 100000 in
theorem c_LR_step {l : Launch} {D : va_G} {n : Nat} {ad : Nat → Nat} {G : Nat → ClassId} {a : Int32} {b : Int32}  {M : Mem} {x : Int32 × Mem} (hf : f_LR_step n a b M = some x) : Met l y_LR_step (wc y_LR_step b_LR_step 5 (some .int)) rm_LR_step (va_Pc [.ref (ad 0), .int a, .int b] (cB D n ad G M)) (wr_Q (some (.int x.1)) D cls (cK n) ad (cE n ad G x.2)) 0 0 (wl_A (cK n) ad) := by
  refine k_met (by decide) (Nat.le_of_ble_eq_true rfl) ?_
  intro p e s m args below meth c S hr hlk hB ls hl
  obtain ⟨hx, hb, hml, hown, hts⟩ := id S
  obtain ⟨hP, hK, hA0⟩ := hB
  have hA := wl_own hA0
  have hl : lv_has ls 5 [(0, .ref (ad 0)), (1, .int a), (2, .int b)] := hl
  have hS : va_S (wl_A (cK n) ad) s.heap s.heap [] := va_S.rf
  unfold f_LR_step at hf
  refine lv_aload_n hx hb d_LR_step_0 rfl (lv_at hl 0 rfl) ?_
  refine lv_iload_n hx hb d_LR_step_1 rfl (lv_at hl 1 rfl) ?_
  refine lv_iload_n hx hb d_LR_step_2 rfl (lv_at hl 2 rfl) ?_
  obtain ⟨r3, hc3, hf⟩ := ob hf
  refine k_rdv (k_vir S (c_LR_checkTwoRouters (l := l) (D := D) (n := n) (ad := ad) (G := G) hc3) g_LR_62 hd_LR_checkTwoRouters ⟨rfl, rfl⟩ ⟨Nat.le_of_ble_eq_true rfl, Nat.le_of_ble_eq_true rfl⟩ wl_blind (va_recv hK hP rfl (wl_to (LR_lt) (LR_at))) (wl_pre hP hK hA) rfl hl.1 rfl (Nat.le_of_ble_eq_true rfl) d_LR_step_3 (Nat.zero_le _) (Nat.zero_le _)) ?_
  refine lv_aload_n hx hb d_LR_step_6 rfl (lv_at hl 0 rfl) ?_
  refine va_get (D := D) (ci := 0) (v := .ref (ad 5)) (C := R_LR) (T := F_LR) (N := 6) hx hb hts in_LR hown hK hP 0 (wl_to (LR_lt) (LR_at)) rfl 2 (by decide) (hts _ fl_LR_34) (fun _ h => h) rfl d_LR_step_7 ?_
  refine lv_iload_n hx hb d_LR_step_10 rfl (lv_at hl 1 rfl) ?_
  refine lv_iload_n hx hb d_LR_step_11 rfl (lv_at hl 2 rfl) ?_
  obtain ⟨r12, hc12, hf⟩ := ob hf
  refine k_rdi (k_vir S (c_Mail_firstBetween (l := l) (D := D) (n := n) (ad := ad) (G := G) hc12) g_LR_98 hd_Mail_firstBetween ⟨rfl, rfl⟩ ⟨Nat.le_of_ble_eq_true rfl, Nat.le_of_ble_eq_true rfl⟩ wl_blind (va_recv hK hP rfl (wl_to (Mail_lt) (Mail_at))) (wl_pre hP hK hA) rfl hl.1 rfl (Nat.le_of_ble_eq_true rfl) d_LR_step_12 (Nat.zero_le _) (Nat.zero_le _)) ?_
  refine lv_istore_n (lv' := [(3, .int r12), (0, .ref (ad 0)), (1, .int a), (2, .int b)]) hx hb d_LR_step_15 rfl hl (by decide) rfl (fun ls hl => ?_)
  refine lv_iload_n hx hb d_LR_step_16 rfl (lv_at hl 0 rfl) ?_
  refine lv_iconst (v := (-1)) hx hb d_LR_step_17 (by decide) ?_
  refine lv_icmp_ne (tgt := 23) hx hb d_LR_step_18 (by decide) (fun h18 => ?_) (fun h18 => ?_)
  · rw [if_neg h18] at hf
    refine lv_aload_n hx hb d_LR_step_23 rfl (lv_at hl 1 rfl) ?_
    refine va_get (D := D) (ci := 0) (v := .ref (ad 5)) (C := R_LR) (T := F_LR) (N := 6) hx hb hts in_LR hown hK hP 0 (wl_to (LR_lt) (LR_at)) rfl 2 (by decide) (hts _ fl_LR_34) (fun _ h => h) rfl d_LR_step_24 ?_
    refine lv_iload_n hx hb d_LR_step_27 rfl (lv_at hl 0 rfl) ?_
    obtain ⟨r28, hc28, hf⟩ := ob hf
    refine k_wri (k_vir S (c_Mail_take (l := l) (D := D) (n := n) (ad := ad) (G := G) hc28) g_LR_101 hd_Mail_take ⟨rfl, rfl⟩ ⟨Nat.le_of_ble_eq_true rfl, Nat.le_of_ble_eq_true rfl⟩ wl_blind (va_recv hK hP rfl (wl_to (Mail_lt) (Mail_at))) (wl_pre hP hK hA) rfl hl.1 rfl (Nat.le_of_ble_eq_true rfl) d_LR_step_28 (Nat.zero_le _) (Nat.zero_le _)) hS (fun _ h => h) (fun H locs hP _ _ hS => ?_)
    refine lv_istore (lv' := [(4, .int r28.1), (3, .int r12), (0, .ref (ad 0)), (1, .int a), (2, .int b)]) hx hb d_LR_step_31 hl (by decide) rfl (fun ls hl => ?_)
    refine lv_aload_n hx hb d_LR_step_33 rfl (lv_at hl 2 rfl) ?_
    refine lv_iload hx hb d_LR_step_34 (lv_at hl 0 rfl) ?_
    obtain ⟨r36, hc36, hf⟩ := ob hf
    refine k_wrv (k_vir S (c_LR_receive (l := l) (D := D) (n := n) (ad := ad) (G := G) hc36) g_LR_104 hd_LR_receive ⟨rfl, rfl⟩ ⟨Nat.le_of_ble_eq_true rfl, Nat.le_of_ble_eq_true rfl⟩ wl_blind (va_recv hK hP rfl (wl_to (LR_lt) (LR_at))) (wl_pre hP hK hA) rfl hl.1 rfl (Nat.le_of_ble_eq_true rfl) d_LR_step_36 (Nat.zero_le _) (Nat.zero_le _)) hS (fun _ h => h) (fun H locs hP _ _ hS => ?_)
    refine lv_iload hx hb d_LR_step_39 (lv_at hl 0 rfl) ?_
    obtain ⟨r41, hc41, hf⟩ := ob hf
    refine k_rdi (k_sta S (c_Mail_kindOf (l := l) (D := D) (n := n) (ad := ad) (G := G) hc41) g_LR_107 hd_Mail_kindOf ⟨rfl, rfl⟩ ⟨Nat.le_of_ble_eq_true rfl, Nat.le_of_ble_eq_true rfl⟩ wl_blind (wl_pre hP hK hA) rfl hl.1 rfl (Nat.le_of_ble_eq_true rfl) d_LR_step_41 (Nat.zero_le _) (Nat.zero_le _)) ?_
    cases hf
    exact w_iret hx hb hr hlk hP hS d_LR_step_44
  · rw [if_pos h18] at hf
    refine lv_iconst (v := 0) hx hb d_LR_step_21 (by decide) ?_
    cases hf
    exact w_iret hx hb hr hlk hP hS d_LR_step_22
def f_LR_run_10 (n : Nat) (a : Int32) : Nat → Int32 → Mem → Option (Int32 × Mem)
  | 0, _, _ => none
  | k10 + 1, v2_10, N10 =>
    if a ≤ v2_10 then (some (v2_10, N10)) else ((f_Mail_size n N10).bind fun r19 => if r19 ≤ 0 then (some (v2_10, N10)) else ((f_Mail_take n 0 N10).bind fun r31 => (f_LR_receive n r31.1 r31.2).bind fun r34 => f_LR_run_10 n a k10 (v2_10 + 1) r34))
def f_LR_run (n : Nat) (a : Int32) (M : Mem) : Option (Int32 × Mem) :=
  (f_LR_checkRange a 0 400).bind fun r5 => f_LR_run_10 n a 1000 0 M
abbrev rm_LR_run : Room := { frames := 6, cells := 0, slots := 0, locals := 142 }
set_option maxHeartbeats 4000000 in
set_option maxRecDepth 100000 in
theorem c_LR_run {l : Launch} {D : va_G} {n : Nat} {ad : Nat → Nat} {G : Nat → ClassId} {a : Int32}  {M : Mem} {x : Int32 × Mem} (hf : f_LR_run n a M = some x) : Met l y_LR_run (wc y_LR_run b_LR_run 3 (some .int)) rm_LR_run (va_Pc [.ref (ad 0), .int a] (cB D n ad G M)) (wr_Q (some (.int x.1)) D cls (cK n) ad (cE n ad G x.2)) 0 0 (wl_A (cK n) ad) := by
  refine k_met (by decide) (Nat.le_of_ble_eq_true rfl) ?_
  intro p e s m args below meth c S hr hlk hB ls hl
  obtain ⟨hx, hb, hml, hown, hts⟩ := id S
  obtain ⟨hP, hK, hA0⟩ := hB
  have hA := wl_own hA0
  have hl : lv_has ls 3 [(0, .ref (ad 0)), (1, .int a)] := hl
  have hS : va_S (wl_A (cK n) ad) s.heap s.heap [] := va_S.rf
  unfold f_LR_run at hf
  refine lv_iload_n hx hb d_LR_run_0 rfl (lv_at hl 1 rfl) ?_
  refine lv_iconst (v := 0) hx hb d_LR_run_1 (by decide) ?_
  refine lv_sipush (v := 400) hx hb d_LR_run_2 (by decide) ?_
  obtain ⟨r5, hc5, hf⟩ := ob hf
  refine k_rdv (k_sta S (c_LR_checkRange (l := l) (D := D) (n := n) (ad := ad) (G := G) hc5) g_LR_66 hd_LR_checkRange ⟨rfl, rfl⟩ ⟨Nat.le_of_ble_eq_true rfl, Nat.le_of_ble_eq_true rfl⟩ wl_blind (wl_pre hP hK hA) rfl hl.1 rfl (Nat.le_of_ble_eq_true rfl) d_LR_run_5 (Nat.zero_le _) (Nat.zero_le _)) ?_
  refine lv_iconst (v := 0) hx hb d_LR_run_8 (by decide) ?_
  refine lv_istore_n (lv' := [(2, .int 0), (0, .ref (ad 0)), (1, .int a)]) hx hb d_LR_run_9 rfl hl (by decide) rfl (fun ls hl => ?_)
  have L10 : ∀ (k10 : Nat) (v2_10 : Int32) (N10 : Mem) (H : Heap) (locs : List Loc) (ls : Array Slot), lv_has ls 3 [(2, .int v2_10), (0, .ref (ad 0)), (1, .int a)] → va_P D cls (cW n ad G N10) H → va_S (wl_A (cK n) ad) s.heap H locs → f_LR_run_10 n a k10 v2_10 N10 = some x → W p l e rm_LR_run s m args below meth c H locs 0 0 (MQ below (wr_Q (some (.int x.1)) D cls (cK n) ad (cE n ad G x.2)) args s 0 0 (wl_A (cK n) ad)) (F0 m 10 ls []) := by
    intro k10
    induction k10 with
    | zero =>
      intro v2_10 N10 H locs ls hl hP hS hf
      simp [f_LR_run_10] at hf
    | succ k10 ih10 =>
      intro v2_10 N10 H locs ls hl hP hS hf
      rw [f_LR_run_10] at hf
      refine lv_iload_n hx hb d_LR_run_10 rfl (lv_at hl 0 rfl) ?_
      refine lv_iload_n hx hb d_LR_run_11 rfl (lv_at hl 2 rfl) ?_
      refine lv_icmp_ge (tgt := 43) hx hb d_LR_run_12 (by decide) (fun h12 => ?_) (fun h12 => ?_)
      · rw [if_pos h12] at hf
        refine lv_iload_n hx hb d_LR_run_43 rfl (lv_at hl 0 rfl) ?_
        cases hf
        exact w_iret hx hb hr hlk hP hS d_LR_run_44
      · rw [if_neg h12] at hf
        refine lv_aload_n hx hb d_LR_run_15 rfl (lv_at hl 1 rfl) ?_
        refine va_get (D := D) (ci := 0) (v := .ref (ad 5)) (C := R_LR) (T := F_LR) (N := 6) hx hb hts in_LR hown hK hP 0 (wl_to (LR_lt) (LR_at)) rfl 2 (by decide) (hts _ fl_LR_34) (fun _ h => h) rfl d_LR_run_16 ?_
        obtain ⟨r19, hc19, hf⟩ := ob hf
        refine k_rdi (k_vir S (c_Mail_size (l := l) (D := D) (n := n) (ad := ad) (G := G) hc19) g_LR_110 hd_Mail_size ⟨rfl, rfl⟩ ⟨Nat.le_of_ble_eq_true rfl, Nat.le_of_ble_eq_true rfl⟩ wl_blind (va_recv hK hP rfl (wl_to (Mail_lt) (Mail_at))) (wl_pre hP hK hA) rfl hl.1 rfl (Nat.le_of_ble_eq_true rfl) d_LR_run_19 (Nat.zero_le _) (Nat.zero_le _)) ?_
        refine lv_if_le (tgt := 43) hx hb d_LR_run_22 (by decide) (fun h22 => ?_) (fun h22 => ?_)
        · rw [if_pos h22] at hf
          refine lv_iload_n hx hb d_LR_run_43 rfl (lv_at hl 0 rfl) ?_
          cases hf
          exact w_iret hx hb hr hlk hP hS d_LR_run_44
        · rw [if_neg h22] at hf
          refine lv_aload_n hx hb d_LR_run_25 rfl (lv_at hl 1 rfl) ?_
          refine lv_aload_n hx hb d_LR_run_26 rfl (lv_at hl 1 rfl) ?_
          refine va_get (D := D) (ci := 0) (v := .ref (ad 5)) (C := R_LR) (T := F_LR) (N := 6) hx hb hts in_LR hown hK hP 0 (wl_to (LR_lt) (LR_at)) rfl 2 (by decide) (hts _ fl_LR_34) (fun _ h => h) rfl d_LR_run_27 ?_
          refine lv_iconst (v := 0) hx hb d_LR_run_30 (by decide) ?_
          obtain ⟨r31, hc31, hf⟩ := ob hf
          refine k_wri (k_vir S (c_Mail_take (l := l) (D := D) (n := n) (ad := ad) (G := G) hc31) g_LR_101 hd_Mail_take ⟨rfl, rfl⟩ ⟨Nat.le_of_ble_eq_true rfl, Nat.le_of_ble_eq_true rfl⟩ wl_blind (va_recv hK hP rfl (wl_to (Mail_lt) (Mail_at))) (wl_pre hP hK hA) rfl hl.1 rfl (Nat.le_of_ble_eq_true rfl) d_LR_run_31 (Nat.zero_le _) (Nat.zero_le _)) hS (fun _ h => h) (fun H locs hP _ _ hS => ?_)
          obtain ⟨r34, hc34, hf⟩ := ob hf
          refine k_wrv (k_vir S (c_LR_receive (l := l) (D := D) (n := n) (ad := ad) (G := G) hc34) g_LR_104 hd_LR_receive ⟨rfl, rfl⟩ ⟨Nat.le_of_ble_eq_true rfl, Nat.le_of_ble_eq_true rfl⟩ wl_blind (va_recv hK hP rfl (wl_to (LR_lt) (LR_at))) (wl_pre hP hK hA) rfl hl.1 rfl (Nat.le_of_ble_eq_true rfl) d_LR_run_34 (Nat.zero_le _) (Nat.zero_le _)) hS (fun _ h => h) (fun H locs hP _ _ hS => ?_)
          refine lv_iinc (v := (v2_10 + 1)) (lv' := [(2, .int (v2_10 + 1)), (0, .ref (ad 0)), (1, .int a)]) hx hb d_LR_run_37 hl (k := 0) rfl rfl (by decide) rfl (fun ls hl => ?_)
          refine lv_goto (tgt := 10) hx hb d_LR_run_40 (by decide) ?_
          exact ih10 _ _ _ _ _ (lv_sub hl [0, 1, 2] rfl) hP hS hf
  exact L10 _ _ _ _ _ _ (lv_sub hl [0, 1, 2] rfl) hP hS hf
def f_LR_waiting (n : Nat) (M : Mem) : Option (Int32) :=
  (f_Mail_size n M).bind fun r4 => some r4
abbrev rm_LR_waiting : Room := { frames := 1, cells := 0, slots := 0, locals := 20 }
set_option maxHeartbeats 4000000 in
set_option maxRecDepth 100000 in
theorem c_LR_waiting {l : Launch} {D : va_G} {n : Nat} {ad : Nat → Nat} {G : Nat → ClassId}  {M : Mem} {x : Int32} (hf : f_LR_waiting n M = some x) : Met l y_LR_waiting (wc y_LR_waiting b_LR_waiting 1 (some .int)) rm_LR_waiting (va_Pc [.ref (ad 0)] (cB D n ad G M)) (rd_Q (some (.int x))) 0 0 (fun _ => False) := by
  refine k_met (by decide) (Nat.le_of_ble_eq_true rfl) ?_
  intro p e s m args below meth c S hr hlk hB ls hl
  obtain ⟨hx, hb, hml, hown, hts⟩ := id S
  obtain ⟨hP, hK, hA0⟩ := hB
  have hA := wl_own hA0
  have hl : lv_has ls 1 [(0, .ref (ad 0))] := hl
  unfold f_LR_waiting at hf
  refine lv_aload_n hx hb d_LR_waiting_0 rfl (lv_at hl 0 rfl) ?_
  refine va_get (D := D) (ci := 0) (v := .ref (ad 5)) (C := R_LR) (T := F_LR) (N := 6) hx hb hts in_LR hown hK hP 0 (wl_to (LR_lt) (LR_at)) rfl 2 (by decide) (hts _ fl_LR_34) (fun _ h => h) rfl d_LR_waiting_1 ?_
  obtain ⟨r4, hc4, hf⟩ := ob hf
  refine k_rdi (k_vir S (c_Mail_size (l := l) (D := D) (n := n) (ad := ad) (G := G) hc4) g_LR_110 hd_Mail_size ⟨rfl, rfl⟩ ⟨Nat.le_of_ble_eq_true rfl, Nat.le_of_ble_eq_true rfl⟩ wl_blind (va_recv hK hP rfl (wl_to (Mail_lt) (Mail_at))) (wl_pre hP hK hA) rfl hl.1 rfl (Nat.le_of_ble_eq_true rfl) d_LR_waiting_4 (Nat.zero_le _) (Nat.zero_le _)) ?_
  cases hf
  exact r_iret hx hb hr hlk d_LR_waiting_7
def f_LR_lost (n : Nat) (M : Mem) : Option (Int32) :=
  (f_Mail_lostCount n M).bind fun r4 => some r4
abbrev rm_LR_lost : Room := { frames := 1, cells := 0, slots := 0, locals := 20 }
set_option maxHeartbeats 4000000 in
set_option maxRecDepth 100000 in
theorem c_LR_lost {l : Launch} {D : va_G} {n : Nat} {ad : Nat → Nat} {G : Nat → ClassId}  {M : Mem} {x : Int32} (hf : f_LR_lost n M = some x) : Met l y_LR_lost (wc y_LR_lost b_LR_lost 1 (some .int)) rm_LR_lost (va_Pc [.ref (ad 0)] (cB D n ad G M)) (rd_Q (some (.int x))) 0 0 (fun _ => False) := by
  refine k_met (by decide) (Nat.le_of_ble_eq_true rfl) ?_
  intro p e s m args below meth c S hr hlk hB ls hl
  obtain ⟨hx, hb, hml, hown, hts⟩ := id S
  obtain ⟨hP, hK, hA0⟩ := hB
  have hA := wl_own hA0
  have hl : lv_has ls 1 [(0, .ref (ad 0))] := hl
  unfold f_LR_lost at hf
  refine lv_aload_n hx hb d_LR_lost_0 rfl (lv_at hl 0 rfl) ?_
  refine va_get (D := D) (ci := 0) (v := .ref (ad 5)) (C := R_LR) (T := F_LR) (N := 6) hx hb hts in_LR hown hK hP 0 (wl_to (LR_lt) (LR_at)) rfl 2 (by decide) (hts _ fl_LR_34) (fun _ h => h) rfl d_LR_lost_1 ?_
  obtain ⟨r4, hc4, hf⟩ := ob hf
  refine k_rdi (k_vir S (c_Mail_lostCount (l := l) (D := D) (n := n) (ad := ad) (G := G) hc4) g_LR_113 hd_Mail_lostCount ⟨rfl, rfl⟩ ⟨Nat.le_of_ble_eq_true rfl, Nat.le_of_ble_eq_true rfl⟩ wl_blind (va_recv hK hP rfl (wl_to (Mail_lt) (Mail_at))) (wl_pre hP hK hA) rfl hl.1 rfl (Nat.le_of_ble_eq_true rfl) d_LR_lost_4 (Nat.zero_le _) (Nat.zero_le _)) ?_
  cases hf
  exact r_iret hx hb hr hlk d_LR_lost_7
def f_LR_distance (n : Nat) (a : Int32) (b : Int32) (M : Mem) : Option (Int32) :=
  (f_LR_checkRouter n a M).bind fun r2 => (f_LR_checkPrefix b).bind fun r6 => (f_Ways_distanceOf n a b M).bind fun r15 => some r15
abbrev rm_LR_distance : Room := { frames := 2, cells := 0, slots := 0, locals := 43 }
set_option maxHeartbeats 4000000 in
set_option maxRecDepth 100000 in
theorem c_LR_distance {l : Launch} {D : va_G} {n : Nat} {ad : Nat → Nat} {G : Nat → ClassId} {a : Int32} {b : Int32}  {M : Mem} {x : Int32} (hf : f_LR_distance n a b M = some x) : Met l y_LR_distance (wc y_LR_distance b_LR_distance 3 (some .int)) rm_LR_distance (va_Pc [.ref (ad 0), .int a, .int b] (cB D n ad G M)) (rd_Q (some (.int x))) 0 0 (fun _ => False) := by
  refine k_met (by decide) (Nat.le_of_ble_eq_true rfl) ?_
  intro p e s m args below meth c S hr hlk hB ls hl
  obtain ⟨hx, hb, hml, hown, hts⟩ := id S
  obtain ⟨hP, hK, hA0⟩ := hB
  have hA := wl_own hA0
  have hl : lv_has ls 3 [(0, .ref (ad 0)), (1, .int a), (2, .int b)] := hl
  unfold f_LR_distance at hf
  refine lv_aload_n hx hb d_LR_distance_0 rfl (lv_at hl 0 rfl) ?_
  refine lv_iload_n hx hb d_LR_distance_1 rfl (lv_at hl 1 rfl) ?_
  obtain ⟨r2, hc2, hf⟩ := ob hf
  refine k_rdv (k_vir S (c_LR_checkRouter (l := l) (D := D) (n := n) (ad := ad) (G := G) hc2) g_LR_116 hd_LR_checkRouter ⟨rfl, rfl⟩ ⟨Nat.le_of_ble_eq_true rfl, Nat.le_of_ble_eq_true rfl⟩ wl_blind (va_recv hK hP rfl (wl_to (LR_lt) (LR_at))) (wl_pre hP hK hA) rfl hl.1 rfl (Nat.le_of_ble_eq_true rfl) d_LR_distance_2 (Nat.zero_le _) (Nat.zero_le _)) ?_
  refine lv_iload_n hx hb d_LR_distance_5 rfl (lv_at hl 2 rfl) ?_
  obtain ⟨r6, hc6, hf⟩ := ob hf
  refine k_rdv (k_sta S (c_LR_checkPrefix (l := l) (D := D) (n := n) (ad := ad) (G := G) hc6) g_LR_85 hd_LR_checkPrefix ⟨rfl, rfl⟩ ⟨Nat.le_of_ble_eq_true rfl, Nat.le_of_ble_eq_true rfl⟩ wl_blind (wl_pre hP hK hA) rfl hl.1 rfl (Nat.le_of_ble_eq_true rfl) d_LR_distance_6 (Nat.zero_le _) (Nat.zero_le _)) ?_
  refine lv_aload_n hx hb d_LR_distance_9 rfl (lv_at hl 0 rfl) ?_
  refine va_get (D := D) (ci := 0) (v := .ref (ad 1)) (C := R_LR) (T := F_LR) (N := 6) hx hb hts in_LR hown hK hP 0 (wl_to (LR_lt) (LR_at)) rfl 1 (by decide) (hts _ fl_LR_27) (fun _ h => h) rfl d_LR_distance_10 ?_
  refine lv_iload_n hx hb d_LR_distance_13 rfl (lv_at hl 1 rfl) ?_
  refine lv_iload_n hx hb d_LR_distance_14 rfl (lv_at hl 2 rfl) ?_
  obtain ⟨r15, hc15, hf⟩ := ob hf
  refine k_rdi (k_vir S (c_Ways_distanceOf (l := l) (D := D) (n := n) (ad := ad) (G := G) hc15) g_LR_119 hd_Ways_distanceOf ⟨rfl, rfl⟩ ⟨Nat.le_of_ble_eq_true rfl, Nat.le_of_ble_eq_true rfl⟩ wl_blind (va_recv hK hP rfl (wl_to (Ways_lt) (Ways_at))) (wl_pre hP hK hA) rfl hl.1 rfl (Nat.le_of_ble_eq_true rfl) d_LR_distance_15 (Nat.zero_le _) (Nat.zero_le _)) ?_
  cases hf
  exact r_iret hx hb hr hlk d_LR_distance_18
def f_LR_next (n : Nat) (a : Int32) (b : Int32) (M : Mem) : Option (Int32) :=
  (f_LR_checkRouter n a M).bind fun r2 => (f_LR_checkPrefix b).bind fun r6 => (f_Ways_nextOf n a b M).bind fun r15 => some r15
abbrev rm_LR_next : Room := { frames := 2, cells := 0, slots := 0, locals := 46 }
set_option maxHeartbeats 4000000 in
set_option maxRecDepth 100000 in
theorem c_LR_next {l : Launch} {D : va_G} {n : Nat} {ad : Nat → Nat} {G : Nat → ClassId} {a : Int32} {b : Int32}  {M : Mem} {x : Int32} (hf : f_LR_next n a b M = some x) : Met l y_LR_next (wc y_LR_next b_LR_next 3 (some .int)) rm_LR_next (va_Pc [.ref (ad 0), .int a, .int b] (cB D n ad G M)) (rd_Q (some (.int x))) 0 0 (fun _ => False) := by
  refine k_met (by decide) (Nat.le_of_ble_eq_true rfl) ?_
  intro p e s m args below meth c S hr hlk hB ls hl
  obtain ⟨hx, hb, hml, hown, hts⟩ := id S
  obtain ⟨hP, hK, hA0⟩ := hB
  have hA := wl_own hA0
  have hl : lv_has ls 3 [(0, .ref (ad 0)), (1, .int a), (2, .int b)] := hl
  unfold f_LR_next at hf
  refine lv_aload_n hx hb d_LR_next_0 rfl (lv_at hl 0 rfl) ?_
  refine lv_iload_n hx hb d_LR_next_1 rfl (lv_at hl 1 rfl) ?_
  obtain ⟨r2, hc2, hf⟩ := ob hf
  refine k_rdv (k_vir S (c_LR_checkRouter (l := l) (D := D) (n := n) (ad := ad) (G := G) hc2) g_LR_116 hd_LR_checkRouter ⟨rfl, rfl⟩ ⟨Nat.le_of_ble_eq_true rfl, Nat.le_of_ble_eq_true rfl⟩ wl_blind (va_recv hK hP rfl (wl_to (LR_lt) (LR_at))) (wl_pre hP hK hA) rfl hl.1 rfl (Nat.le_of_ble_eq_true rfl) d_LR_next_2 (Nat.zero_le _) (Nat.zero_le _)) ?_
  refine lv_iload_n hx hb d_LR_next_5 rfl (lv_at hl 2 rfl) ?_
  obtain ⟨r6, hc6, hf⟩ := ob hf
  refine k_rdv (k_sta S (c_LR_checkPrefix (l := l) (D := D) (n := n) (ad := ad) (G := G) hc6) g_LR_85 hd_LR_checkPrefix ⟨rfl, rfl⟩ ⟨Nat.le_of_ble_eq_true rfl, Nat.le_of_ble_eq_true rfl⟩ wl_blind (wl_pre hP hK hA) rfl hl.1 rfl (Nat.le_of_ble_eq_true rfl) d_LR_next_6 (Nat.zero_le _) (Nat.zero_le _)) ?_
  refine lv_aload_n hx hb d_LR_next_9 rfl (lv_at hl 0 rfl) ?_
  refine va_get (D := D) (ci := 0) (v := .ref (ad 1)) (C := R_LR) (T := F_LR) (N := 6) hx hb hts in_LR hown hK hP 0 (wl_to (LR_lt) (LR_at)) rfl 1 (by decide) (hts _ fl_LR_27) (fun _ h => h) rfl d_LR_next_10 ?_
  refine lv_iload_n hx hb d_LR_next_13 rfl (lv_at hl 1 rfl) ?_
  refine lv_iload_n hx hb d_LR_next_14 rfl (lv_at hl 2 rfl) ?_
  obtain ⟨r15, hc15, hf⟩ := ob hf
  refine k_rdi (k_vir S (c_Ways_nextOf (l := l) (D := D) (n := n) (ad := ad) (G := G) hc15) g_LR_122 hd_Ways_nextOf ⟨rfl, rfl⟩ ⟨Nat.le_of_ble_eq_true rfl, Nat.le_of_ble_eq_true rfl⟩ wl_blind (va_recv hK hP rfl (wl_to (Ways_lt) (Ways_at))) (wl_pre hP hK hA) rfl hl.1 rfl (Nat.le_of_ble_eq_true rfl) d_LR_next_15 (Nat.zero_le _) (Nat.zero_le _)) ?_
  cases hf
  exact r_iret hx hb hr hlk d_LR_next_18
def f_LR_label (n : Nat) (a : Int32) (b : Int32) (M : Mem) : Option (Int32) :=
  (f_LR_checkRouter n a M).bind fun r2 => (f_LR_checkPrefix b).bind fun r6 => (ix a n).bind fun j14 => (f_Router_labelOf n j14 b M).bind fun r16 => some r16
abbrev rm_LR_label : Room := { frames := 2, cells := 0, slots := 0, locals := 43 }
set_option maxHeartbeats 4000000 in
set_option maxRecDepth 100000 in
theorem c_LR_label {l : Launch} {D : va_G} {n : Nat} {ad : Nat → Nat} {G : Nat → ClassId} {a : Int32} {b : Int32}  {M : Mem} {x : Int32} (hf : f_LR_label n a b M = some x) : Met l y_LR_label (wc y_LR_label b_LR_label 3 (some .int)) rm_LR_label (va_Pc [.ref (ad 0), .int a, .int b] (cB D n ad G M)) (rd_Q (some (.int x))) 0 0 (fun _ => False) := by
  refine k_met (by decide) (Nat.le_of_ble_eq_true rfl) ?_
  intro p e s m args below meth c S hr hlk hB ls hl
  obtain ⟨hx, hb, hml, hown, hts⟩ := id S
  obtain ⟨hP, hK, hA0⟩ := hB
  have hA := wl_own hA0
  have hl : lv_has ls 3 [(0, .ref (ad 0)), (1, .int a), (2, .int b)] := hl
  unfold f_LR_label at hf
  refine lv_aload_n hx hb d_LR_label_0 rfl (lv_at hl 0 rfl) ?_
  refine lv_iload_n hx hb d_LR_label_1 rfl (lv_at hl 1 rfl) ?_
  obtain ⟨r2, hc2, hf⟩ := ob hf
  refine k_rdv (k_vir S (c_LR_checkRouter (l := l) (D := D) (n := n) (ad := ad) (G := G) hc2) g_LR_116 hd_LR_checkRouter ⟨rfl, rfl⟩ ⟨Nat.le_of_ble_eq_true rfl, Nat.le_of_ble_eq_true rfl⟩ wl_blind (va_recv hK hP rfl (wl_to (LR_lt) (LR_at))) (wl_pre hP hK hA) rfl hl.1 rfl (Nat.le_of_ble_eq_true rfl) d_LR_label_2 (Nat.zero_le _) (Nat.zero_le _)) ?_
  refine lv_iload_n hx hb d_LR_label_5 rfl (lv_at hl 2 rfl) ?_
  obtain ⟨r6, hc6, hf⟩ := ob hf
  refine k_rdv (k_sta S (c_LR_checkPrefix (l := l) (D := D) (n := n) (ad := ad) (G := G) hc6) g_LR_85 hd_LR_checkPrefix ⟨rfl, rfl⟩ ⟨Nat.le_of_ble_eq_true rfl, Nat.le_of_ble_eq_true rfl⟩ wl_blind (wl_pre hP hK hA) rfl hl.1 rfl (Nat.le_of_ble_eq_true rfl) d_LR_label_6 (Nat.zero_le _) (Nat.zero_le _)) ?_
  refine lv_aload_n hx hb d_LR_label_9 rfl (lv_at hl 0 rfl) ?_
  refine va_get (D := D) (ci := 0) (v := .ref (ad 7)) (C := R_LR) (T := F_LR) (N := 6) hx hb hts in_LR hown hK hP 0 (wl_to (LR_lt) (LR_at)) rfl 3 (by decide) (hts _ fl_LR_40) (fun _ h => h) rfl d_LR_label_10 ?_
  refine lv_iload_n hx hb d_LR_label_13 rfl (lv_at hl 1 rfl) ?_
  obtain ⟨j14, hj14, hf⟩ := ob hf
  refine k_aald hx hb hK hP 7 2 (RA_lt) (RA_at) rfl hj14 rfl d_LR_label_14 ?_
  refine lv_iload_n hx hb d_LR_label_15 rfl (lv_at hl 2 rfl) ?_
  obtain ⟨r16, hc16, hf⟩ := ob hf
  refine k_rdi (k_vir S (c_Router_labelOf (l := l) (D := D) (n := n) (ad := ad) (G := G) (ix_lt hj14) hc16) g_LR_125 hd_Router_labelOf ⟨rfl, rfl⟩ ⟨Nat.le_of_ble_eq_true rfl, Nat.le_of_ble_eq_true rfl⟩ wl_blind (va_recv hK hP rfl (wl_to (RT_lt (ix_lt hj14)) (RT_at (ix_lt hj14)))) (wl_pre hP hK hA) rfl hl.1 rfl (Nat.le_of_ble_eq_true rfl) d_LR_label_16 (Nat.zero_le _) (Nat.zero_le _)) ?_
  cases hf
  exact r_iret hx hb hr hlk d_LR_label_19
def f_LR_told (n : Nat) (a : Int32) (b : Int32) (z : Int32) (M : Mem) : Option (Int32) :=
  (f_LR_checkTwoRouters n a b M).bind fun r3 => (f_LR_checkPrefix z).bind fun r7 => (ix a n).bind fun j15 => (f_Router_toldBy n j15 b z M).bind fun r18 => some r18
abbrev rm_LR_told : Room := { frames := 3, cells := 0, slots := 0, locals := 65 }
set_option maxHeartbeats 4000000 in
set_option maxRecDepth 100000 in
theorem c_LR_told {l : Launch} {D : va_G} {n : Nat} {ad : Nat → Nat} {G : Nat → ClassId} {a : Int32} {b : Int32} {z : Int32}  {M : Mem} {x : Int32} (hf : f_LR_told n a b z M = some x) : Met l y_LR_told (wc y_LR_told b_LR_told 4 (some .int)) rm_LR_told (va_Pc [.ref (ad 0), .int a, .int b, .int z] (cB D n ad G M)) (rd_Q (some (.int x))) 0 0 (fun _ => False) := by
  refine k_met (by decide) (Nat.le_of_ble_eq_true rfl) ?_
  intro p e s m args below meth c S hr hlk hB ls hl
  obtain ⟨hx, hb, hml, hown, hts⟩ := id S
  obtain ⟨hP, hK, hA0⟩ := hB
  have hA := wl_own hA0
  have hl : lv_has ls 4 [(0, .ref (ad 0)), (1, .int a), (2, .int b), (3, .int z)] := hl
  unfold f_LR_told at hf
  refine lv_aload_n hx hb d_LR_told_0 rfl (lv_at hl 0 rfl) ?_
  refine lv_iload_n hx hb d_LR_told_1 rfl (lv_at hl 1 rfl) ?_
  refine lv_iload_n hx hb d_LR_told_2 rfl (lv_at hl 2 rfl) ?_
  obtain ⟨r3, hc3, hf⟩ := ob hf
  refine k_rdv (k_vir S (c_LR_checkTwoRouters (l := l) (D := D) (n := n) (ad := ad) (G := G) hc3) g_LR_62 hd_LR_checkTwoRouters ⟨rfl, rfl⟩ ⟨Nat.le_of_ble_eq_true rfl, Nat.le_of_ble_eq_true rfl⟩ wl_blind (va_recv hK hP rfl (wl_to (LR_lt) (LR_at))) (wl_pre hP hK hA) rfl hl.1 rfl (Nat.le_of_ble_eq_true rfl) d_LR_told_3 (Nat.zero_le _) (Nat.zero_le _)) ?_
  refine lv_iload_n hx hb d_LR_told_6 rfl (lv_at hl 3 rfl) ?_
  obtain ⟨r7, hc7, hf⟩ := ob hf
  refine k_rdv (k_sta S (c_LR_checkPrefix (l := l) (D := D) (n := n) (ad := ad) (G := G) hc7) g_LR_85 hd_LR_checkPrefix ⟨rfl, rfl⟩ ⟨Nat.le_of_ble_eq_true rfl, Nat.le_of_ble_eq_true rfl⟩ wl_blind (wl_pre hP hK hA) rfl hl.1 rfl (Nat.le_of_ble_eq_true rfl) d_LR_told_7 (Nat.zero_le _) (Nat.zero_le _)) ?_
  refine lv_aload_n hx hb d_LR_told_10 rfl (lv_at hl 0 rfl) ?_
  refine va_get (D := D) (ci := 0) (v := .ref (ad 7)) (C := R_LR) (T := F_LR) (N := 6) hx hb hts in_LR hown hK hP 0 (wl_to (LR_lt) (LR_at)) rfl 3 (by decide) (hts _ fl_LR_40) (fun _ h => h) rfl d_LR_told_11 ?_
  refine lv_iload_n hx hb d_LR_told_14 rfl (lv_at hl 1 rfl) ?_
  obtain ⟨j15, hj15, hf⟩ := ob hf
  refine k_aald hx hb hK hP 7 2 (RA_lt) (RA_at) rfl hj15 rfl d_LR_told_15 ?_
  refine lv_iload_n hx hb d_LR_told_16 rfl (lv_at hl 2 rfl) ?_
  refine lv_iload_n hx hb d_LR_told_17 rfl (lv_at hl 3 rfl) ?_
  obtain ⟨r18, hc18, hf⟩ := ob hf
  refine k_rdi (k_vir S (c_Router_toldBy (l := l) (D := D) (n := n) (ad := ad) (G := G) (ix_lt hj15) hc18) g_LR_128 hd_Router_toldBy ⟨rfl, rfl⟩ ⟨Nat.le_of_ble_eq_true rfl, Nat.le_of_ble_eq_true rfl⟩ wl_blind (va_recv hK hP rfl (wl_to (RT_lt (ix_lt hj15)) (RT_at (ix_lt hj15)))) (wl_pre hP hK hA) rfl hl.1 rfl (Nat.le_of_ble_eq_true rfl) d_LR_told_18 (Nat.zero_le _) (Nat.zero_le _)) ?_
  cases hf
  exact r_iret hx hb hr hlk d_LR_told_21
def f_LR_taken (n : Nat) (a : Int32) (M : Mem) : Option (Int32) :=
  (f_LR_checkRouter n a M).bind fun r2 => (ix a n).bind fun j10 => (f_Router_takenCount n j10 M).bind fun r11 => some r11
abbrev rm_LR_taken : Room := { frames := 2, cells := 0, slots := 0, locals := 43 }
set_option maxHeartbeats 4000000 in
set_option maxRecDepth 100000 in
theorem c_LR_taken {l : Launch} {D : va_G} {n : Nat} {ad : Nat → Nat} {G : Nat → ClassId} {a : Int32}  {M : Mem} {x : Int32} (hf : f_LR_taken n a M = some x) : Met l y_LR_taken (wc y_LR_taken b_LR_taken 2 (some .int)) rm_LR_taken (va_Pc [.ref (ad 0), .int a] (cB D n ad G M)) (rd_Q (some (.int x))) 0 0 (fun _ => False) := by
  refine k_met (by decide) (Nat.le_of_ble_eq_true rfl) ?_
  intro p e s m args below meth c S hr hlk hB ls hl
  obtain ⟨hx, hb, hml, hown, hts⟩ := id S
  obtain ⟨hP, hK, hA0⟩ := hB
  have hA := wl_own hA0
  have hl : lv_has ls 2 [(0, .ref (ad 0)), (1, .int a)] := hl
  unfold f_LR_taken at hf
  refine lv_aload_n hx hb d_LR_taken_0 rfl (lv_at hl 0 rfl) ?_
  refine lv_iload_n hx hb d_LR_taken_1 rfl (lv_at hl 1 rfl) ?_
  obtain ⟨r2, hc2, hf⟩ := ob hf
  refine k_rdv (k_vir S (c_LR_checkRouter (l := l) (D := D) (n := n) (ad := ad) (G := G) hc2) g_LR_116 hd_LR_checkRouter ⟨rfl, rfl⟩ ⟨Nat.le_of_ble_eq_true rfl, Nat.le_of_ble_eq_true rfl⟩ wl_blind (va_recv hK hP rfl (wl_to (LR_lt) (LR_at))) (wl_pre hP hK hA) rfl hl.1 rfl (Nat.le_of_ble_eq_true rfl) d_LR_taken_2 (Nat.zero_le _) (Nat.zero_le _)) ?_
  refine lv_aload_n hx hb d_LR_taken_5 rfl (lv_at hl 0 rfl) ?_
  refine va_get (D := D) (ci := 0) (v := .ref (ad 7)) (C := R_LR) (T := F_LR) (N := 6) hx hb hts in_LR hown hK hP 0 (wl_to (LR_lt) (LR_at)) rfl 3 (by decide) (hts _ fl_LR_40) (fun _ h => h) rfl d_LR_taken_6 ?_
  refine lv_iload_n hx hb d_LR_taken_9 rfl (lv_at hl 1 rfl) ?_
  obtain ⟨j10, hj10, hf⟩ := ob hf
  refine k_aald hx hb hK hP 7 2 (RA_lt) (RA_at) rfl hj10 rfl d_LR_taken_10 ?_
  obtain ⟨r11, hc11, hf⟩ := ob hf
  refine k_rdi (k_vir S (c_Router_takenCount (l := l) (D := D) (n := n) (ad := ad) (G := G) (ix_lt hj10) hc11) g_LR_131 hd_Router_takenCount ⟨rfl, rfl⟩ ⟨Nat.le_of_ble_eq_true rfl, Nat.le_of_ble_eq_true rfl⟩ wl_blind (va_recv hK hP rfl (wl_to (RT_lt (ix_lt hj10)) (RT_at (ix_lt hj10)))) (wl_pre hP hK hA) rfl hl.1 rfl (Nat.le_of_ble_eq_true rfl) d_LR_taken_11 (Nat.zero_le _) (Nat.zero_le _)) ?_
  cases hf
  exact r_iret hx hb hr hlk d_LR_taken_14
def f_LR_send_39 (n : Nat) (d : Int32) : Nat → Int32 → Mem → Option (Int32 × Mem)
  | 0, _, _ => none
  | k39 + 1, v5_39, N39 =>
    if d ≤ v5_39 then (some (2, N39)) else ((f_LR_passRouter n N39).bind fun r47 => if r47.1 = (-1) then (f_LR_send_39 n d k39 (v5_39 + 1) r47.2) else (some (r47.1, r47.2)))
def f_LR_send (n : Nat) (a : Int32) (b : Int32) (z : Int32) (d : Int32) (M : Mem) : Option (Int32 × Mem) :=
  (f_LR_checkRouter n a M).bind fun r2 => (f_LR_checkPrefix b).bind fun r6 => (f_LR_checkRange z (-1) 3).bind fun r12 => (f_LR_checkRange d 1 255).bind fun r21 => (f_Packet_begin n a b z d M).bind fun r33 => f_LR_send_39 n d 1000 0 r33
abbrev rm_LR_send : Room := { frames := 5, cells := 0, slots := 0, locals := 115 }
set_option maxHeartbeats 4000000 in
set_option maxRecDepth 100000 in
theorem c_LR_send {l : Launch} {D : va_G} {n : Nat} {ad : Nat → Nat} {G : Nat → ClassId} {a : Int32} {b : Int32} {z : Int32} {d : Int32}  {M : Mem} {x : Int32 × Mem} (hf : f_LR_send n a b z d M = some x) : Met l y_LR_send (wc y_LR_send b_LR_send 7 (some .int)) rm_LR_send (va_Pc [.ref (ad 0), .int a, .int b, .int z, .int d] (cB D n ad G M)) (wr_Q (some (.int x.1)) D cls (cK n) ad (cE n ad G x.2)) 0 0 (wl_A (cK n) ad) := by
  refine k_met (by decide) (Nat.le_of_ble_eq_true rfl) ?_
  intro p e s m args below meth c S hr hlk hB ls hl
  obtain ⟨hx, hb, hml, hown, hts⟩ := id S
  obtain ⟨hP, hK, hA0⟩ := hB
  have hA := wl_own hA0
  have hl : lv_has ls 7 [(0, .ref (ad 0)), (1, .int a), (2, .int b), (3, .int z), (4, .int d)] := hl
  have hS : va_S (wl_A (cK n) ad) s.heap s.heap [] := va_S.rf
  unfold f_LR_send at hf
  refine lv_aload_n hx hb d_LR_send_0 rfl (lv_at hl 0 rfl) ?_
  refine lv_iload_n hx hb d_LR_send_1 rfl (lv_at hl 1 rfl) ?_
  obtain ⟨r2, hc2, hf⟩ := ob hf
  refine k_rdv (k_vir S (c_LR_checkRouter (l := l) (D := D) (n := n) (ad := ad) (G := G) hc2) g_LR_116 hd_LR_checkRouter ⟨rfl, rfl⟩ ⟨Nat.le_of_ble_eq_true rfl, Nat.le_of_ble_eq_true rfl⟩ wl_blind (va_recv hK hP rfl (wl_to (LR_lt) (LR_at))) (wl_pre hP hK hA) rfl hl.1 rfl (Nat.le_of_ble_eq_true rfl) d_LR_send_2 (Nat.zero_le _) (Nat.zero_le _)) ?_
  refine lv_iload_n hx hb d_LR_send_5 rfl (lv_at hl 2 rfl) ?_
  obtain ⟨r6, hc6, hf⟩ := ob hf
  refine k_rdv (k_sta S (c_LR_checkPrefix (l := l) (D := D) (n := n) (ad := ad) (G := G) hc6) g_LR_85 hd_LR_checkPrefix ⟨rfl, rfl⟩ ⟨Nat.le_of_ble_eq_true rfl, Nat.le_of_ble_eq_true rfl⟩ wl_blind (wl_pre hP hK hA) rfl hl.1 rfl (Nat.le_of_ble_eq_true rfl) d_LR_send_6 (Nat.zero_le _) (Nat.zero_le _)) ?_
  refine lv_iload_n hx hb d_LR_send_9 rfl (lv_at hl 3 rfl) ?_
  refine lv_iconst (v := (-1)) hx hb d_LR_send_10 (by decide) ?_
  refine lv_iconst (v := 3) hx hb d_LR_send_11 (by decide) ?_
  obtain ⟨r12, hc12, hf⟩ := ob hf
  refine k_rdv (k_sta S (c_LR_checkRange (l := l) (D := D) (n := n) (ad := ad) (G := G) hc12) g_LR_66 hd_LR_checkRange ⟨rfl, rfl⟩ ⟨Nat.le_of_ble_eq_true rfl, Nat.le_of_ble_eq_true rfl⟩ wl_blind (wl_pre hP hK hA) rfl hl.1 rfl (Nat.le_of_ble_eq_true rfl) d_LR_send_12 (Nat.zero_le _) (Nat.zero_le _)) ?_
  refine lv_iload hx hb d_LR_send_15 (lv_at hl 4 rfl) ?_
  refine lv_iconst (v := 1) hx hb d_LR_send_17 (by decide) ?_
  refine lv_sipush (v := 255) hx hb d_LR_send_18 (by decide) ?_
  obtain ⟨r21, hc21, hf⟩ := ob hf
  refine k_rdv (k_sta S (c_LR_checkRange (l := l) (D := D) (n := n) (ad := ad) (G := G) hc21) g_LR_66 hd_LR_checkRange ⟨rfl, rfl⟩ ⟨Nat.le_of_ble_eq_true rfl, Nat.le_of_ble_eq_true rfl⟩ wl_blind (wl_pre hP hK hA) rfl hl.1 rfl (Nat.le_of_ble_eq_true rfl) d_LR_send_21 (Nat.zero_le _) (Nat.zero_le _)) ?_
  refine lv_aload_n hx hb d_LR_send_24 rfl (lv_at hl 0 rfl) ?_
  refine va_get (D := D) (ci := 0) (v := .ref (ad 9)) (C := R_LR) (T := F_LR) (N := 6) hx hb hts in_LR hown hK hP 0 (wl_to (LR_lt) (LR_at)) rfl 5 (by decide) (hts _ fl_LR_58) (fun _ h => h) rfl d_LR_send_25 ?_
  refine lv_iload_n hx hb d_LR_send_28 rfl (lv_at hl 1 rfl) ?_
  refine lv_iload_n hx hb d_LR_send_29 rfl (lv_at hl 2 rfl) ?_
  refine lv_iload_n hx hb d_LR_send_30 rfl (lv_at hl 3 rfl) ?_
  refine lv_iload hx hb d_LR_send_31 (lv_at hl 4 rfl) ?_
  obtain ⟨r33, hc33, hf⟩ := ob hf
  refine k_wrv (k_vir S (c_Packet_begin (l := l) (D := D) (n := n) (ad := ad) (G := G) hc33) g_LR_134 hd_Packet_begin ⟨rfl, rfl⟩ ⟨Nat.le_of_ble_eq_true rfl, Nat.le_of_ble_eq_true rfl⟩ wl_blind (va_recv hK hP rfl (wl_to (PK_lt) (PK_at))) (wl_pre hP hK hA) rfl hl.1 rfl (Nat.le_of_ble_eq_true rfl) d_LR_send_33 (Nat.zero_le _) (Nat.zero_le _)) hS (fun _ h => h) (fun H locs hP _ _ hS => ?_)
  refine lv_iconst (v := 0) hx hb d_LR_send_36 (by decide) ?_
  refine lv_istore (lv' := [(5, .int 0), (0, .ref (ad 0)), (1, .int a), (2, .int b), (3, .int z), (4, .int d)]) hx hb d_LR_send_37 hl (by decide) rfl (fun ls hl => ?_)
  have L39 : ∀ (k39 : Nat) (v5_39 : Int32) (N39 : Mem) (H : Heap) (locs : List Loc) (ls : Array Slot), lv_has ls 7 [(5, .int v5_39), (0, .ref (ad 0)), (1, .int a), (2, .int b), (3, .int z), (4, .int d)] → va_P D cls (cW n ad G N39) H → va_S (wl_A (cK n) ad) s.heap H locs → f_LR_send_39 n d k39 v5_39 N39 = some x → W p l e rm_LR_send s m args below meth c H locs 0 0 (MQ below (wr_Q (some (.int x.1)) D cls (cK n) ad (cE n ad G x.2)) args s 0 0 (wl_A (cK n) ad)) (F0 m 39 ls []) := by
    intro k39
    induction k39 with
    | zero =>
      intro v5_39 N39 H locs ls hl hP hS hf
      simp [f_LR_send_39] at hf
    | succ k39 ih39 =>
      intro v5_39 N39 H locs ls hl hP hS hf
      rw [f_LR_send_39] at hf
      refine lv_iload hx hb d_LR_send_39 (lv_at hl 0 rfl) ?_
      refine lv_iload hx hb d_LR_send_41 (lv_at hl 5 rfl) ?_
      refine lv_icmp_ge (tgt := 67) hx hb d_LR_send_43 (by decide) (fun h43 => ?_) (fun h43 => ?_)
      · rw [if_pos h43] at hf
        refine lv_iconst (v := 2) hx hb d_LR_send_67 (by decide) ?_
        cases hf
        exact w_iret hx hb hr hlk hP hS d_LR_send_68
      · rw [if_neg h43] at hf
        refine lv_aload_n hx hb d_LR_send_46 rfl (lv_at hl 1 rfl) ?_
        obtain ⟨r47, hc47, hf⟩ := ob hf
        refine k_wri (k_vir S (c_LR_passRouter (l := l) (D := D) (n := n) (ad := ad) (G := G) hc47) g_LR_138 hd_LR_passRouter ⟨rfl, rfl⟩ ⟨Nat.le_of_ble_eq_true rfl, Nat.le_of_ble_eq_true rfl⟩ wl_blind (va_recv hK hP rfl (wl_to (LR_lt) (LR_at))) (wl_pre hP hK hA) rfl hl.1 rfl (Nat.le_of_ble_eq_true rfl) d_LR_send_47 (Nat.zero_le _) (Nat.zero_le _)) hS (fun _ h => h) (fun H locs hP _ _ hS => ?_)
        refine lv_istore (lv' := [(6, .int r47.1), (5, .int v5_39), (0, .ref (ad 0)), (1, .int a), (2, .int b), (3, .int z), (4, .int d)]) hx hb d_LR_send_50 hl (by decide) rfl (fun ls hl => ?_)
        refine lv_iload hx hb d_LR_send_52 (lv_at hl 0 rfl) ?_
        refine lv_iconst (v := (-1)) hx hb d_LR_send_54 (by decide) ?_
        refine lv_icmp_eq (tgt := 61) hx hb d_LR_send_55 (by decide) (fun h55 => ?_) (fun h55 => ?_)
        · rw [if_pos h55] at hf
          refine lv_iinc (v := (v5_39 + 1)) (lv' := [(5, .int (v5_39 + 1)), (6, .int r47.1), (0, .ref (ad 0)), (1, .int a), (2, .int b), (3, .int z), (4, .int d)]) hx hb d_LR_send_61 hl (k := 1) rfl rfl (by decide) rfl (fun ls hl => ?_)
          refine lv_goto (tgt := 39) hx hb d_LR_send_64 (by decide) ?_
          exact ih39 _ _ _ _ _ (lv_sub hl [0, 2, 3, 4, 5, 6] rfl) hP hS hf
        · rw [if_neg h55] at hf
          refine lv_iload hx hb d_LR_send_58 (lv_at hl 0 rfl) ?_
          cases hf
          exact w_iret hx hb hr hlk hP hS d_LR_send_60
  exact L39 _ _ _ _ _ _ (lv_sub hl [0, 1, 2, 3, 4, 5] rfl) hP hS hf
def f_LR_hops (n : Nat) (M : Mem) : Option (Int32) :=
  (f_Packet_placeCount n M).bind fun r4 => some r4
abbrev rm_LR_hops : Room := { frames := 1, cells := 0, slots := 0, locals := 20 }
set_option maxHeartbeats 4000000 in
set_option maxRecDepth 100000 in
theorem c_LR_hops {l : Launch} {D : va_G} {n : Nat} {ad : Nat → Nat} {G : Nat → ClassId}  {M : Mem} {x : Int32} (hf : f_LR_hops n M = some x) : Met l y_LR_hops (wc y_LR_hops b_LR_hops 1 (some .int)) rm_LR_hops (va_Pc [.ref (ad 0)] (cB D n ad G M)) (rd_Q (some (.int x))) 0 0 (fun _ => False) := by
  refine k_met (by decide) (Nat.le_of_ble_eq_true rfl) ?_
  intro p e s m args below meth c S hr hlk hB ls hl
  obtain ⟨hx, hb, hml, hown, hts⟩ := id S
  obtain ⟨hP, hK, hA0⟩ := hB
  have hA := wl_own hA0
  have hl : lv_has ls 1 [(0, .ref (ad 0))] := hl
  unfold f_LR_hops at hf
  refine lv_aload_n hx hb d_LR_hops_0 rfl (lv_at hl 0 rfl) ?_
  refine va_get (D := D) (ci := 0) (v := .ref (ad 9)) (C := R_LR) (T := F_LR) (N := 6) hx hb hts in_LR hown hK hP 0 (wl_to (LR_lt) (LR_at)) rfl 5 (by decide) (hts _ fl_LR_58) (fun _ h => h) rfl d_LR_hops_1 ?_
  obtain ⟨r4, hc4, hf⟩ := ob hf
  refine k_rdi (k_vir S (c_Packet_placeCount (l := l) (D := D) (n := n) (ad := ad) (G := G) hc4) g_LR_141 hd_Packet_placeCount ⟨rfl, rfl⟩ ⟨Nat.le_of_ble_eq_true rfl, Nat.le_of_ble_eq_true rfl⟩ wl_blind (va_recv hK hP rfl (wl_to (PK_lt) (PK_at))) (wl_pre hP hK hA) rfl hl.1 rfl (Nat.le_of_ble_eq_true rfl) d_LR_hops_4 (Nat.zero_le _) (Nat.zero_le _)) ?_
  cases hf
  exact r_iret hx hb hr hlk d_LR_hops_7
def f_LR_hop (n : Nat) (a : Int32) (M : Mem) : Option (Int32) :=
  (f_LR_checkHop n a M).bind fun r2 => (f_Packet_placeAt n a M).bind fun r10 => some r10
abbrev rm_LR_hop : Room := { frames := 2, cells := 0, slots := 0, locals := 41 }
set_option maxHeartbeats 4000000 in
set_option maxRecDepth 100000 in
theorem c_LR_hop {l : Launch} {D : va_G} {n : Nat} {ad : Nat → Nat} {G : Nat → ClassId} {a : Int32}  {M : Mem} {x : Int32} (hf : f_LR_hop n a M = some x) : Met l y_LR_hop (wc y_LR_hop b_LR_hop 2 (some .int)) rm_LR_hop (va_Pc [.ref (ad 0), .int a] (cB D n ad G M)) (rd_Q (some (.int x))) 0 0 (fun _ => False) := by
  refine k_met (by decide) (Nat.le_of_ble_eq_true rfl) ?_
  intro p e s m args below meth c S hr hlk hB ls hl
  obtain ⟨hx, hb, hml, hown, hts⟩ := id S
  obtain ⟨hP, hK, hA0⟩ := hB
  have hA := wl_own hA0
  have hl : lv_has ls 2 [(0, .ref (ad 0)), (1, .int a)] := hl
  unfold f_LR_hop at hf
  refine lv_aload_n hx hb d_LR_hop_0 rfl (lv_at hl 0 rfl) ?_
  refine lv_iload_n hx hb d_LR_hop_1 rfl (lv_at hl 1 rfl) ?_
  obtain ⟨r2, hc2, hf⟩ := ob hf
  refine k_rdv (k_vir S (c_LR_checkHop (l := l) (D := D) (n := n) (ad := ad) (G := G) hc2) g_LR_144 hd_LR_checkHop ⟨rfl, rfl⟩ ⟨Nat.le_of_ble_eq_true rfl, Nat.le_of_ble_eq_true rfl⟩ wl_blind (va_recv hK hP rfl (wl_to (LR_lt) (LR_at))) (wl_pre hP hK hA) rfl hl.1 rfl (Nat.le_of_ble_eq_true rfl) d_LR_hop_2 (Nat.zero_le _) (Nat.zero_le _)) ?_
  refine lv_aload_n hx hb d_LR_hop_5 rfl (lv_at hl 0 rfl) ?_
  refine va_get (D := D) (ci := 0) (v := .ref (ad 9)) (C := R_LR) (T := F_LR) (N := 6) hx hb hts in_LR hown hK hP 0 (wl_to (LR_lt) (LR_at)) rfl 5 (by decide) (hts _ fl_LR_58) (fun _ h => h) rfl d_LR_hop_6 ?_
  refine lv_iload_n hx hb d_LR_hop_9 rfl (lv_at hl 1 rfl) ?_
  obtain ⟨r10, hc10, hf⟩ := ob hf
  refine k_rdi (k_vir S (c_Packet_placeAt (l := l) (D := D) (n := n) (ad := ad) (G := G) hc10) g_LR_147 hd_Packet_placeAt ⟨rfl, rfl⟩ ⟨Nat.le_of_ble_eq_true rfl, Nat.le_of_ble_eq_true rfl⟩ wl_blind (va_recv hK hP rfl (wl_to (PK_lt) (PK_at))) (wl_pre hP hK hA) rfl hl.1 rfl (Nat.le_of_ble_eq_true rfl) d_LR_hop_10 (Nat.zero_le _) (Nat.zero_le _)) ?_
  cases hf
  exact r_iret hx hb hr hlk d_LR_hop_13
def f_LR_entry (n : Nat) (a : Int32) (M : Mem) : Option (Int32) :=
  (f_LR_checkHop n a M).bind fun r2 => (f_Packet_entryAt n a M).bind fun r10 => some r10
abbrev rm_LR_entry : Room := { frames := 2, cells := 0, slots := 0, locals := 41 }
set_option maxHeartbeats 4000000 in
set_option maxRecDepth 100000 in
theorem c_LR_entry {l : Launch} {D : va_G} {n : Nat} {ad : Nat → Nat} {G : Nat → ClassId} {a : Int32}  {M : Mem} {x : Int32} (hf : f_LR_entry n a M = some x) : Met l y_LR_entry (wc y_LR_entry b_LR_entry 2 (some .int)) rm_LR_entry (va_Pc [.ref (ad 0), .int a] (cB D n ad G M)) (rd_Q (some (.int x))) 0 0 (fun _ => False) := by
  refine k_met (by decide) (Nat.le_of_ble_eq_true rfl) ?_
  intro p e s m args below meth c S hr hlk hB ls hl
  obtain ⟨hx, hb, hml, hown, hts⟩ := id S
  obtain ⟨hP, hK, hA0⟩ := hB
  have hA := wl_own hA0
  have hl : lv_has ls 2 [(0, .ref (ad 0)), (1, .int a)] := hl
  unfold f_LR_entry at hf
  refine lv_aload_n hx hb d_LR_entry_0 rfl (lv_at hl 0 rfl) ?_
  refine lv_iload_n hx hb d_LR_entry_1 rfl (lv_at hl 1 rfl) ?_
  obtain ⟨r2, hc2, hf⟩ := ob hf
  refine k_rdv (k_vir S (c_LR_checkHop (l := l) (D := D) (n := n) (ad := ad) (G := G) hc2) g_LR_144 hd_LR_checkHop ⟨rfl, rfl⟩ ⟨Nat.le_of_ble_eq_true rfl, Nat.le_of_ble_eq_true rfl⟩ wl_blind (va_recv hK hP rfl (wl_to (LR_lt) (LR_at))) (wl_pre hP hK hA) rfl hl.1 rfl (Nat.le_of_ble_eq_true rfl) d_LR_entry_2 (Nat.zero_le _) (Nat.zero_le _)) ?_
  refine lv_aload_n hx hb d_LR_entry_5 rfl (lv_at hl 0 rfl) ?_
  refine va_get (D := D) (ci := 0) (v := .ref (ad 9)) (C := R_LR) (T := F_LR) (N := 6) hx hb hts in_LR hown hK hP 0 (wl_to (LR_lt) (LR_at)) rfl 5 (by decide) (hts _ fl_LR_58) (fun _ h => h) rfl d_LR_entry_6 ?_
  refine lv_iload_n hx hb d_LR_entry_9 rfl (lv_at hl 1 rfl) ?_
  obtain ⟨r10, hc10, hf⟩ := ob hf
  refine k_rdi (k_vir S (c_Packet_entryAt (l := l) (D := D) (n := n) (ad := ad) (G := G) hc10) g_LR_150 hd_Packet_entryAt ⟨rfl, rfl⟩ ⟨Nat.le_of_ble_eq_true rfl, Nat.le_of_ble_eq_true rfl⟩ wl_blind (va_recv hK hP rfl (wl_to (PK_lt) (PK_at))) (wl_pre hP hK hA) rfl hl.1 rfl (Nat.le_of_ble_eq_true rfl) d_LR_entry_10 (Nat.zero_le _) (Nat.zero_le _)) ?_
  cases hf
  exact r_iret hx hb hr hlk d_LR_entry_13
