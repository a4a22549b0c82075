def f_Packet_isForService (n : Nat) (M : Mem) : Option (Int32) :=
  if (M 9 0 0 4) = (-1) then (some 0) else (some 1)
abbrev rm_Packet_isForService : Room := { frames := 0, cells := 0, slots := 0, locals := 0 }
set_option maxHeartbeats 4000000 in
set_option maxRecDepth 100000 in
theorem c_Packet_isForService {l : Launch} {D : va_G} {n : Nat} {ad : Nat → Nat} {G : Nat → ClassId}  {M : Mem} {x : Int32} (hf : f_Packet_isForService n M = some x) : Met l y_Packet_isForService (wc y_Packet_isForService b_Packet_isForService 1 (some .boolean)) rm_Packet_isForService (va_Pc [.ref (ad 9)] (cB D n ad G M)) (rd_Q (some (.int x))) 0 0 (fun _ => False) := by
  refine k_met (by decide) (Nat.le_of_ble_eq_true rfl) ?_
  intro p e s m args below meth c S hr hlk hB ls hl
  obtain ⟨hx, hb, hml, hown, hts⟩ := id S
  obtain ⟨hP, hK, hA0⟩ := hB
  have hA := wl_own hA0
  have hl : lv_has ls 1 [(0, .ref (ad 9))] := hl
  unfold f_Packet_isForService at hf
  refine lv_aload_n hx hb d_Packet_isForService_0 rfl (lv_at hl 0 rfl) ?_
  refine va_get (D := D) (ci := 4) (v := .int (M 9 0 0 4)) (C := R_Packet) (T := F_Packet) (N := 7) hx hb hts in_Packet hown hK hP 9 (wl_to (PK_lt) (PK_at)) rfl 4 (by decide) (hts _ fl_Packet_22) (fun _ h => h) rfl d_Packet_isForService_1 ?_
  refine lv_iconst (v := (-1)) hx hb d_Packet_isForService_4 (by decide) ?_
  refine lv_icmp_eq (tgt := 12) hx hb d_Packet_isForService_5 (by decide) (fun h5 => ?_) (fun h5 => ?_)
  · rw [if_pos h5] at hf
    refine lv_iconst (v := 0) hx hb d_Packet_isForService_12 (by decide) ?_
    cases hf
    exact r_zret hx hb hr hlk (by decide) d_Packet_isForService_13
  · rw [if_neg h5] at hf
    refine lv_iconst (v := 1) hx hb d_Packet_isForService_8 (by decide) ?_
    refine lv_goto (tgt := 13) hx hb d_Packet_isForService_9 (by decide) ?_
    cases hf
    exact r_zret hx hb hr hlk (by decide) d_Packet_isForService_13
def f_Packet_isAtLastHop (n : Nat) (M : Mem) : Option (Int32) :=
  if 1 < (M 9 0 0 5) then (some 0) else (some 1)
abbrev rm_Packet_isAtLastHop : Room := { frames := 0, cells := 0, slots := 0, locals := 0 }
set_option maxHeartbeats 4000000 in
set_option maxRecDepth 100000 in
theorem c_Packet_isAtLastHop {l : Launch} {D : va_G} {n : Nat} {ad : Nat → Nat} {G : Nat → ClassId}  {M : Mem} {x : Int32} (hf : f_Packet_isAtLastHop n M = some x) : Met l y_Packet_isAtLastHop (wc y_Packet_isAtLastHop b_Packet_isAtLastHop 1 (some .boolean)) rm_Packet_isAtLastHop (va_Pc [.ref (ad 9)] (cB D n ad G M)) (rd_Q (some (.int x))) 0 0 (fun _ => False) := by
  refine k_met (by decide) (Nat.le_of_ble_eq_true rfl) ?_
  intro p e s m args below meth c S hr hlk hB ls hl
  obtain ⟨hx, hb, hml, hown, hts⟩ := id S
  obtain ⟨hP, hK, hA0⟩ := hB
  have hA := wl_own hA0
  have hl : lv_has ls 1 [(0, .ref (ad 9))] := hl
  unfold f_Packet_isAtLastHop at hf
  refine lv_aload_n hx hb d_Packet_isAtLastHop_0 rfl (lv_at hl 0 rfl) ?_
  refine va_get (D := D) (ci := 4) (v := .int (M 9 0 0 5)) (C := R_Packet) (T := F_Packet) (N := 7) hx hb hts in_Packet hown hK hP 9 (wl_to (PK_lt) (PK_at)) rfl 5 (by decide) (hts _ fl_Packet_25) (fun _ h => h) rfl d_Packet_isAtLastHop_1 ?_
  refine lv_iconst (v := 1) hx hb d_Packet_isAtLastHop_4 (by decide) ?_
  refine lv_icmp_gt (tgt := 12) hx hb d_Packet_isAtLastHop_5 (by decide) (fun h5 => ?_) (fun h5 => ?_)
  · rw [if_pos h5] at hf
    refine lv_iconst (v := 0) hx hb d_Packet_isAtLastHop_12 (by decide) ?_
    cases hf
    exact r_zret hx hb hr hlk (by decide) d_Packet_isAtLastHop_13
  · rw [if_neg h5] at hf
    refine lv_iconst (v := 1) hx hb d_Packet_isAtLastHop_8 (by decide) ?_
    refine lv_goto (tgt := 13) hx hb d_Packet_isAtLastHop_9 (by decide) ?_
    cases hf
    exact r_zret hx hb hr hlk (by decide) d_Packet_isAtLastHop_13
def f_Packet_targetPrefix (n : Nat) (M : Mem) : Option (Int32) :=
  some (M 9 0 0 3)
abbrev rm_Packet_targetPrefix : Room := { frames := 0, cells := 0, slots := 0, locals := 0 }
set_option maxHeartbeats 4000000 in
set_option maxRecDepth 100000 in
theorem c_Packet_targetPrefix {l : Launch} {D : va_G} {n : Nat} {ad : Nat → Nat} {G : Nat → ClassId}  {M : Mem} {x : Int32} (hf : f_Packet_targetPrefix n M = some x) : Met l y_Packet_targetPrefix (wc y_Packet_targetPrefix b_Packet_targetPrefix 1 (some .int)) rm_Packet_targetPrefix (va_Pc [.ref (ad 9)] (cB D n ad G M)) (rd_Q (some (.int x))) 0 0 (fun _ => False) := by
  refine k_met (by decide) (Nat.le_of_ble_eq_true rfl) ?_
  intro p e s m args below meth c S hr hlk hB ls hl
  obtain ⟨hx, hb, hml, hown, hts⟩ := id S
  obtain ⟨hP, hK, hA0⟩ := hB
  have hA := wl_own hA0
  have hl : lv_has ls 1 [(0, .ref (ad 9))] := hl
  unfold f_Packet_targetPrefix at hf
  refine lv_aload_n hx hb d_Packet_targetPrefix_0 rfl (lv_at hl 0 rfl) ?_
  refine va_get (D := D) (ci := 4) (v := .int (M 9 0 0 3)) (C := R_Packet) (T := F_Packet) (N := 7) hx hb hts in_Packet hown hK hP 9 (wl_to (PK_lt) (PK_at)) rfl 3 (by decide) (hts _ fl_Packet_18) (fun _ h => h) rfl d_Packet_targetPrefix_1 ?_
  cases hf
  exact r_iret hx hb hr hlk d_Packet_targetPrefix_4
def f_Packet_targetService (n : Nat) (M : Mem) : Option (Int32) :=
  some (M 9 0 0 4)
abbrev rm_Packet_targetService : Room := { frames := 0, cells := 0, slots := 0, locals := 0 }
set_option maxHeartbeats 4000000 in
set_option maxRecDepth 100000 in
theorem c_Packet_targetService {l : Launch} {D : va_G} {n : Nat} {ad : Nat → Nat} {G : Nat → ClassId}  {M : Mem} {x : Int32} (hf : f_Packet_targetService n M = some x) : Met l y_Packet_targetService (wc y_Packet_targetService b_Packet_targetService 1 (some .int)) rm_Packet_targetService (va_Pc [.ref (ad 9)] (cB D n ad G M)) (rd_Q (some (.int x))) 0 0 (fun _ => False) := by
  refine k_met (by decide) (Nat.le_of_ble_eq_true rfl) ?_
  intro p e s m args below meth c S hr hlk hB ls hl
  obtain ⟨hx, hb, hml, hown, hts⟩ := id S
  obtain ⟨hP, hK, hA0⟩ := hB
  have hA := wl_own hA0
  have hl : lv_has ls 1 [(0, .ref (ad 9))] := hl
  unfold f_Packet_targetService at hf
  refine lv_aload_n hx hb d_Packet_targetService_0 rfl (lv_at hl 0 rfl) ?_
  refine va_get (D := D) (ci := 4) (v := .int (M 9 0 0 4)) (C := R_Packet) (T := F_Packet) (N := 7) hx hb hts in_Packet hown hK hP 9 (wl_to (PK_lt) (PK_at)) rfl 4 (by decide) (hts _ fl_Packet_22) (fun _ h => h) rfl d_Packet_targetService_1 ?_
  cases hf
  exact r_iret hx hb hr hlk d_Packet_targetService_4
def f_Packet_topLabel (n : Nat) (M : Mem) : Option (Int32) :=
  some (M 9 0 0 6)
abbrev rm_Packet_topLabel : Room := { frames := 0, cells := 0, slots := 0, locals := 0 }
set_option maxHeartbeats 4000000 in
set_option maxRecDepth 100000 in
theorem c_Packet_topLabel {l : Launch} {D : va_G} {n : Nat} {ad : Nat → Nat} {G : Nat → ClassId}  {M : Mem} {x : Int32} (hf : f_Packet_topLabel n M = some x) : Met l y_Packet_topLabel (wc y_Packet_topLabel b_Packet_topLabel 1 (some .int)) rm_Packet_topLabel (va_Pc [.ref (ad 9)] (cB D n ad G M)) (rd_Q (some (.int x))) 0 0 (fun _ => False) := by
  refine k_met (by decide) (Nat.le_of_ble_eq_true rfl) ?_
  intro p e s m args below meth c S hr hlk hB ls hl
  obtain ⟨hx, hb, hml, hown, hts⟩ := id S
  obtain ⟨hP, hK, hA0⟩ := hB
  have hA := wl_own hA0
  have hl : lv_has ls 1 [(0, .ref (ad 9))] := hl
  unfold f_Packet_topLabel at hf
  refine lv_aload_n hx hb d_Packet_topLabel_0 rfl (lv_at hl 0 rfl) ?_
  refine va_get (D := D) (ci := 4) (v := .int (M 9 0 0 6)) (C := R_Packet) (T := F_Packet) (N := 7) hx hb hts in_Packet hown hK hP 9 (wl_to (PK_lt) (PK_at)) rfl 6 (by decide) (hts _ fl_Packet_28) (fun _ h => h) rfl d_Packet_topLabel_1 ?_
  cases hf
  exact r_iret hx hb hr hlk d_Packet_topLabel_4
def f_Packet_place (n : Nat) (M : Mem) : Option (Int32) :=
  (ix ((M 9 0 0 2) - 1) 255).bind fun j10 => some (M 10 0 0 j10)
abbrev rm_Packet_place : Room := { frames := 0, cells := 0, slots := 0, locals := 0 }
set_option maxHeartbeats 4000000 in
set_option maxRecDepth 100000 in
theorem c_Packet_place {l : Launch} {D : va_G} {n : Nat} {ad : Nat → Nat} {G : Nat → ClassId}  {M : Mem} {x : Int32} (hf : f_Packet_place n M = some x) : Met l y_Packet_place (wc y_Packet_place b_Packet_place 1 (some .int)) rm_Packet_place (va_Pc [.ref (ad 9)] (cB D n ad G M)) (rd_Q (some (.int x))) 0 0 (fun _ => False) := by
  refine k_met (by decide) (Nat.le_of_ble_eq_true rfl) ?_
  intro p e s m args below meth c S hr hlk hB ls hl
  obtain ⟨hx, hb, hml, hown, hts⟩ := id S
  obtain ⟨hP, hK, hA0⟩ := hB
  have hA := wl_own hA0
  have hl : lv_has ls 1 [(0, .ref (ad 9))] := hl
  unfold f_Packet_place at hf
  refine lv_aload_n hx hb d_Packet_place_0 rfl (lv_at hl 0 rfl) ?_
  refine va_get (D := D) (ci := 4) (v := .ref (ad 10)) (C := R_Packet) (T := F_Packet) (N := 7) hx hb hts in_Packet hown hK hP 9 (wl_to (PK_lt) (PK_at)) rfl 0 (by decide) (hts _ fl_Packet_9) (fun _ h => h) rfl d_Packet_place_1 ?_
  refine lv_aload_n hx hb d_Packet_place_4 rfl (lv_at hl 0 rfl) ?_
  refine va_get (D := D) (ci := 4) (v := .int (M 9 0 0 2)) (C := R_Packet) (T := F_Packet) (N := 7) hx hb hts in_Packet hown hK hP 9 (wl_to (PK_lt) (PK_at)) rfl 2 (by decide) (hts _ fl_Packet_31) (fun _ h => h) rfl d_Packet_place_5 ?_
  refine lv_iconst (v := 1) hx hb d_Packet_place_8 (by decide) ?_
  refine lv_isub hx hb d_Packet_place_9 ?_
  obtain ⟨j10, hj10, hf⟩ := ob hf
  refine k_iald hx hb hK hP 10 0 (TR_lt) (TR_at) rfl hj10 d_Packet_place_10 ?_
  cases hf
  exact r_iret hx hb hr hlk d_Packet_place_11
def f_Packet_placeCount (n : Nat) (M : Mem) : Option (Int32) :=
  some (M 9 0 0 2)
abbrev rm_Packet_placeCount : Room := { frames := 0, cells := 0, slots := 0, locals := 0 }
set_option maxHeartbeats 4000000 in
set_option maxRecDepth 100000 in
theorem c_Packet_placeCount {l : Launch} {D : va_G} {n : Nat} {ad : Nat → Nat} {G : Nat → ClassId}  {M : Mem} {x : Int32} (hf : f_Packet_placeCount n M = some x) : Met l y_Packet_placeCount (wc y_Packet_placeCount b_Packet_placeCount 1 (some .int)) rm_Packet_placeCount (va_Pc [.ref (ad 9)] (cB D n ad G M)) (rd_Q (some (.int x))) 0 0 (fun _ => False) := by
  refine k_met (by decide) (Nat.le_of_ble_eq_true rfl) ?_
  intro p e s m args below meth c S hr hlk hB ls hl
  obtain ⟨hx, hb, hml, hown, hts⟩ := id S
  obtain ⟨hP, hK, hA0⟩ := hB
  have hA := wl_own hA0
  have hl : lv_has ls 1 [(0, .ref (ad 9))] := hl
  unfold f_Packet_placeCount at hf
  refine lv_aload_n hx hb d_Packet_placeCount_0 rfl (lv_at hl 0 rfl) ?_
  refine va_get (D := D) (ci := 4) (v := .int (M 9 0 0 2)) (C := R_Packet) (T := F_Packet) (N := 7) hx hb hts in_Packet hown hK hP 9 (wl_to (PK_lt) (PK_at)) rfl 2 (by decide) (hts _ fl_Packet_31) (fun _ h => h) rfl d_Packet_placeCount_1 ?_
  cases hf
  exact r_iret hx hb hr hlk d_Packet_placeCount_4
def f_Packet_placeAt (n : Nat) (a : Int32) (M : Mem) : Option (Int32) :=
  (ix a 255).bind fun j5 => some (M 10 0 0 j5)
abbrev rm_Packet_placeAt : Room := { frames := 0, cells := 0, slots := 0, locals := 0 }
set_option maxHeartbeats 4000000 in
set_option maxRecDepth 100000 in
theorem c_Packet_placeAt {l : Launch} {D : va_G} {n : Nat} {ad : Nat → Nat} {G : Nat → ClassId} {a : Int32}  {M : Mem} {x : Int32} (hf : f_Packet_placeAt n a M = some x) : Met l y_Packet_placeAt (wc y_Packet_placeAt b_Packet_placeAt 2 (some .int)) rm_Packet_placeAt (va_Pc [.ref (ad 9), .int a] (cB D n ad G M)) (rd_Q (some (.int x))) 0 0 (fun _ => False) := by
  refine k_met (by decide) (Nat.le_of_ble_eq_true rfl) ?_
  intro p e s m args below meth c S hr hlk hB ls hl
  obtain ⟨hx, hb, hml, hown, hts⟩ := id S
  obtain ⟨hP, hK, hA0⟩ := hB
  have hA := wl_own hA0
  have hl : lv_has ls 2 [(0, .ref (ad 9)), (1, .int a)] := hl
  unfold f_Packet_placeAt at hf
  refine lv_aload_n hx hb d_Packet_placeAt_0 rfl (lv_at hl 0 rfl) ?_
  refine va_get (D := D) (ci := 4) (v := .ref (ad 10)) (C := R_Packet) (T := F_Packet) (N := 7) hx hb hts in_Packet hown hK hP 9 (wl_to (PK_lt) (PK_at)) rfl 0 (by decide) (hts _ fl_Packet_9) (fun _ h => h) rfl d_Packet_placeAt_1 ?_
  refine lv_iload_n hx hb d_Packet_placeAt_4 rfl (lv_at hl 1 rfl) ?_
  obtain ⟨j5, hj5, hf⟩ := ob hf
  refine k_iald hx hb hK hP 10 0 (TR_lt) (TR_at) rfl hj5 d_Packet_placeAt_5 ?_
  cases hf
  exact r_iret hx hb hr hlk d_Packet_placeAt_6
def f_Packet_entryAt (n : Nat) (a : Int32) (M : Mem) : Option (Int32) :=
  (ix a 255).bind fun j5 => some (M 11 0 0 j5)
abbrev rm_Packet_entryAt : Room := { frames := 0, cells := 0, slots := 0, locals := 0 }
set_option maxHeartbeats 4000000 in
set_option maxRecDepth 100000 in
theorem c_Packet_entryAt {l : Launch} {D : va_G} {n : Nat} {ad : Nat → Nat} {G : Nat → ClassId} {a : Int32}  {M : Mem} {x : Int32} (hf : f_Packet_entryAt n a M = some x) : Met l y_Packet_entryAt (wc y_Packet_entryAt b_Packet_entryAt 2 (some .int)) rm_Packet_entryAt (va_Pc [.ref (ad 9), .int a] (cB D n ad G M)) (rd_Q (some (.int x))) 0 0 (fun _ => False) := by
  refine k_met (by decide) (Nat.le_of_ble_eq_true rfl) ?_
  intro p e s m args below meth c S hr hlk hB ls hl
  obtain ⟨hx, hb, hml, hown, hts⟩ := id S
  obtain ⟨hP, hK, hA0⟩ := hB
  have hA := wl_own hA0
  have hl : lv_has ls 2 [(0, .ref (ad 9)), (1, .int a)] := hl
  unfold f_Packet_entryAt at hf
  refine lv_aload_n hx hb d_Packet_entryAt_0 rfl (lv_at hl 0 rfl) ?_
  refine va_get (D := D) (ci := 4) (v := .ref (ad 11)) (C := R_Packet) (T := F_Packet) (N := 7) hx hb hts in_Packet hown hK hP 9 (wl_to (PK_lt) (PK_at)) rfl 1 (by decide) (hts _ fl_Packet_15) (fun _ h => h) rfl d_Packet_entryAt_1 ?_
  refine lv_iload_n hx hb d_Packet_entryAt_4 rfl (lv_at hl 1 rfl) ?_
  obtain ⟨j5, hj5, hf⟩ := ob hf
  refine k_iald hx hb hK hP 11 0 (EN_lt) (EN_at) rfl hj5 d_Packet_entryAt_5 ?_
  cases hf
  exact r_iret hx hb hr hlk d_Packet_entryAt_6
def f_Packet_entryOf (n : Nat) (a : Int32) (b : Int32) (M : Mem) : Option (Int32) :=
  if b = 0 then (some (((4096 * a) + 0) + (M 9 0 0 5))) else (some (((4096 * a) + 256) + (M 9 0 0 5)))
abbrev rm_Packet_entryOf : Room := { frames := 0, cells := 0, slots := 0, locals := 0 }
set_option maxHeartbeats 4000000 in
set_option maxRecDepth 100000 in
theorem c_Packet_entryOf {l : Launch} {D : va_G} {n : Nat} {ad : Nat → Nat} {G : Nat → ClassId} {a : Int32} {b : Int32}  {M : Mem} {x : Int32} (hf : f_Packet_entryOf n a b M = some x) : Met l y_Packet_entryOf (wc y_Packet_entryOf b_Packet_entryOf 3 (some .int)) rm_Packet_entryOf (va_Pc [.ref (ad 9), .int a, .int b] (cB D n ad G M)) (rd_Q (some (.int x))) 0 0 (fun _ => False) := by
  refine k_met (by decide) (Nat.le_of_ble_eq_true rfl) ?_
  intro p e s m args below meth c S hr hlk hB ls hl
  obtain ⟨hx, hb, hml, hown, hts⟩ := id S
  obtain ⟨hP, hK, hA0⟩ := hB
  have hA := wl_own hA0
  have hl : lv_has ls 3 [(0, .ref (ad 9)), (1, .int a), (2, .int b)] := hl
  unfold f_Packet_entryOf at hf
  refine lv_sipush (v := 4096) hx hb d_Packet_entryOf_0 (by decide) ?_
  refine lv_iload_n hx hb d_Packet_entryOf_3 rfl (lv_at hl 1 rfl) ?_
  refine lv_imul hx hb d_Packet_entryOf_4 ?_
  refine lv_iload_n hx hb d_Packet_entryOf_5 rfl (lv_at hl 2 rfl) ?_
  refine lv_if_eq (tgt := 15) hx hb d_Packet_entryOf_6 (by decide) (fun h6 => ?_) (fun h6 => ?_)
  · rw [if_pos h6] at hf
    refine lv_iconst (v := 0) hx hb d_Packet_entryOf_15 (by decide) ?_
    refine lv_iadd hx hb d_Packet_entryOf_16 ?_
    refine lv_aload_n hx hb d_Packet_entryOf_17 rfl (lv_at hl 0 rfl) ?_
    refine va_get (D := D) (ci := 4) (v := .int (M 9 0 0 5)) (C := R_Packet) (T := F_Packet) (N := 7) hx hb hts in_Packet hown hK hP 9 (wl_to (PK_lt) (PK_at)) rfl 5 (by decide) (hts _ fl_Packet_25) (fun _ h => h) rfl d_Packet_entryOf_18 ?_
    refine lv_iadd hx hb d_Packet_entryOf_21 ?_
    cases hf
    exact r_iret hx hb hr hlk d_Packet_entryOf_22
  · rw [if_neg h6] at hf
    refine lv_sipush (v := 256) hx hb d_Packet_entryOf_9 (by decide) ?_
    refine lv_goto (tgt := 16) hx hb d_Packet_entryOf_12 (by decide) ?_
    refine lv_iadd hx hb d_Packet_entryOf_16 ?_
    refine lv_aload_n hx hb d_Packet_entryOf_17 rfl (lv_at hl 0 rfl) ?_
    refine va_get (D := D) (ci := 4) (v := .int (M 9 0 0 5)) (C := R_Packet) (T := F_Packet) (N := 7) hx hb hts in_Packet hown hK hP 9 (wl_to (PK_lt) (PK_at)) rfl 5 (by decide) (hts _ fl_Packet_25) (fun _ h => h) rfl d_Packet_entryOf_18 ?_
    refine lv_iadd hx hb d_Packet_entryOf_21 ?_
    cases hf
    exact r_iret hx hb hr hlk d_Packet_entryOf_22
def f_Packet_note (n : Nat) (a : Int32) (b : Int32) (M : Mem) : Option (Mem) :=
  (ix (M 9 0 0 2) 255).bind fun j9 => (ix ((mset M 10 0 0 j9 a) 9 0 0 2) 255).bind fun j19 => some (mset (mset (mset M 10 0 0 j9 a) 11 0 0 j19 b) 9 0 0 2 (((mset (mset M 10 0 0 j9 a) 11 0 0 j19 b) 9 0 0 2) + 1))
abbrev rm_Packet_note : Room := { frames := 0, cells := 0, slots := 0, locals := 0 }
set_option maxHeartbeats 4000000 in
set_option maxRecDepth 100000 in
theorem c_Packet_note {l : Launch} {D : va_G} {n : Nat} {ad : Nat → Nat} {G : Nat → ClassId} {a : Int32} {b : Int32}  {M : Mem} {x : Mem} (hf : f_Packet_note n a b M = some x) : Met l y_Packet_note (wc y_Packet_note b_Packet_note 3 (none)) rm_Packet_note (va_Pc [.ref (ad 9), .int a, .int b] (cB D n ad G M)) (wr_Q (none) D cls (cK n) ad (cE n ad G x)) 0 0 (wl_A (cK n) ad) := by
  refine k_met (by decide) (Nat.le_of_ble_eq_true rfl) ?_
  intro p e s m args below meth c S hr hlk hB ls hl
  obtain ⟨hx, hb, hml, hown, hts⟩ := id S
  obtain ⟨hP, hK, hA0⟩ := hB
  have hA := wl_own hA0
  have hl : lv_has ls 3 [(0, .ref (ad 9)), (1, .int a), (2, .int b)] := hl
  have hS : va_S (wl_A (cK n) ad) s.heap s.heap [] := va_S.rf
  unfold f_Packet_note at hf
  refine lv_aload_n hx hb d_Packet_note_0 rfl (lv_at hl 0 rfl) ?_
  refine va_get (D := D) (ci := 4) (v := .ref (ad 10)) (C := R_Packet) (T := F_Packet) (N := 7) hx hb hts in_Packet hown hK hP 9 (wl_to (PK_lt) (PK_at)) rfl 0 (by decide) (hts _ fl_Packet_9) (fun _ h => h) rfl d_Packet_note_1 ?_
  refine lv_aload_n hx hb d_Packet_note_4 rfl (lv_at hl 0 rfl) ?_
  refine va_get (D := D) (ci := 4) (v := .int (M 9 0 0 2)) (C := R_Packet) (T := F_Packet) (N := 7) hx hb hts in_Packet hown hK hP 9 (wl_to (PK_lt) (PK_at)) rfl 2 (by decide) (hts _ fl_Packet_31) (fun _ h => h) rfl d_Packet_note_5 ?_
  refine lv_iload_n hx hb d_Packet_note_8 rfl (lv_at hl 1 rfl) ?_
  obtain ⟨j9, hj9, hf⟩ := ob hf
  refine m_iast (x := a) hx hb hK hP hA hS cJ 10 0 (TR_lt) (TR_tg) (fun f => TR_row f) rfl hj9 d_Packet_note_9 (fun H locs hP hS => ?_)
  refine lv_aload_n hx hb d_Packet_note_10 rfl (lv_at hl 0 rfl) ?_
  refine va_get (D := D) (ci := 4) (v := .ref (ad 11)) (C := R_Packet) (T := F_Packet) (N := 7) hx hb hts in_Packet hown hK hP 9 (wl_to (PK_lt) (PK_at)) rfl 1 (by decide) (hts _ fl_Packet_15) (fun _ h => h) rfl d_Packet_note_11 ?_
  refine lv_aload_n hx hb d_Packet_note_14 rfl (lv_at hl 0 rfl) ?_
  refine va_get (D := D) (ci := 4) (v := .int ((mset M 10 0 0 j9 a) 9 0 0 2)) (C := R_Packet) (T := F_Packet) (N := 7) hx hb hts in_Packet hown hK hP 9 (wl_to (PK_lt) (PK_at)) rfl 2 (by decide) (hts _ fl_Packet_31) (fun _ h => h) rfl d_Packet_note_15 ?_
  refine lv_iload_n hx hb d_Packet_note_18 rfl (lv_at hl 2 rfl) ?_
  obtain ⟨j19, hj19, hf⟩ := ob hf
  refine m_iast (x := b) hx hb hK hP hA hS cJ 11 0 (EN_lt) (EN_tg) (fun f => EN_row f) rfl hj19 d_Packet_note_19 (fun H locs hP hS => ?_)
  refine lv_aload_n hx hb d_Packet_note_20 rfl (lv_at hl 0 rfl) ?_
  refine lv_dup hx hb d_Packet_note_21 rfl ?_
  refine va_get (D := D) (ci := 4) (v := .int ((mset (mset M 10 0 0 j9 a) 11 0 0 j19 b) 9 0 0 2)) (C := R_Packet) (T := F_Packet) (N := 7) hx hb hts in_Packet hown hK hP 9 (wl_to (PK_lt) (PK_at)) rfl 2 (by decide) (hts _ fl_Packet_31) (fun _ h => h) rfl d_Packet_note_22 ?_
  refine lv_iconst (v := 1) hx hb d_Packet_note_25 (by decide) ?_
  refine lv_iadd hx hb d_Packet_note_26 ?_
  refine m_put (x := (((mset (mset M 10 0 0 j9 a) 11 0 0 j19 b) 9 0 0 2) + 1)) (ci := 4) (C := R_Packet) (T := F_Packet) (N := 7) hx hb hts in_Packet t_Packet ty_Packet nm_Packet hown hK hP hA hS cJ 9 (PK_lt) (Packet_fs ad) (fun _ => rfl) ⟨rfl, rfl, rfl⟩ rfl 2 (by decide) (hts _ fl_Packet_31) rfl (by decide +kernel) (fun _ => ⟨Nat.le_of_ble_eq_true rfl, rfl⟩) d_Packet_note_27 (fun H locs hP hS => ?_)
  cases hf
  exact w_vret hx hb hr hlk hP hS d_Packet_note_30
def f_Packet_begin (n : Nat) (a : Int32) (b : Int32) (z : Int32) (d : Int32) (M : Mem) : Option (Mem) :=
  (f_Packet_isForService n (mset (mset (mset (mset (mset M 9 0 0 3 b) 9 0 0 4 z) 9 0 0 5 d) 9 0 0 6 0) 9 0 0 2 0)).bind fun r29 => if r29 = 0 then ((f_Packet_note n a 0 (mset (mset (mset (mset (mset M 9 0 0 3 b) 9 0 0 4 z) 9 0 0 5 d) 9 0 0 6 0) 9 0 0 2 0)).bind fun r51 => some r51) else ((f_Packet_entryOf n (32 + ((mset (mset (mset (mset (mset M 9 0 0 3 b) 9 0 0 4 z) 9 0 0 5 d) 9 0 0 6 0) 9 0 0 2 0) 9 0 0 4)) 1 (mset (mset (mset (mset (mset M 9 0 0 3 b) 9 0 0 4 z) 9 0 0 5 d) 9 0 0 6 0) 9 0 0 2 0)).bind fun r44 => (f_Packet_note n a r44 (mset (mset (mset (mset (mset M 9 0 0 3 b) 9 0 0 4 z) 9 0 0 5 d) 9 0 0 6 0) 9 0 0 2 0)).bind fun r51 => some r51)
abbrev rm_Packet_begin : Room := { frames := 1, cells := 0, slots := 0, locals := 22 }
set_option maxHeartbeats 4000000 in
set_option maxRecDepth 100000 in
theorem c_Packet_begin {l : Launch} {D : va_G} {n : Nat} {ad : Nat → Nat} {G : Nat → ClassId} {a : Int32} {b : Int32} {z : Int32} {d : Int32}  {M : Mem} {x : Mem} (hf : f_Packet_begin n a b z d M = some x) : Met l y_Packet_begin (wc y_Packet_begin b_Packet_begin 5 (none)) rm_Packet_begin (va_Pc [.ref (ad 9), .int a, .int b, .int z, .int d] (cB D n ad G M)) (wr_Q (none) D cls (cK n) ad (cE n ad G x)) 0 0 (wl_A (cK n) ad) := by
  refine k_met (by decide) (Nat.le_of_ble_eq_true rfl) ?_
  intro p e s m args below meth c S hr hlk hB ls hl
  obtain ⟨hx, hb, hml, hown, hts⟩ := id S
  obtain ⟨hP, hK, hA0⟩ := hB
  have hA := wl_own hA0
  have hl : lv_has ls 5 [(0, .ref (ad 9)), (1, .int a), (2, .int b), (3, .int z), (4, .int d)] := hl
  have hS : va_S (wl_A (cK n) ad) s.heap s.heap [] := va_S.rf
  unfold f_Packet_begin at hf
  refine lv_aload_n hx hb d_Packet_begin_0 rfl (lv_at hl 0 rfl) ?_
  refine lv_iload_n hx hb d_Packet_begin_1 rfl (lv_at hl 2 rfl) ?_
  refine m_put (x := b) (ci := 4) (C := R_Packet) (T := F_Packet) (N := 7) hx hb hts in_Packet t_Packet ty_Packet nm_Packet hown hK hP hA hS cJ 9 (PK_lt) (Packet_fs ad) (fun _ => rfl) ⟨rfl, rfl, rfl⟩ rfl 3 (by decide) (hts _ fl_Packet_18) rfl (by decide +kernel) (fun _ => ⟨Nat.le_of_ble_eq_true rfl, rfl⟩) d_Packet_begin_2 (fun H locs hP hS => ?_)
  refine lv_aload_n hx hb d_Packet_begin_5 rfl (lv_at hl 0 rfl) ?_
  refine lv_iload_n hx hb d_Packet_begin_6 rfl (lv_at hl 3 rfl) ?_
  refine m_put (x := z) (ci := 4) (C := R_Packet) (T := F_Packet) (N := 7) hx hb hts in_Packet t_Packet ty_Packet nm_Packet hown hK hP hA hS cJ 9 (PK_lt) (Packet_fs ad) (fun _ => rfl) ⟨rfl, rfl, rfl⟩ rfl 4 (by decide) (hts _ fl_Packet_22) rfl (by decide +kernel) (fun _ => ⟨Nat.le_of_ble_eq_true rfl, rfl⟩) d_Packet_begin_7 (fun H locs hP hS => ?_)
  refine lv_aload_n hx hb d_Packet_begin_10 rfl (lv_at hl 0 rfl) ?_
  refine lv_iload hx hb d_Packet_begin_11 (lv_at hl 4 rfl) ?_
  refine m_put (x := d) (ci := 4) (C := R_Packet) (T := F_Packet) (N := 7) hx hb hts in_Packet t_Packet ty_Packet nm_Packet hown hK hP hA hS cJ 9 (PK_lt) (Packet_fs ad) (fun _ => rfl) ⟨rfl, rfl, rfl⟩ rfl 5 (by decide) (hts _ fl_Packet_25) rfl (by decide +kernel) (fun _ => ⟨Nat.le_of_ble_eq_true rfl, rfl⟩) d_Packet_begin_13 (fun H locs hP hS => ?_)
  refine lv_aload_n hx hb d_Packet_begin_16 rfl (lv_at hl 0 rfl) ?_
  refine lv_iconst (v := 0) hx hb d_Packet_begin_17 (by decide) ?_
  refine m_put (x := 0) (ci := 4) (C := R_Packet) (T := F_Packet) (N := 7) hx hb hts in_Packet t_Packet ty_Packet nm_Packet hown hK hP hA hS cJ 9 (PK_lt) (Packet_fs ad) (fun _ => rfl) ⟨rfl, rfl, rfl⟩ rfl 6 (by decide) (hts _ fl_Packet_28) rfl (by decide +kernel) (fun _ => ⟨Nat.le_of_ble_eq_true rfl, rfl⟩) d_Packet_begin_18 (fun H locs hP hS => ?_)
  refine lv_aload_n hx hb d_Packet_begin_21 rfl (lv_at hl 0 rfl) ?_
  refine lv_iconst (v := 0) hx hb d_Packet_begin_22 (by decide) ?_
  refine m_put (x := 0) (ci := 4) (C := R_Packet) (T := F_Packet) (N := 7) hx hb hts in_Packet t_Packet ty_Packet nm_Packet hown hK hP hA hS cJ 9 (PK_lt) (Packet_fs ad) (fun _ => rfl) ⟨rfl, rfl, rfl⟩ rfl 2 (by decide) (hts _ fl_Packet_31) rfl (by decide +kernel) (fun _ => ⟨Nat.le_of_ble_eq_true rfl, rfl⟩) d_Packet_begin_23 (fun H locs hP hS => ?_)
  refine lv_aload_n hx hb d_Packet_begin_26 rfl (lv_at hl 0 rfl) ?_
  refine lv_iload_n hx hb d_Packet_begin_27 rfl (lv_at hl 1 rfl) ?_
  refine lv_aload_n hx hb d_Packet_begin_28 rfl (lv_at hl 0 rfl) ?_
  obtain ⟨r29, hc29, hf⟩ := ob hf
  refine k_rdi (k_vir S (c_Packet_isForService (l := l) (D := D) (n := n) (ad := ad) (G := G) hc29) g_Packet_34 hd_Packet_isForService ⟨rfl, rfl⟩ ⟨Nat.le_of_ble_eq_true rfl, Nat.le_of_ble_eq_true rfl⟩ wl_blind (va_recv hK hP rfl (wl_to (PK_lt) (PK_at))) (wl_pre hP hK hA) rfl hl.1 rfl (Nat.le_of_ble_eq_true rfl) d_Packet_begin_29 (Nat.zero_le _) (Nat.zero_le _)) ?_
  refine lv_if_eq (tgt := 50) hx hb d_Packet_begin_32 (by decide) (fun h32 => ?_) (fun h32 => ?_)
  · rw [if_pos h32] at hf
    refine lv_iconst (v := 0) hx hb d_Packet_begin_50 (by decide) ?_
    obtain ⟨r51, hc51, hf⟩ := ob hf
    refine k_wrv (k_vir S (c_Packet_note (l := l) (D := D) (n := n) (ad := ad) (G := G) hc51) g_Packet_42 hd_Packet_note ⟨rfl, rfl⟩ ⟨Nat.le_of_ble_eq_true rfl, Nat.le_of_ble_eq_true rfl⟩ wl_blind (va_recv hK hP rfl (wl_to (PK_lt) (PK_at))) (wl_pre hP hK hA) rfl hl.1 rfl (Nat.le_of_ble_eq_true rfl) d_Packet_begin_51 (Nat.zero_le _) (Nat.zero_le _)) hS (fun _ h => h) (fun H locs hP _ _ hS => ?_)
    cases hf
    exact w_vret hx hb hr hlk hP hS d_Packet_begin_54
  · rw [if_neg h32] at hf
    refine lv_aload_n hx hb d_Packet_begin_35 rfl (lv_at hl 0 rfl) ?_
    refine lv_bipush (v := 32) hx hb d_Packet_begin_36 (by decide) ?_
    refine lv_aload_n hx hb d_Packet_begin_38 rfl (lv_at hl 0 rfl) ?_
    refine va_get (D := D) (ci := 4) (v := .int ((mset (mset (mset (mset (mset M 9 0 0 3 b) 9 0 0 4 z) 9 0 0 5 d) 9 0 0 6 0) 9 0 0 2 0) 9 0 0 4)) (C := R_Packet) (T := F_Packet) (N := 7) hx hb hts in_Packet hown hK hP 9 (wl_to (PK_lt) (PK_at)) rfl 4 (by decide) (hts _ fl_Packet_22) (fun _ h => h) rfl d_Packet_begin_39 ?_
    refine lv_iadd hx hb d_Packet_begin_42 ?_
    refine lv_iconst (v := 1) hx hb d_Packet_begin_43 (by decide) ?_
    obtain ⟨r44, hc44, hf⟩ := ob hf
    refine k_rdi (k_vir S (c_Packet_entryOf (l := l) (D := D) (n := n) (ad := ad) (G := G) hc44) g_Packet_38 hd_Packet_entryOf ⟨rfl, rfl⟩ ⟨Nat.le_of_ble_eq_true rfl, Nat.le_of_ble_eq_true rfl⟩ wl_blind (va_recv hK hP rfl (wl_to (PK_lt) (PK_at))) (wl_pre hP hK hA) rfl hl.1 rfl (Nat.le_of_ble_eq_true rfl) d_Packet_begin_44 (Nat.zero_le _) (Nat.zero_le _)) ?_
    refine lv_goto (tgt := 51) hx hb d_Packet_begin_47 (by decide) ?_
    obtain ⟨r51, hc51, hf⟩ := ob hf
    refine k_wrv (k_vir S (c_Packet_note (l := l) (D := D) (n := n) (ad := ad) (G := G) hc51) g_Packet_42 hd_Packet_note ⟨rfl, rfl⟩ ⟨Nat.le_of_ble_eq_true rfl, Nat.le_of_ble_eq_true rfl⟩ wl_blind (va_recv hK hP rfl (wl_to (PK_lt) (PK_at))) (wl_pre hP hK hA) rfl hl.1 rfl (Nat.le_of_ble_eq_true rfl) d_Packet_begin_51 (Nat.zero_le _) (Nat.zero_le _)) hS (fun _ h => h) (fun H locs hP _ _ hS => ?_)
    cases hf
    exact w_vret hx hb hr hlk hP hS d_Packet_begin_54
def f_Packet_moveTo (n : Nat) (a : Int32) (b : Int32) (M : Mem) : Option (Mem) :=
  if b = 0 then ((f_Packet_note n a 0 (mset (mset M 9 0 0 5 ((M 9 0 0 5) - 1)) 9 0 0 6 b)).bind fun r42 => some r42) else ((f_Packet_isForService n (mset (mset M 9 0 0 5 ((M 9 0 0 5) - 1)) 9 0 0 6 b)).bind fun r28 => if r28 = 0 then ((f_Packet_entryOf n b 1 (mset (mset M 9 0 0 5 ((M 9 0 0 5) - 1)) 9 0 0 6 b)).bind fun r39 => (f_Packet_note n a r39 (mset (mset M 9 0 0 5 ((M 9 0 0 5) - 1)) 9 0 0 6 b)).bind fun r42 => some r42) else ((f_Packet_entryOf n b 0 (mset (mset M 9 0 0 5 ((M 9 0 0 5) - 1)) 9 0 0 6 b)).bind fun r39 => (f_Packet_note n a r39 (mset (mset M 9 0 0 5 ((M 9 0 0 5) - 1)) 9 0 0 6 b)).bind fun r42 => some r42))
abbrev rm_Packet_moveTo : Room := { frames := 1, cells := 0, slots := 0, locals := 22 }
set_option maxHeartbeats 4000000 in
set_option maxRecDepth 100000 in
theorem c_Packet_moveTo {l : Launch} {D : va_G} {n : Nat} {ad : Nat → Nat} {G : Nat → ClassId} {a : Int32} {b : Int32}  {M : Mem} {x : Mem} (hf : f_Packet_moveTo n a b M = some x) : Met l y_Packet_moveTo (wc y_Packet_moveTo b_Packet_moveTo 3 (none)) rm_Packet_moveTo (va_Pc [.ref (ad 9), .int a, .int b] (cB D n ad G M)) (wr_Q (none) D cls (cK n) ad (cE n ad G x)) 0 0 (wl_A (cK n) ad) := by
  refine k_met (by decide) (Nat.le_of_ble_eq_true rfl) ?_
  intro p e s m args below meth c S hr hlk hB ls hl
  obtain ⟨hx, hb, hml, hown, hts⟩ := id S
  obtain ⟨hP, hK, hA0⟩ := hB
  have hA := wl_own hA0
  have hl : lv_has ls 3 [(0, .ref (ad 9)), (1, .int a), (2, .int b)] := hl
  have hS : va_S (wl_A (cK n) ad) s.heap s.heap [] := va_S.rf
  unfold f_Packet_moveTo at hf
  refine lv_aload_n hx hb d_Packet_moveTo_0 rfl (lv_at hl 0 rfl) ?_
  refine lv_dup hx hb d_Packet_moveTo_1 rfl ?_
  refine va_get (D := D) (ci := 4) (v := .int (M 9 0 0 5)) (C := R_Packet) (T := F_Packet) (N := 7) hx hb hts in_Packet hown hK hP 9 (wl_to (PK_lt) (PK_at)) rfl 5 (by decide) (hts _ fl_Packet_25) (fun _ h => h) rfl d_Packet_moveTo_2 ?_
  refine lv_iconst (v := 1) hx hb d_Packet_moveTo_5 (by decide) ?_
  refine lv_isub hx hb d_Packet_moveTo_6 ?_
  refine m_put (x := ((M 9 0 0 5) - 1)) (ci := 4) (C := R_Packet) (T := F_Packet) (N := 7) hx hb hts in_Packet t_Packet ty_Packet nm_Packet hown hK hP hA hS cJ 9 (PK_lt) (Packet_fs ad) (fun _ => rfl) ⟨rfl, rfl, rfl⟩ rfl 5 (by decide) (hts _ fl_Packet_25) rfl (by decide +kernel) (fun _ => ⟨Nat.le_of_ble_eq_true rfl, rfl⟩) d_Packet_moveTo_7 (fun H locs hP hS => ?_)
  refine lv_aload_n hx hb d_Packet_moveTo_10 rfl (lv_at hl 0 rfl) ?_
  refine lv_iload_n hx hb d_Packet_moveTo_11 rfl (lv_at hl 2 rfl) ?_
  refine m_put (x := b) (ci := 4) (C := R_Packet) (T := F_Packet) (N := 7) hx hb hts in_Packet t_Packet ty_Packet nm_Packet hown hK hP hA hS cJ 9 (PK_lt) (Packet_fs ad) (fun _ => rfl) ⟨rfl, rfl, rfl⟩ rfl 6 (by decide) (hts _ fl_Packet_28) rfl (by decide +kernel) (fun _ => ⟨Nat.le_of_ble_eq_true rfl, rfl⟩) d_Packet_moveTo_12 (fun H locs hP hS => ?_)
  refine lv_aload_n hx hb d_Packet_moveTo_15 rfl (lv_at hl 0 rfl) ?_
  refine lv_iload_n hx hb d_Packet_moveTo_16 rfl (lv_at hl 1 rfl) ?_
  refine lv_iload_n hx hb d_Packet_moveTo_17 rfl (lv_at hl 2 rfl) ?_
  refine lv_if_ne (tgt := 25) hx hb d_Packet_moveTo_18 (by decide) (fun h18 => ?_) (fun h18 => ?_)
  · rw [if_neg h18] at hf
    refine lv_aload_n hx hb d_Packet_moveTo_25 rfl (lv_at hl 0 rfl) ?_
    refine lv_iload_n hx hb d_Packet_moveTo_26 rfl (lv_at hl 2 rfl) ?_
    refine lv_aload_n hx hb d_Packet_moveTo_27 rfl (lv_at hl 0 rfl) ?_
    obtain ⟨r28, hc28, hf⟩ := ob hf
    refine k_rdi (k_vir S (c_Packet_isForService (l := l) (D := D) (n := n) (ad := ad) (G := G) hc28) g_Packet_34 hd_Packet_isForService ⟨rfl, rfl⟩ ⟨Nat.le_of_ble_eq_true rfl, Nat.le_of_ble_eq_true rfl⟩ wl_blind (va_recv hK hP rfl (wl_to (PK_lt) (PK_at))) (wl_pre hP hK hA) rfl hl.1 rfl (Nat.le_of_ble_eq_true rfl) d_Packet_moveTo_28 (Nat.zero_le _) (Nat.zero_le _)) ?_
    refine lv_if_ne (tgt := 38) hx hb d_Packet_moveTo_31 (by decide) (fun h31 => ?_) (fun h31 => ?_)
    · rw [if_neg h31] at hf
      refine lv_iconst (v := 0) hx hb d_Packet_moveTo_38 (by decide) ?_
      obtain ⟨r39, hc39, hf⟩ := ob hf
      refine k_rdi (k_vir S (c_Packet_entryOf (l := l) (D := D) (n := n) (ad := ad) (G := G) hc39) g_Packet_38 hd_Packet_entryOf ⟨rfl, rfl⟩ ⟨Nat.le_of_ble_eq_true rfl, Nat.le_of_ble_eq_true rfl⟩ wl_blind (va_recv hK hP rfl (wl_to (PK_lt) (PK_at))) (wl_pre hP hK hA) rfl hl.1 rfl (Nat.le_of_ble_eq_true rfl) d_Packet_moveTo_39 (Nat.zero_le _) (Nat.zero_le _)) ?_
      obtain ⟨r42, hc42, hf⟩ := ob hf
      refine k_wrv (k_vir S (c_Packet_note (l := l) (D := D) (n := n) (ad := ad) (G := G) hc42) g_Packet_42 hd_Packet_note ⟨rfl, rfl⟩ ⟨Nat.le_of_ble_eq_true rfl, Nat.le_of_ble_eq_true rfl⟩ wl_blind (va_recv hK hP rfl (wl_to (PK_lt) (PK_at))) (wl_pre hP hK hA) rfl hl.1 rfl (Nat.le_of_ble_eq_true rfl) d_Packet_moveTo_42 (Nat.zero_le _) (Nat.zero_le _)) hS (fun _ h => h) (fun H locs hP _ _ hS => ?_)
      cases hf
      exact w_vret hx hb hr hlk hP hS d_Packet_moveTo_45
    · rw [if_pos h31] at hf
      refine lv_iconst (v := 1) hx hb d_Packet_moveTo_34 (by decide) ?_
      refine lv_goto (tgt := 39) hx hb d_Packet_moveTo_35 (by decide) ?_
      obtain ⟨r39, hc39, hf⟩ := ob hf
      refine k_rdi (k_vir S (c_Packet_entryOf (l := l) (D := D) (n := n) (ad := ad) (G := G) hc39) g_Packet_38 hd_Packet_entryOf ⟨rfl, rfl⟩ ⟨Nat.le_of_ble_eq_true rfl, Nat.le_of_ble_eq_true rfl⟩ wl_blind (va_recv hK hP rfl (wl_to (PK_lt) (PK_at))) (wl_pre hP hK hA) rfl hl.1 rfl (Nat.le_of_ble_eq_true rfl) d_Packet_moveTo_39 (Nat.zero_le _) (Nat.zero_le _)) ?_
      obtain ⟨r42, hc42, hf⟩ := ob hf
      refine k_wrv (k_vir S (c_Packet_note (l := l) (D := D) (n := n) (ad := ad) (G := G) hc42) g_Packet_42 hd_Packet_note ⟨rfl, rfl⟩ ⟨Nat.le_of_ble_eq_true rfl, Nat.le_of_ble_eq_true rfl⟩ wl_blind (va_recv hK hP rfl (wl_to (PK_lt) (PK_at))) (wl_pre hP hK hA) rfl hl.1 rfl (Nat.le_of_ble_eq_true rfl) d_Packet_moveTo_42 (Nat.zero_le _) (Nat.zero_le _)) hS (fun _ h => h) (fun H locs hP _ _ hS => ?_)
      cases hf
      exact w_vret hx hb hr hlk hP hS d_Packet_moveTo_45
  · rw [if_pos h18] at hf
    refine lv_iconst (v := 0) hx hb d_Packet_moveTo_21 (by decide) ?_
    refine lv_goto (tgt := 42) hx hb d_Packet_moveTo_22 (by decide) ?_
    obtain ⟨r42, hc42, hf⟩ := ob hf
    refine k_wrv (k_vir S (c_Packet_note (l := l) (D := D) (n := n) (ad := ad) (G := G) hc42) g_Packet_42 hd_Packet_note ⟨rfl, rfl⟩ ⟨Nat.le_of_ble_eq_true rfl, Nat.le_of_ble_eq_true rfl⟩ wl_blind (va_recv hK hP rfl (wl_to (PK_lt) (PK_at))) (wl_pre hP hK hA) rfl hl.1 rfl (Nat.le_of_ble_eq_true rfl) d_Packet_moveTo_42 (Nat.zero_le _) (Nat.zero_le _)) hS (fun _ h => h) (fun H locs hP _ _ hS => ?_)
    cases hf
    exact w_vret hx hb hr hlk hP hS d_Packet_moveTo_45
def f_Packet_pop (n : Nat) (M : Mem) : Option (Mem) :=
  some (mset M 9 0 0 6 0)
abbrev rm_Packet_pop : Room := { frames := 0, cells := 0, slots := 0, locals := 0 }
set_option maxHeartbeats 4000000 in
set_option maxRecDepth 100000 in
theorem c_Packet_pop {l : Launch} {D : va_G} {n : Nat} {ad : Nat → Nat} {G : Nat → ClassId}  {M : Mem} {x : Mem} (hf : f_Packet_pop n M = some x) : Met l y_Packet_pop (wc y_Packet_pop b_Packet_pop 1 (none)) rm_Packet_pop (va_Pc [.ref (ad 9)] (cB D n ad G M)) (wr_Q (none) D cls (cK n) ad (cE n ad G x)) 0 0 (wl_A (cK n) ad) := by
  refine k_met (by decide) (Nat.le_of_ble_eq_true rfl) ?_
  intro p e s m args below meth c S hr hlk hB ls hl
  obtain ⟨hx, hb, hml, hown, hts⟩ := id S
  obtain ⟨hP, hK, hA0⟩ := hB
  have hA := wl_own hA0
  have hl : lv_has ls 1 [(0, .ref (ad 9))] := hl
  have hS : va_S (wl_A (cK n) ad) s.heap s.heap [] := va_S.rf
  unfold f_Packet_pop at hf
  refine lv_aload_n hx hb d_Packet_pop_0 rfl (lv_at hl 0 rfl) ?_
  refine lv_iconst (v := 0) hx hb d_Packet_pop_1 (by decide) ?_
  refine m_put (x := 0) (ci := 4) (C := R_Packet) (T := F_Packet) (N := 7) hx hb hts in_Packet t_Packet ty_Packet nm_Packet hown hK hP hA hS cJ 9 (PK_lt) (Packet_fs ad) (fun _ => rfl) ⟨rfl, rfl, rfl⟩ rfl 6 (by decide) (hts _ fl_Packet_28) rfl (by decide +kernel) (fun _ => ⟨Nat.le_of_ble_eq_true rfl, rfl⟩) d_Packet_pop_2 (fun H locs hP hS => ?_)
  cases hf
  exact w_vret hx hb hr hlk hP hS d_Packet_pop_5
