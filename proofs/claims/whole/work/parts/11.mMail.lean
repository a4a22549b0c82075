def f_Mail_kindOf (a : Int32) : Option (Int32) :=
  some (a >>> (16 &&& 31))
abbrev rm_Mail_kindOf : Room := { frames := 0, cells := 0, slots := 0, locals := 0 }
set_option maxHeartbeats 4000000 in
set_option maxRecDepth 100000 in
theorem c_Mail_kindOf {l : Launch} {D : va_G} {n : Nat} {ad : Nat → Nat} {G : Nat → ClassId} {a : Int32}  {M : Mem} {x : Int32} (hf : f_Mail_kindOf a = some x) : Met l y_Mail_kindOf (wc y_Mail_kindOf b_Mail_kindOf 1 (some .int)) rm_Mail_kindOf (va_Pc [.int a] (cB D n ad G M)) (rd_Q (some (.int x))) 0 0 (fun _ => False) := by
  refine k_met (by decide) (Nat.le_of_ble_eq_true rfl) ?_
  intro p e s m args below meth c S hr hlk hB ls hl
  obtain ⟨hx, hb, hml, hown, hts⟩ := id S
  obtain ⟨hP, hK, hA0⟩ := hB
  have hA := wl_own hA0
  have hl : lv_has ls 1 [(0, .int a)] := hl
  unfold f_Mail_kindOf at hf
  refine lv_iload_n hx hb d_Mail_kindOf_0 rfl (lv_at hl 0 rfl) ?_
  refine lv_bipush (v := 16) hx hb d_Mail_kindOf_1 (by decide) ?_
  refine lv_ishr hx hb d_Mail_kindOf_3 ?_
  cases hf
  exact r_iret hx hb hr hlk d_Mail_kindOf_4
def f_Mail_fromOf (a : Int32) : Option (Int32) :=
  some ((a >>> (12 &&& 31)) &&& 15)
abbrev rm_Mail_fromOf : Room := { frames := 0, cells := 0, slots := 0, locals := 0 }
set_option maxHeartbeats 4000000 in
set_option maxRecDepth 100000 in
theorem c_Mail_fromOf {l : Launch} {D : va_G} {n : Nat} {ad : Nat → Nat} {G : Nat → ClassId} {a : Int32}  {M : Mem} {x : Int32} (hf : f_Mail_fromOf a = some x) : Met l y_Mail_fromOf (wc y_Mail_fromOf b_Mail_fromOf 1 (some .int)) rm_Mail_fromOf (va_Pc [.int a] (cB D n ad G M)) (rd_Q (some (.int x))) 0 0 (fun _ => False) := by
  refine k_met (by decide) (Nat.le_of_ble_eq_true rfl) ?_
  intro p e s m args below meth c S hr hlk hB ls hl
  obtain ⟨hx, hb, hml, hown, hts⟩ := id S
  obtain ⟨hP, hK, hA0⟩ := hB
  have hA := wl_own hA0
  have hl : lv_has ls 1 [(0, .int a)] := hl
  unfold f_Mail_fromOf at hf
  refine lv_iload_n hx hb d_Mail_fromOf_0 rfl (lv_at hl 0 rfl) ?_
  refine lv_bipush (v := 12) hx hb d_Mail_fromOf_1 (by decide) ?_
  refine lv_ishr hx hb d_Mail_fromOf_3 ?_
  refine lv_bipush (v := 15) hx hb d_Mail_fromOf_4 (by decide) ?_
  refine lv_iand hx hb d_Mail_fromOf_6 ?_
  cases hf
  exact r_iret hx hb hr hlk d_Mail_fromOf_7
def f_Mail_toOf (a : Int32) : Option (Int32) :=
  some ((a >>> (8 &&& 31)) &&& 15)
abbrev rm_Mail_toOf : Room := { frames := 0, cells := 0, slots := 0, locals := 0 }
set_option maxHeartbeats 4000000 in
set_option maxRecDepth 100000 in
theorem c_Mail_toOf {l : Launch} {D : va_G} {n : Nat} {ad : Nat → Nat} {G : Nat → ClassId} {a : Int32}  {M : Mem} {x : Int32} (hf : f_Mail_toOf a = some x) : Met l y_Mail_toOf (wc y_Mail_toOf b_Mail_toOf 1 (some .int)) rm_Mail_toOf (va_Pc [.int a] (cB D n ad G M)) (rd_Q (some (.int x))) 0 0 (fun _ => False) := by
  refine k_met (by decide) (Nat.le_of_ble_eq_true rfl) ?_
  intro p e s m args below meth c S hr hlk hB ls hl
  obtain ⟨hx, hb, hml, hown, hts⟩ := id S
  obtain ⟨hP, hK, hA0⟩ := hB
  have hA := wl_own hA0
  have hl : lv_has ls 1 [(0, .int a)] := hl
  unfold f_Mail_toOf at hf
  refine lv_iload_n hx hb d_Mail_toOf_0 rfl (lv_at hl 0 rfl) ?_
  refine lv_bipush (v := 8) hx hb d_Mail_toOf_1 (by decide) ?_
  refine lv_ishr hx hb d_Mail_toOf_3 ?_
  refine lv_bipush (v := 15) hx hb d_Mail_toOf_4 (by decide) ?_
  refine lv_iand hx hb d_Mail_toOf_6 ?_
  cases hf
  exact r_iret hx hb hr hlk d_Mail_toOf_7
def f_Mail_prefixOf (a : Int32) : Option (Int32) :=
  some ((a >>> (5 &&& 31)) &&& 7)
abbrev rm_Mail_prefixOf : Room := { frames := 0, cells := 0, slots := 0, locals := 0 }
set_option maxHeartbeats 4000000 in
set_option maxRecDepth 100000 in
theorem c_Mail_prefixOf {l : Launch} {D : va_G} {n : Nat} {ad : Nat → Nat} {G : Nat → ClassId} {a : Int32}  {M : Mem} {x : Int32} (hf : f_Mail_prefixOf a = some x) : Met l y_Mail_prefixOf (wc y_Mail_prefixOf b_Mail_prefixOf 1 (some .int)) rm_Mail_prefixOf (va_Pc [.int a] (cB D n ad G M)) (rd_Q (some (.int x))) 0 0 (fun _ => False) := by
  refine k_met (by decide) (Nat.le_of_ble_eq_true rfl) ?_
  intro p e s m args below meth c S hr hlk hB ls hl
  obtain ⟨hx, hb, hml, hown, hts⟩ := id S
  obtain ⟨hP, hK, hA0⟩ := hB
  have hA := wl_own hA0
  have hl : lv_has ls 1 [(0, .int a)] := hl
  unfold f_Mail_prefixOf at hf
  refine lv_iload_n hx hb d_Mail_prefixOf_0 rfl (lv_at hl 0 rfl) ?_
  refine lv_iconst (v := 5) hx hb d_Mail_prefixOf_1 (by decide) ?_
  refine lv_ishr hx hb d_Mail_prefixOf_2 ?_
  refine lv_bipush (v := 7) hx hb d_Mail_prefixOf_3 (by decide) ?_
  refine lv_iand hx hb d_Mail_prefixOf_5 ?_
  cases hf
  exact r_iret hx hb hr hlk d_Mail_prefixOf_6
def f_Mail_labelOf (a : Int32) : Option (Int32) :=
  some (a &&& 31)
abbrev rm_Mail_labelOf : Room := { frames := 0, cells := 0, slots := 0, locals := 0 }
set_option maxHeartbeats 4000000 in
set_option maxRecDepth 100000 in
theorem c_Mail_labelOf {l : Launch} {D : va_G} {n : Nat} {ad : Nat → Nat} {G : Nat → ClassId} {a : Int32}  {M : Mem} {x : Int32} (hf : f_Mail_labelOf a = some x) : Met l y_Mail_labelOf (wc y_Mail_labelOf b_Mail_labelOf 1 (some .int)) rm_Mail_labelOf (va_Pc [.int a] (cB D n ad G M)) (rd_Q (some (.int x))) 0 0 (fun _ => False) := by
  refine k_met (by decide) (Nat.le_of_ble_eq_true rfl) ?_
  intro p e s m args below meth c S hr hlk hB ls hl
  obtain ⟨hx, hb, hml, hown, hts⟩ := id S
  obtain ⟨hP, hK, hA0⟩ := hB
  have hA := wl_own hA0
  have hl : lv_has ls 1 [(0, .int a)] := hl
  unfold f_Mail_labelOf at hf
  refine lv_iload_n hx hb d_Mail_labelOf_0 rfl (lv_at hl 0 rfl) ?_
  refine lv_bipush (v := 31) hx hb d_Mail_labelOf_1 (by decide) ?_
  refine lv_iand hx hb d_Mail_labelOf_3 ?_
  cases hf
  exact r_iret hx hb hr hlk d_Mail_labelOf_4
def f_Mail_size (n : Nat) (M : Mem) : Option (Int32) :=
  some (M 5 0 0 1)
abbrev rm_Mail_size : Room := { frames := 0, cells := 0, slots := 0, locals := 0 }
set_option maxHeartbeats 4000000 in
set_option maxRecDepth 100000 in
theorem c_Mail_size {l : Launch} {D : va_G} {n : Nat} {ad : Nat → Nat} {G : Nat → ClassId}  {M : Mem} {x : Int32} (hf : f_Mail_size n M = some x) : Met l y_Mail_size (wc y_Mail_size b_Mail_size 1 (some .int)) rm_Mail_size (va_Pc [.ref (ad 5)] (cB D n ad G M)) (rd_Q (some (.int x))) 0 0 (fun _ => False) := by
  refine k_met (by decide) (Nat.le_of_ble_eq_true rfl) ?_
  intro p e s m args below meth c S hr hlk hB ls hl
  obtain ⟨hx, hb, hml, hown, hts⟩ := id S
  obtain ⟨hP, hK, hA0⟩ := hB
  have hA := wl_own hA0
  have hl : lv_has ls 1 [(0, .ref (ad 5))] := hl
  unfold f_Mail_size at hf
  refine lv_aload_n hx hb d_Mail_size_0 rfl (lv_at hl 0 rfl) ?_
  refine va_get (D := D) (ci := 2) (v := .int (M 5 0 0 1)) (C := R_Mail) (T := F_Mail) (N := 3) hx hb hts in_Mail hown hK hP 5 (wl_to (Mail_lt) (Mail_at)) rfl 1 (by decide) (hts _ fl_Mail_15) (fun _ h => h) rfl d_Mail_size_1 ?_
  cases hf
  exact r_iret hx hb hr hlk d_Mail_size_4
def f_Mail_lostCount (n : Nat) (M : Mem) : Option (Int32) :=
  some (M 5 0 0 2)
abbrev rm_Mail_lostCount : Room := { frames := 0, cells := 0, slots := 0, locals := 0 }
set_option maxHeartbeats 4000000 in
set_option maxRecDepth 100000 in
theorem c_Mail_lostCount {l : Launch} {D : va_G} {n : Nat} {ad : Nat → Nat} {G : Nat → ClassId}  {M : Mem} {x : Int32} (hf : f_Mail_lostCount n M = some x) : Met l y_Mail_lostCount (wc y_Mail_lostCount b_Mail_lostCount 1 (some .int)) rm_Mail_lostCount (va_Pc [.ref (ad 5)] (cB D n ad G M)) (rd_Q (some (.int x))) 0 0 (fun _ => False) := by
  refine k_met (by decide) (Nat.le_of_ble_eq_true rfl) ?_
  intro p e s m args below meth c S hr hlk hB ls hl
  obtain ⟨hx, hb, hml, hown, hts⟩ := id S
  obtain ⟨hP, hK, hA0⟩ := hB
  have hA := wl_own hA0
  have hl : lv_has ls 1 [(0, .ref (ad 5))] := hl
  unfold f_Mail_lostCount at hf
  refine lv_aload_n hx hb d_Mail_lostCount_0 rfl (lv_at hl 0 rfl) ?_
  refine va_get (D := D) (ci := 2) (v := .int (M 5 0 0 2)) (C := R_Mail) (T := F_Mail) (N := 3) hx hb hts in_Mail hown hK hP 5 (wl_to (Mail_lt) (Mail_at)) rfl 2 (by decide) (hts _ fl_Mail_19) (fun _ h => h) rfl d_Mail_lostCount_1 ?_
  cases hf
  exact r_iret hx hb hr hlk d_Mail_lostCount_4
def f_Mail_post (n : Nat) (a : Int32) (b : Int32) (z : Int32) (d : Int32) (g : Int32) (M : Mem) : Option (Mem) :=
  if (M 5 0 0 1) = 240 then (some (mset M 5 0 0 2 ((M 5 0 0 2) + 1))) else ((ix (M 5 0 0 1) 240).bind fun j51 => some (mset (mset M 6 0 0 j51 (((((a <<< (16 &&& 31)) ||| (b <<< (12 &&& 31))) ||| (z <<< (8 &&& 31))) ||| (d <<< (5 &&& 31))) ||| g)) 5 0 0 1 (((mset M 6 0 0 j51 (((((a <<< (16 &&& 31)) ||| (b <<< (12 &&& 31))) ||| (z <<< (8 &&& 31))) ||| (d <<< (5 &&& 31))) ||| g)) 5 0 0 1) + 1)))
abbrev rm_Mail_post : Room := { frames := 0, cells := 0, slots := 0, locals := 0 }
set_option maxHeartbeats 4000000 in
set_option maxRecDepth 100000 in
theorem c_Mail_post {l : Launch} {D : va_G} {n : Nat} {ad : Nat → Nat} {G : Nat → ClassId} {a : Int32} {b : Int32} {z : Int32} {d : Int32} {g : Int32}  {M : Mem} {x : Mem} (hf : f_Mail_post n a b z d g M = some x) : Met l y_Mail_post (wc y_Mail_post b_Mail_post 6 (none)) rm_Mail_post (va_Pc [.ref (ad 5), .int a, .int b, .int z, .int d, .int g] (cB D n ad G M)) (wr_Q (none) D cls (cK n) ad (cE n ad G x)) 0 0 (wl_A (cK n) ad) := by
  refine k_met (by decide) (Nat.le_of_ble_eq_true rfl) ?_
  intro p e s m args below meth c S hr hlk hB ls hl
  obtain ⟨hx, hb, hml, hown, hts⟩ := id S
  obtain ⟨hP, hK, hA0⟩ := hB
  have hA := wl_own hA0
  have hl : lv_has ls 6 [(0, .ref (ad 5)), (1, .int a), (2, .int b), (3, .int z), (4, .int d), (5, .int g)] := hl
  have hS : va_S (wl_A (cK n) ad) s.heap s.heap [] := va_S.rf
  unfold f_Mail_post at hf
  refine lv_aload_n hx hb d_Mail_post_0 rfl (lv_at hl 0 rfl) ?_
  refine va_get (D := D) (ci := 2) (v := .int (M 5 0 0 1)) (C := R_Mail) (T := F_Mail) (N := 3) hx hb hts in_Mail hown hK hP 5 (wl_to (Mail_lt) (Mail_at)) rfl 1 (by decide) (hts _ fl_Mail_15) (fun _ h => h) rfl d_Mail_post_1 ?_
  refine lv_sipush (v := 240) hx hb d_Mail_post_4 (by decide) ?_
  refine lv_icmp_ne (tgt := 21) hx hb d_Mail_post_7 (by decide) (fun h7 => ?_) (fun h7 => ?_)
  · rw [if_neg h7] at hf
    refine lv_aload_n hx hb d_Mail_post_21 rfl (lv_at hl 0 rfl) ?_
    refine va_get (D := D) (ci := 2) (v := .ref (ad 6)) (C := R_Mail) (T := F_Mail) (N := 3) hx hb hts in_Mail hown hK hP 5 (wl_to (Mail_lt) (Mail_at)) rfl 0 (by decide) (hts _ fl_Mail_9) (fun _ h => h) rfl d_Mail_post_22 ?_
    refine lv_aload_n hx hb d_Mail_post_25 rfl (lv_at hl 0 rfl) ?_
    refine va_get (D := D) (ci := 2) (v := .int (M 5 0 0 1)) (C := R_Mail) (T := F_Mail) (N := 3) hx hb hts in_Mail hown hK hP 5 (wl_to (Mail_lt) (Mail_at)) rfl 1 (by decide) (hts _ fl_Mail_15) (fun _ h => h) rfl d_Mail_post_26 ?_
    refine lv_iload_n hx hb d_Mail_post_29 rfl (lv_at hl 1 rfl) ?_
    refine lv_bipush (v := 16) hx hb d_Mail_post_30 (by decide) ?_
    refine lv_ishl hx hb d_Mail_post_32 ?_
    refine lv_iload_n hx hb d_Mail_post_33 rfl (lv_at hl 2 rfl) ?_
    refine lv_bipush (v := 12) hx hb d_Mail_post_34 (by decide) ?_
    refine lv_ishl hx hb d_Mail_post_36 ?_
    refine lv_ior hx hb d_Mail_post_37 ?_
    refine lv_iload_n hx hb d_Mail_post_38 rfl (lv_at hl 3 rfl) ?_
    refine lv_bipush (v := 8) hx hb d_Mail_post_39 (by decide) ?_
    refine lv_ishl hx hb d_Mail_post_41 ?_
    refine lv_ior hx hb d_Mail_post_42 ?_
    refine lv_iload hx hb d_Mail_post_43 (lv_at hl 4 rfl) ?_
    refine lv_iconst (v := 5) hx hb d_Mail_post_45 (by decide) ?_
    refine lv_ishl hx hb d_Mail_post_46 ?_
    refine lv_ior hx hb d_Mail_post_47 ?_
    refine lv_iload hx hb d_Mail_post_48 (lv_at hl 5 rfl) ?_
    refine lv_ior hx hb d_Mail_post_50 ?_
    obtain ⟨j51, hj51, hf⟩ := ob hf
    refine m_iast (x := (((((a <<< (16 &&& 31)) ||| (b <<< (12 &&& 31))) ||| (z <<< (8 &&& 31))) ||| (d <<< (5 &&& 31))) ||| g)) hx hb hK hP hA hS cJ 6 0 (MS_lt) (MS_tg) (fun f => MS_row f) rfl hj51 d_Mail_post_51 (fun H locs hP hS => ?_)
    refine lv_aload_n hx hb d_Mail_post_52 rfl (lv_at hl 0 rfl) ?_
    refine lv_dup hx hb d_Mail_post_53 rfl ?_
    refine va_get (D := D) (ci := 2) (v := .int ((mset M 6 0 0 j51 (((((a <<< (16 &&& 31)) ||| (b <<< (12 &&& 31))) ||| (z <<< (8 &&& 31))) ||| (d <<< (5 &&& 31))) ||| g)) 5 0 0 1)) (C := R_Mail) (T := F_Mail) (N := 3) hx hb hts in_Mail hown hK hP 5 (wl_to (Mail_lt) (Mail_at)) rfl 1 (by decide) (hts _ fl_Mail_15) (fun _ h => h) rfl d_Mail_post_54 ?_
    refine lv_iconst (v := 1) hx hb d_Mail_post_57 (by decide) ?_
    refine lv_iadd hx hb d_Mail_post_58 ?_
    refine m_put (x := (((mset M 6 0 0 j51 (((((a <<< (16 &&& 31)) ||| (b <<< (12 &&& 31))) ||| (z <<< (8 &&& 31))) ||| (d <<< (5 &&& 31))) ||| g)) 5 0 0 1) + 1)) (ci := 2) (C := R_Mail) (T := F_Mail) (N := 3) hx hb hts in_Mail t_Mail ty_Mail nm_Mail hown hK hP hA hS cJ 5 (Mail_lt) (Mail_fs ad) (fun _ => rfl) ⟨rfl, rfl, rfl⟩ rfl 1 (by decide) (hts _ fl_Mail_15) rfl (by decide +kernel) (fun _ => ⟨Nat.le_of_ble_eq_true rfl, rfl⟩) d_Mail_post_59 (fun H locs hP hS => ?_)
    cases hf
    exact w_vret hx hb hr hlk hP hS d_Mail_post_62
  · rw [if_pos h7] at hf
    refine lv_aload_n hx hb d_Mail_post_10 rfl (lv_at hl 0 rfl) ?_
    refine lv_dup hx hb d_Mail_post_11 rfl ?_
    refine va_get (D := D) (ci := 2) (v := .int (M 5 0 0 2)) (C := R_Mail) (T := F_Mail) (N := 3) hx hb hts in_Mail hown hK hP 5 (wl_to (Mail_lt) (Mail_at)) rfl 2 (by decide) (hts _ fl_Mail_19) (fun _ h => h) rfl d_Mail_post_12 ?_
    refine lv_iconst (v := 1) hx hb d_Mail_post_15 (by decide) ?_
    refine lv_iadd hx hb d_Mail_post_16 ?_
    refine m_put (x := ((M 5 0 0 2) + 1)) (ci := 2) (C := R_Mail) (T := F_Mail) (N := 3) hx hb hts in_Mail t_Mail ty_Mail nm_Mail hown hK hP hA hS cJ 5 (Mail_lt) (Mail_fs ad) (fun _ => rfl) ⟨rfl, rfl, rfl⟩ rfl 2 (by decide) (hts _ fl_Mail_19) rfl (by decide +kernel) (fun _ => ⟨Nat.le_of_ble_eq_true rfl, rfl⟩) d_Mail_post_17 (fun H locs hP hS => ?_)
    cases hf
    exact w_vret hx hb hr hlk hP hS d_Mail_post_20
def f_Mail_firstBetween_2 (n : Nat) (a : Int32) (b : Int32) (M : Mem) : Nat → Int32 → Option (Int32)
  | 0, _ => none
  | k2 + 1, v3_2 =>
    if (M 5 0 0 1) ≤ v3_2 then (some (-1)) else ((ix v3_2 240).bind fun j15 => (f_Mail_fromOf (M 6 0 0 j15)).bind fun r16 => if r16 = a then ((ix v3_2 240).bind fun j28 => (f_Mail_toOf (M 6 0 0 j28)).bind fun r29 => if r29 = b then (some v3_2) else (f_Mail_firstBetween_2 n a b M k2 (v3_2 + 1))) else (f_Mail_firstBetween_2 n a b M k2 (v3_2 + 1)))
def f_Mail_firstBetween (n : Nat) (a : Int32) (b : Int32) (M : Mem) : Option (Int32) :=
  f_Mail_firstBetween_2 n a b M 1000 0
abbrev rm_Mail_firstBetween : Room := { frames := 1, cells := 0, slots := 0, locals := 20 }
set_option maxHeartbeats 4000000 in
set_option maxRecDepth 100000 in
theorem c_Mail_firstBetween {l : Launch} {D : va_G} {n : Nat} {ad : Nat → Nat} {G : Nat → ClassId} {a : Int32} {b : Int32}  {M : Mem} {x : Int32} (hf : f_Mail_firstBetween n a b M = some x) : Met l y_Mail_firstBetween (wc y_Mail_firstBetween b_Mail_firstBetween 4 (some .int)) rm_Mail_firstBetween (va_Pc [.ref (ad 5), .int a, .int b] (cB D n ad G M)) (rd_Q (some (.int x))) 0 0 (fun _ => False) := by
  refine k_met (by decide) (Nat.le_of_ble_eq_true rfl) ?_
  intro p e s m args below meth c S hr hlk hB ls hl
  obtain ⟨hx, hb, hml, hown, hts⟩ := id S
  obtain ⟨hP, hK, hA0⟩ := hB
  have hA := wl_own hA0
  have hl : lv_has ls 4 [(0, .ref (ad 5)), (1, .int a), (2, .int b)] := hl
  unfold f_Mail_firstBetween at hf
  refine lv_iconst (v := 0) hx hb d_Mail_firstBetween_0 (by decide) ?_
  refine lv_istore_n (lv' := [(3, .int 0), (0, .ref (ad 5)), (1, .int a), (2, .int b)]) hx hb d_Mail_firstBetween_1 rfl hl (by decide) rfl (fun ls hl => ?_)
  have L2 : ∀ (k2 : Nat) (v3_2 : Int32) (ls : Array Slot), lv_has ls 4 [(3, .int v3_2), (0, .ref (ad 5)), (1, .int a), (2, .int b)] → f_Mail_firstBetween_2 n a b M k2 v3_2 = some x → W p l e rm_Mail_firstBetween s m args below meth c s.heap [] 0 0 (MQ below (rd_Q (some (.int x))) args s 0 0 (fun _ => False)) (F0 m 2 ls []) := by
    intro k2
    induction k2 with
    | zero =>
      intro v3_2 ls hl hf
      simp [f_Mail_firstBetween_2] at hf
    | succ k2 ih2 =>
      intro v3_2 ls hl hf
      rw [f_Mail_firstBetween_2] at hf
      refine lv_iload_n hx hb d_Mail_firstBetween_2 rfl (lv_at hl 0 rfl) ?_
      refine lv_aload_n hx hb d_Mail_firstBetween_3 rfl (lv_at hl 1 rfl) ?_
      refine va_get (D := D) (ci := 2) (v := .int (M 5 0 0 1)) (C := R_Mail) (T := F_Mail) (N := 3) hx hb hts in_Mail hown hK hP 5 (wl_to (Mail_lt) (Mail_at)) rfl 1 (by decide) (hts _ fl_Mail_15) (fun _ h => h) rfl d_Mail_firstBetween_4 ?_
      refine lv_icmp_ge (tgt := 44) hx hb d_Mail_firstBetween_7 (by decide) (fun h7 => ?_) (fun h7 => ?_)
      · rw [if_pos h7] at hf
        refine lv_iconst (v := (-1)) hx hb d_Mail_firstBetween_44 (by decide) ?_
        cases hf
        exact r_iret hx hb hr hlk d_Mail_firstBetween_45
      · rw [if_neg h7] at hf
        refine lv_aload_n hx hb d_Mail_firstBetween_10 rfl (lv_at hl 1 rfl) ?_
        refine va_get (D := D) (ci := 2) (v := .ref (ad 6)) (C := R_Mail) (T := F_Mail) (N := 3) hx hb hts in_Mail hown hK hP 5 (wl_to (Mail_lt) (Mail_at)) rfl 0 (by decide) (hts _ fl_Mail_9) (fun _ h => h) rfl d_Mail_firstBetween_11 ?_
        refine lv_iload_n hx hb d_Mail_firstBetween_14 rfl (lv_at hl 0 rfl) ?_
        obtain ⟨j15, hj15, hf⟩ := ob hf
        refine k_iald hx hb hK hP 6 0 (MS_lt) (MS_at) rfl hj15 d_Mail_firstBetween_15 ?_
        obtain ⟨r16, hc16, hf⟩ := ob hf
        refine k_rdi (k_sta S (c_Mail_fromOf (l := l) (D := D) (n := n) (ad := ad) (G := G) hc16) g_Mail_22 hd_Mail_fromOf ⟨rfl, rfl⟩ ⟨Nat.le_of_ble_eq_true rfl, Nat.le_of_ble_eq_true rfl⟩ wl_blind (wl_pre hP hK hA) rfl hl.1 rfl (Nat.le_of_ble_eq_true rfl) d_Mail_firstBetween_16 (Nat.zero_le _) (Nat.zero_le _)) ?_
        refine lv_iload_n hx hb d_Mail_firstBetween_19 rfl (lv_at hl 2 rfl) ?_
        refine lv_icmp_ne (tgt := 38) hx hb d_Mail_firstBetween_20 (by decide) (fun h20 => ?_) (fun h20 => ?_)
        · rw [if_neg h20] at hf
          refine lv_iinc (v := (v3_2 + 1)) (lv' := [(3, .int (v3_2 + 1)), (0, .ref (ad 5)), (1, .int a), (2, .int b)]) hx hb d_Mail_firstBetween_38 hl (k := 0) rfl rfl (by decide) rfl (fun ls hl => ?_)
          refine lv_goto (tgt := 2) hx hb d_Mail_firstBetween_41 (by decide) ?_
          exact ih2 _ _ (lv_sub hl [0, 1, 2, 3] rfl) hf
        · rw [if_pos h20] at hf
          refine lv_aload_n hx hb d_Mail_firstBetween_23 rfl (lv_at hl 1 rfl) ?_
          refine va_get (D := D) (ci := 2) (v := .ref (ad 6)) (C := R_Mail) (T := F_Mail) (N := 3) hx hb hts in_Mail hown hK hP 5 (wl_to (Mail_lt) (Mail_at)) rfl 0 (by decide) (hts _ fl_Mail_9) (fun _ h => h) rfl d_Mail_firstBetween_24 ?_
          refine lv_iload_n hx hb d_Mail_firstBetween_27 rfl (lv_at hl 0 rfl) ?_
          obtain ⟨j28, hj28, hf⟩ := ob hf
          refine k_iald hx hb hK hP 6 0 (MS_lt) (MS_at) rfl hj28 d_Mail_firstBetween_28 ?_
          obtain ⟨r29, hc29, hf⟩ := ob hf
          refine k_rdi (k_sta S (c_Mail_toOf (l := l) (D := D) (n := n) (ad := ad) (G := G) hc29) g_Mail_26 hd_Mail_toOf ⟨rfl, rfl⟩ ⟨Nat.le_of_ble_eq_true rfl, Nat.le_of_ble_eq_true rfl⟩ wl_blind (wl_pre hP hK hA) rfl hl.1 rfl (Nat.le_of_ble_eq_true rfl) d_Mail_firstBetween_29 (Nat.zero_le _) (Nat.zero_le _)) ?_
          refine lv_iload_n hx hb d_Mail_firstBetween_32 rfl (lv_at hl 3 rfl) ?_
          refine lv_icmp_ne (tgt := 38) hx hb d_Mail_firstBetween_33 (by decide) (fun h33 => ?_) (fun h33 => ?_)
          · rw [if_neg h33] at hf
            refine lv_iinc (v := (v3_2 + 1)) (lv' := [(3, .int (v3_2 + 1)), (0, .ref (ad 5)), (1, .int a), (2, .int b)]) hx hb d_Mail_firstBetween_38 hl (k := 0) rfl rfl (by decide) rfl (fun ls hl => ?_)
            refine lv_goto (tgt := 2) hx hb d_Mail_firstBetween_41 (by decide) ?_
            exact ih2 _ _ (lv_sub hl [0, 1, 2, 3] rfl) hf
          · rw [if_pos h33] at hf
            refine lv_iload_n hx hb d_Mail_firstBetween_36 rfl (lv_at hl 0 rfl) ?_
            cases hf
            exact r_iret hx hb hr hlk d_Mail_firstBetween_37
  exact L2 _ _ _ (lv_sub hl [0, 1, 2, 3] rfl) hf
def f_Mail_take (n : Nat) (a : Int32) (M : Mem) : Option (Int32 × Mem) :=
  (ix a 240).bind fun j5 => if cpok (a + 1) a (((mset M 5 0 0 1 ((M 5 0 0 1) - 1)) 5 0 0 1) - a) 240 then (some ((M 6 0 0 j5), (ms (mset M 5 0 0 1 ((M 5 0 0 1) - 1)) 6 0 0 (va_cpy ((mset M 5 0 0 1 ((M 5 0 0 1) - 1)) 6 0 0) ((mset M 5 0 0 1 ((M 5 0 0 1) - 1)) 6 0 0) ((a + 1)).toNatClampNeg (a).toNatClampNeg ((((mset M 5 0 0 1 ((M 5 0 0 1) - 1)) 5 0 0 1) - a)).toNatClampNeg)))) else none
abbrev rm_Mail_take : Room := { frames := 1, cells := 0, slots := 0, locals := 120 }
set_option maxHeartbeats 4000000 in
set_option maxRecDepth 100000 in
theorem c_Mail_take {l : Launch} {D : va_G} {n : Nat} {ad : Nat → Nat} {G : Nat → ClassId} {a : Int32}  {M : Mem} {x : Int32 × Mem} (hf : f_Mail_take n a M = some x) : Met l y_Mail_take (wc y_Mail_take b_Mail_take 3 (some .int)) rm_Mail_take (va_Pc [.ref (ad 5), .int a] (cB D n ad G M)) (wr_Q (some (.int x.1)) D cls (cK n) ad (cE n ad G x.2)) 0 0 (wl_A (cK n) ad) := by
  refine k_met (by decide) (Nat.le_of_ble_eq_true rfl) ?_
  intro p e s m args below meth c S hr hlk hB ls hl
  obtain ⟨hx, hb, hml, hown, hts⟩ := id S
  obtain ⟨hP, hK, hA0⟩ := hB
  have hA := wl_own hA0
  have hl : lv_has ls 3 [(0, .ref (ad 5)), (1, .int a)] := hl
  have hS : va_S (wl_A (cK n) ad) s.heap s.heap [] := va_S.rf
  unfold f_Mail_take at hf
  refine lv_aload_n hx hb d_Mail_take_0 rfl (lv_at hl 0 rfl) ?_
  refine va_get (D := D) (ci := 2) (v := .ref (ad 6)) (C := R_Mail) (T := F_Mail) (N := 3) hx hb hts in_Mail hown hK hP 5 (wl_to (Mail_lt) (Mail_at)) rfl 0 (by decide) (hts _ fl_Mail_9) (fun _ h => h) rfl d_Mail_take_1 ?_
  refine lv_iload_n hx hb d_Mail_take_4 rfl (lv_at hl 1 rfl) ?_
  obtain ⟨j5, hj5, hf⟩ := ob hf
  refine k_iald hx hb hK hP 6 0 (MS_lt) (MS_at) rfl hj5 d_Mail_take_5 ?_
  refine lv_istore_n (lv' := [(2, .int (M 6 0 0 j5)), (0, .ref (ad 5)), (1, .int a)]) hx hb d_Mail_take_6 rfl hl (by decide) rfl (fun ls hl => ?_)
  refine lv_aload_n hx hb d_Mail_take_7 rfl (lv_at hl 1 rfl) ?_
  refine lv_dup hx hb d_Mail_take_8 rfl ?_
  refine va_get (D := D) (ci := 2) (v := .int (M 5 0 0 1)) (C := R_Mail) (T := F_Mail) (N := 3) hx hb hts in_Mail hown hK hP 5 (wl_to (Mail_lt) (Mail_at)) rfl 1 (by decide) (hts _ fl_Mail_15) (fun _ h => h) rfl d_Mail_take_9 ?_
  refine lv_iconst (v := 1) hx hb d_Mail_take_12 (by decide) ?_
  refine lv_isub hx hb d_Mail_take_13 ?_
  refine m_put (x := ((M 5 0 0 1) - 1)) (ci := 2) (C := R_Mail) (T := F_Mail) (N := 3) hx hb hts in_Mail t_Mail ty_Mail nm_Mail hown hK hP hA hS cJ 5 (Mail_lt) (Mail_fs ad) (fun _ => rfl) ⟨rfl, rfl, rfl⟩ rfl 1 (by decide) (hts _ fl_Mail_15) rfl (by decide +kernel) (fun _ => ⟨Nat.le_of_ble_eq_true rfl, rfl⟩) d_Mail_take_14 (fun H locs hP hS => ?_)
  refine lv_aload_n hx hb d_Mail_take_17 rfl (lv_at hl 1 rfl) ?_
  refine va_get (D := D) (ci := 2) (v := .ref (ad 6)) (C := R_Mail) (T := F_Mail) (N := 3) hx hb hts in_Mail hown hK hP 5 (wl_to (Mail_lt) (Mail_at)) rfl 0 (by decide) (hts _ fl_Mail_9) (fun _ h => h) rfl d_Mail_take_18 ?_
  refine lv_iload_n hx hb d_Mail_take_21 rfl (lv_at hl 2 rfl) ?_
  refine lv_iconst (v := 1) hx hb d_Mail_take_22 (by decide) ?_
  refine lv_iadd hx hb d_Mail_take_23 ?_
  refine lv_aload_n hx hb d_Mail_take_24 rfl (lv_at hl 1 rfl) ?_
  refine va_get (D := D) (ci := 2) (v := .ref (ad 6)) (C := R_Mail) (T := F_Mail) (N := 3) hx hb hts in_Mail hown hK hP 5 (wl_to (Mail_lt) (Mail_at)) rfl 0 (by decide) (hts _ fl_Mail_9) (fun _ h => h) rfl d_Mail_take_25 ?_
  refine lv_iload_n hx hb d_Mail_take_28 rfl (lv_at hl 2 rfl) ?_
  refine lv_aload_n hx hb d_Mail_take_29 rfl (lv_at hl 1 rfl) ?_
  refine va_get (D := D) (ci := 2) (v := .int ((mset M 5 0 0 1 ((M 5 0 0 1) - 1)) 5 0 0 1)) (C := R_Mail) (T := F_Mail) (N := 3) hx hb hts in_Mail hown hK hP 5 (wl_to (Mail_lt) (Mail_at)) rfl 1 (by decide) (hts _ fl_Mail_15) (fun _ h => h) rfl d_Mail_take_30 ?_
  refine lv_iload_n hx hb d_Mail_take_33 rfl (lv_at hl 2 rfl) ?_
  refine lv_isub hx hb d_Mail_take_34 ?_
  by_cases hc35 : cpok (a + 1) a (((mset M 5 0 0 1 ((M 5 0 0 1) - 1)) 5 0 0 1) - a) 240
  case neg => rw [if_neg hc35] at hf; cases hf
  rw [if_pos hc35] at hf
  refine m_copy hx hb (hml.trans hl.1.symm) hown (hts _ ml_Mail_29) (hts _ ac_nat) (hts _ ac_st) (hts _ ac_ini) hK hP hA hS cJ 6 0 (MS_lt) (MS_tg) (fun f => MS_row f) rfl hc35 (by decide) (Nat.le_of_ble_eq_true rfl) d_Mail_take_35 (fun H locs hP hS => ?_)
  refine lv_iload_n hx hb d_Mail_take_38 rfl (lv_at hl 0 rfl) ?_
  cases hf
  exact w_iret hx hb hr hlk hP hS d_Mail_take_39
def f_Mail_dropBetween_5 (n : Nat) (a : Int32) (b : Int32) : Nat → Int32 → Int32 → Mem → Option (Mem)
  | 0, _, _, _ => none
  | k5 + 1, v4_5, v3_5, N5 =>
    if (N5 5 0 0 1) ≤ v4_5 then (some (mset N5 5 0 0 1 v3_5)) else ((ix v4_5 240).bind fun j20 => (f_Mail_fromOf (N5 6 0 0 j20)).bind fun r21 => (ix v4_5 240).bind fun j32 => (f_Mail_toOf (N5 6 0 0 j32)).bind fun r33 => if r21 = a then (if r33 = b then (f_Mail_dropBetween_5 n a b k5 (v4_5 + 1) v3_5 N5) else (if r21 = b then (if r33 = a then (f_Mail_dropBetween_5 n a b k5 (v4_5 + 1) v3_5 N5) else ((ix v4_5 240).bind fun j85 => (ix v3_5 240).bind fun j86 => f_Mail_dropBetween_5 n a b k5 (v4_5 + 1) (v3_5 + 1) (mset N5 6 0 0 j86 (N5 6 0 0 j85)))) else ((ix v4_5 240).bind fun j85 => (ix v3_5 240).bind fun j86 => f_Mail_dropBetween_5 n a b k5 (v4_5 + 1) (v3_5 + 1) (mset N5 6 0 0 j86 (N5 6 0 0 j85))))) else (if r21 = b then (if r33 = a then (f_Mail_dropBetween_5 n a b k5 (v4_5 + 1) v3_5 N5) else ((ix v4_5 240).bind fun j85 => (ix v3_5 240).bind fun j86 => f_Mail_dropBetween_5 n a b k5 (v4_5 + 1) (v3_5 + 1) (mset N5 6 0 0 j86 (N5 6 0 0 j85)))) else ((ix v4_5 240).bind fun j85 => (ix v3_5 240).bind fun j86 => f_Mail_dropBetween_5 n a b k5 (v4_5 + 1) (v3_5 + 1) (mset N5 6 0 0 j86 (N5 6 0 0 j85)))))
def f_Mail_dropBetween (n : Nat) (a : Int32) (b : Int32) (M : Mem) : Option (Mem) :=
  f_Mail_dropBetween_5 n a b 1000 0 0 M
abbrev rm_Mail_dropBetween : Room := { frames := 1, cells := 0, slots := 0, locals := 20 }
set_option maxHeartbeats 4000000 in
set_option maxRecDepth 100000 in
theorem c_Mail_dropBetween {l : Launch} {D : va_G} {n : Nat} {ad : Nat → Nat} {G : Nat → ClassId} {a : Int32} {b : Int32}  {M : Mem} {x : Mem} (hf : f_Mail_dropBetween n a b M = some x) : Met l y_Mail_dropBetween (wc y_Mail_dropBetween b_Mail_dropBetween 8 (none)) rm_Mail_dropBetween (va_Pc [.ref (ad 5), .int a, .int b] (cB D n ad G M)) (wr_Q (none) D cls (cK n) ad (cE n ad G x)) 0 0 (wl_A (cK n) ad) := by
  refine k_met (by decide) (Nat.le_of_ble_eq_true rfl) ?_
  intro p e s m args below meth c S hr hlk hB ls hl
  obtain ⟨hx, hb, hml, hown, hts⟩ := id S
  obtain ⟨hP, hK, hA0⟩ := hB
  have hA := wl_own hA0
  have hl : lv_has ls 8 [(0, .ref (ad 5)), (1, .int a), (2, .int b)] := hl
  have hS : va_S (wl_A (cK n) ad) s.heap s.heap [] := va_S.rf
  unfold f_Mail_dropBetween at hf
  refine lv_iconst (v := 0) hx hb d_Mail_dropBetween_0 (by decide) ?_
  refine lv_istore_n (lv' := [(3, .int 0), (0, .ref (ad 5)), (1, .int a), (2, .int b)]) hx hb d_Mail_dropBetween_1 rfl hl (by decide) rfl (fun ls hl => ?_)
  refine lv_iconst (v := 0) hx hb d_Mail_dropBetween_2 (by decide) ?_
  refine lv_istore (lv' := [(4, .int 0), (3, .int 0), (0, .ref (ad 5)), (1, .int a), (2, .int b)]) hx hb d_Mail_dropBetween_3 hl (by decide) rfl (fun ls hl => ?_)
  have L5 : ∀ (k5 : Nat) (v4_5 : Int32) (v3_5 : Int32) (N5 : Mem) (H : Heap) (locs : List Loc) (ls : Array Slot), lv_has ls 8 [(4, .int v4_5), (3, .int v3_5), (0, .ref (ad 5)), (1, .int a), (2, .int b)] → va_P D cls (cW n ad G N5) H → va_S (wl_A (cK n) ad) s.heap H locs → f_Mail_dropBetween_5 n a b k5 v4_5 v3_5 N5 = some x → W p l e rm_Mail_dropBetween s m args below meth c H locs 0 0 (MQ below (wr_Q (none) D cls (cK n) ad (cE n ad G x)) args s 0 0 (wl_A (cK n) ad)) (F0 m 5 ls []) := by
    intro k5
    induction k5 with
    | zero =>
      intro v4_5 v3_5 N5 H locs ls hl hP hS hf
      simp [f_Mail_dropBetween_5] at hf
    | succ k5 ih5 =>
      intro v4_5 v3_5 N5 H locs ls hl hP hS hf
      rw [f_Mail_dropBetween_5] at hf
      refine lv_iload hx hb d_Mail_dropBetween_5 (lv_at hl 0 rfl) ?_
      refine lv_aload_n hx hb d_Mail_dropBetween_7 rfl (lv_at hl 2 rfl) ?_
      refine va_get (D := D) (ci := 2) (v := .int (N5 5 0 0 1)) (C := R_Mail) (T := F_Mail) (N := 3) hx hb hts in_Mail hown hK hP 5 (wl_to (Mail_lt) (Mail_at)) rfl 1 (by decide) (hts _ fl_Mail_15) (fun _ h => h) rfl d_Mail_dropBetween_8 ?_
      refine lv_icmp_ge (tgt := 96) hx hb d_Mail_dropBetween_11 (by decide) (fun h11 => ?_) (fun h11 => ?_)
      · rw [if_pos h11] at hf
        refine lv_aload_n hx hb d_Mail_dropBetween_96 rfl (lv_at hl 2 rfl) ?_
        refine lv_iload_n hx hb d_Mail_dropBetween_97 rfl (lv_at hl 1 rfl) ?_
        refine m_put (x := v3_5) (ci := 2) (C := R_Mail) (T := F_Mail) (N := 3) hx hb hts in_Mail t_Mail ty_Mail nm_Mail hown hK hP hA hS cJ 5 (Mail_lt) (Mail_fs ad) (fun _ => rfl) ⟨rfl, rfl, rfl⟩ rfl 1 (by decide) (hts _ fl_Mail_15) rfl (by decide +kernel) (fun _ => ⟨Nat.le_of_ble_eq_true rfl, rfl⟩) d_Mail_dropBetween_98 (fun H locs hP hS => ?_)
        cases hf
        exact w_vret hx hb hr hlk hP hS d_Mail_dropBetween_101
      · rw [if_neg h11] at hf
        refine lv_aload_n hx hb d_Mail_dropBetween_14 rfl (lv_at hl 2 rfl) ?_
        refine va_get (D := D) (ci := 2) (v := .ref (ad 6)) (C := R_Mail) (T := F_Mail) (N := 3) hx hb hts in_Mail hown hK hP 5 (wl_to (Mail_lt) (Mail_at)) rfl 0 (by decide) (hts _ fl_Mail_9) (fun _ h => h) rfl d_Mail_dropBetween_15 ?_
        refine lv_iload hx hb d_Mail_dropBetween_18 (lv_at hl 0 rfl) ?_
        obtain ⟨j20, hj20, hf⟩ := ob hf
        refine k_iald hx hb hK hP 6 0 (MS_lt) (MS_at) rfl hj20 d_Mail_dropBetween_20 ?_
        obtain ⟨r21, hc21, hf⟩ := ob hf
        refine k_rdi (k_sta S (c_Mail_fromOf (l := l) (D := D) (n := n) (ad := ad) (G := G) hc21) g_Mail_22 hd_Mail_fromOf ⟨rfl, rfl⟩ ⟨Nat.le_of_ble_eq_true rfl, Nat.le_of_ble_eq_true rfl⟩ wl_blind (wl_pre hP hK hA) rfl hl.1 rfl (Nat.le_of_ble_eq_true rfl) d_Mail_dropBetween_21 (Nat.zero_le _) (Nat.zero_le _)) ?_
        refine lv_istore (lv' := [(5, .int r21), (4, .int v4_5), (3, .int v3_5), (0, .ref (ad 5)), (1, .int a), (2, .int b)]) hx hb d_Mail_dropBetween_24 hl (by decide) rfl (fun ls hl => ?_)
        refine lv_aload_n hx hb d_Mail_dropBetween_26 rfl (lv_at hl 3 rfl) ?_
        refine va_get (D := D) (ci := 2) (v := .ref (ad 6)) (C := R_Mail) (T := F_Mail) (N := 3) hx hb hts in_Mail hown hK hP 5 (wl_to (Mail_lt) (Mail_at)) rfl 0 (by decide) (hts _ fl_Mail_9) (fun _ h => h) rfl d_Mail_dropBetween_27 ?_
        refine lv_iload hx hb d_Mail_dropBetween_30 (lv_at hl 1 rfl) ?_
        obtain ⟨j32, hj32, hf⟩ := ob hf
        refine k_iald hx hb hK hP 6 0 (MS_lt) (MS_at) rfl hj32 d_Mail_dropBetween_32 ?_
        obtain ⟨r33, hc33, hf⟩ := ob hf
        refine k_rdi (k_sta S (c_Mail_toOf (l := l) (D := D) (n := n) (ad := ad) (G := G) hc33) g_Mail_26 hd_Mail_toOf ⟨rfl, rfl⟩ ⟨Nat.le_of_ble_eq_true rfl, Nat.le_of_ble_eq_true rfl⟩ wl_blind (wl_pre hP hK hA) rfl hl.1 rfl (Nat.le_of_ble_eq_true rfl) d_Mail_dropBetween_33 (Nat.zero_le _) (Nat.zero_le _)) ?_
        refine lv_istore (lv' := [(6, .int r33), (5, .int r21), (4, .int v4_5), (3, .int v3_5), (0, .ref (ad 5)), (1, .int a), (2, .int b)]) hx hb d_Mail_dropBetween_36 hl (by decide) rfl (fun ls hl => ?_)
        refine lv_iload hx hb d_Mail_dropBetween_38 (lv_at hl 1 rfl) ?_
        refine lv_iload_n hx hb d_Mail_dropBetween_40 rfl (lv_at hl 5 rfl) ?_
        refine lv_icmp_ne (tgt := 50) hx hb d_Mail_dropBetween_41 (by decide) (fun h41 => ?_) (fun h41 => ?_)
        · rw [if_neg h41] at hf
          refine lv_iload hx hb d_Mail_dropBetween_50 (lv_at hl 1 rfl) ?_
          refine lv_iload_n hx hb d_Mail_dropBetween_52 rfl (lv_at hl 6 rfl) ?_
          refine lv_icmp_ne (tgt := 66) hx hb d_Mail_dropBetween_53 (by decide) (fun h53 => ?_) (fun h53 => ?_)
          · rw [if_neg h53] at hf
            refine lv_iconst (v := 0) hx hb d_Mail_dropBetween_66 (by decide) ?_
            refine lv_istore (lv' := [(7, .int 0), (6, .int r33), (5, .int r21), (4, .int v4_5), (3, .int v3_5), (0, .ref (ad 5)), (1, .int a), (2, .int b)]) hx hb d_Mail_dropBetween_67 hl (by decide) rfl (fun ls hl => ?_)
            refine lv_iload hx hb d_Mail_dropBetween_69 (lv_at hl 0 rfl) ?_
            refine lv_if_ne (tgt := 90) hx hb d_Mail_dropBetween_71 (by decide) (fun h => absurd h (by decide)) (fun _ => ?_)
            refine lv_aload_n hx hb d_Mail_dropBetween_74 rfl (lv_at hl 5 rfl) ?_
            refine va_get (D := D) (ci := 2) (v := .ref (ad 6)) (C := R_Mail) (T := F_Mail) (N := 3) hx hb hts in_Mail hown hK hP 5 (wl_to (Mail_lt) (Mail_at)) rfl 0 (by decide) (hts _ fl_Mail_9) (fun _ h => h) rfl d_Mail_dropBetween_75 ?_
            refine lv_iload_n hx hb d_Mail_dropBetween_78 rfl (lv_at hl 4 rfl) ?_
            refine lv_aload_n hx hb d_Mail_dropBetween_79 rfl (lv_at hl 5 rfl) ?_
            refine va_get (D := D) (ci := 2) (v := .ref (ad 6)) (C := R_Mail) (T := F_Mail) (N := 3) hx hb hts in_Mail hown hK hP 5 (wl_to (Mail_lt) (Mail_at)) rfl 0 (by decide) (hts _ fl_Mail_9) (fun _ h => h) rfl d_Mail_dropBetween_80 ?_
            refine lv_iload hx hb d_Mail_dropBetween_83 (lv_at hl 3 rfl) ?_
            obtain ⟨j85, hj85, hf⟩ := ob hf
            refine k_iald hx hb hK hP 6 0 (MS_lt) (MS_at) rfl hj85 d_Mail_dropBetween_85 ?_
            obtain ⟨j86, hj86, hf⟩ := ob hf
            refine m_iast (x := (N5 6 0 0 j85)) hx hb hK hP hA hS cJ 6 0 (MS_lt) (MS_tg) (fun f => MS_row f) rfl hj86 d_Mail_dropBetween_86 (fun H locs hP hS => ?_)
            refine lv_iinc (v := (v3_5 + 1)) (lv' := [(3, .int (v3_5 + 1)), (7, .int 0), (6, .int r33), (5, .int r21), (4, .int v4_5), (0, .ref (ad 5)), (1, .int a), (2, .int b)]) hx hb d_Mail_dropBetween_87 hl (k := 4) rfl rfl (by decide) rfl (fun ls hl => ?_)
            refine lv_iinc (v := (v4_5 + 1)) (lv' := [(4, .int (v4_5 + 1)), (3, .int (v3_5 + 1)), (7, .int 0), (6, .int r33), (5, .int r21), (0, .ref (ad 5)), (1, .int a), (2, .int b)]) hx hb d_Mail_dropBetween_90 hl (k := 4) rfl rfl (by decide) rfl (fun ls hl => ?_)
            refine lv_goto (tgt := 5) hx hb d_Mail_dropBetween_93 (by decide) ?_
            exact ih5 _ _ _ _ _ _ (lv_sub hl [0, 1, 5, 6, 7] rfl) hP hS hf
          · rw [if_pos h53] at hf
            refine lv_iload hx hb d_Mail_dropBetween_56 (lv_at hl 0 rfl) ?_
            refine lv_iload_n hx hb d_Mail_dropBetween_58 rfl (lv_at hl 5 rfl) ?_
            refine lv_icmp_ne (tgt := 66) hx hb d_Mail_dropBetween_59 (by decide) (fun h59 => ?_) (fun h59 => ?_)
            · rw [if_neg h59] at hf
              refine lv_iconst (v := 0) hx hb d_Mail_dropBetween_66 (by decide) ?_
              refine lv_istore (lv' := [(7, .int 0), (6, .int r33), (5, .int r21), (4, .int v4_5), (3, .int v3_5), (0, .ref (ad 5)), (1, .int a), (2, .int b)]) hx hb d_Mail_dropBetween_67 hl (by decide) rfl (fun ls hl => ?_)
              refine lv_iload hx hb d_Mail_dropBetween_69 (lv_at hl 0 rfl) ?_
              refine lv_if_ne (tgt := 90) hx hb d_Mail_dropBetween_71 (by decide) (fun h => absurd h (by decide)) (fun _ => ?_)
              refine lv_aload_n hx hb d_Mail_dropBetween_74 rfl (lv_at hl 5 rfl) ?_
              refine va_get (D := D) (ci := 2) (v := .ref (ad 6)) (C := R_Mail) (T := F_Mail) (N := 3) hx hb hts in_Mail hown hK hP 5 (wl_to (Mail_lt) (Mail_at)) rfl 0 (by decide) (hts _ fl_Mail_9) (fun _ h => h) rfl d_Mail_dropBetween_75 ?_
              refine lv_iload_n hx hb d_Mail_dropBetween_78 rfl (lv_at hl 4 rfl) ?_
              refine lv_aload_n hx hb d_Mail_dropBetween_79 rfl (lv_at hl 5 rfl) ?_
              refine va_get (D := D) (ci := 2) (v := .ref (ad 6)) (C := R_Mail) (T := F_Mail) (N := 3) hx hb hts in_Mail hown hK hP 5 (wl_to (Mail_lt) (Mail_at)) rfl 0 (by decide) (hts _ fl_Mail_9) (fun _ h => h) rfl d_Mail_dropBetween_80 ?_
              refine lv_iload hx hb d_Mail_dropBetween_83 (lv_at hl 3 rfl) ?_
              obtain ⟨j85, hj85, hf⟩ := ob hf
              refine k_iald hx hb hK hP 6 0 (MS_lt) (MS_at) rfl hj85 d_Mail_dropBetween_85 ?_
              obtain ⟨j86, hj86, hf⟩ := ob hf
              refine m_iast (x := (N5 6 0 0 j85)) hx hb hK hP hA hS cJ 6 0 (MS_lt) (MS_tg) (fun f => MS_row f) rfl hj86 d_Mail_dropBetween_86 (fun H locs hP hS => ?_)
              refine lv_iinc (v := (v3_5 + 1)) (lv' := [(3, .int (v3_5 + 1)), (7, .int 0), (6, .int r33), (5, .int r21), (4, .int v4_5), (0, .ref (ad 5)), (1, .int a), (2, .int b)]) hx hb d_Mail_dropBetween_87 hl (k := 4) rfl rfl (by decide) rfl (fun ls hl => ?_)
              refine lv_iinc (v := (v4_5 + 1)) (lv' := [(4, .int (v4_5 + 1)), (3, .int (v3_5 + 1)), (7, .int 0), (6, .int r33), (5, .int r21), (0, .ref (ad 5)), (1, .int a), (2, .int b)]) hx hb d_Mail_dropBetween_90 hl (k := 4) rfl rfl (by decide) rfl (fun ls hl => ?_)
              refine lv_goto (tgt := 5) hx hb d_Mail_dropBetween_93 (by decide) ?_
              exact ih5 _ _ _ _ _ _ (lv_sub hl [0, 1, 5, 6, 7] rfl) hP hS hf
            · rw [if_pos h59] at hf
              refine lv_iconst (v := 1) hx hb d_Mail_dropBetween_62 (by decide) ?_
              refine lv_goto (tgt := 67) hx hb d_Mail_dropBetween_63 (by decide) ?_
              refine lv_istore (lv' := [(7, .int 1), (6, .int r33), (5, .int r21), (4, .int v4_5), (3, .int v3_5), (0, .ref (ad 5)), (1, .int a), (2, .int b)]) hx hb d_Mail_dropBetween_67 hl (by decide) rfl (fun ls hl => ?_)
              refine lv_iload hx hb d_Mail_dropBetween_69 (lv_at hl 0 rfl) ?_
              refine lv_if_ne (tgt := 90) hx hb d_Mail_dropBetween_71 (by decide) (fun _ => ?_) (fun h => absurd h (by decide))
              refine lv_iinc (v := (v4_5 + 1)) (lv' := [(4, .int (v4_5 + 1)), (7, .int 1), (6, .int r33), (5, .int r21), (3, .int v3_5), (0, .ref (ad 5)), (1, .int a), (2, .int b)]) hx hb d_Mail_dropBetween_90 hl (k := 3) rfl rfl (by decide) rfl (fun ls hl => ?_)
              refine lv_goto (tgt := 5) hx hb d_Mail_dropBetween_93 (by decide) ?_
              exact ih5 _ _ _ _ _ _ (lv_sub hl [0, 4, 5, 6, 7] rfl) hP hS hf
        · rw [if_pos h41] at hf
          refine lv_iload hx hb d_Mail_dropBetween_44 (lv_at hl 0 rfl) ?_
          refine lv_iload_n hx hb d_Mail_dropBetween_46 rfl (lv_at hl 6 rfl) ?_
          refine lv_icmp_eq (tgt := 62) hx hb d_Mail_dropBetween_47 (by decide) (fun h47 => ?_) (fun h47 => ?_)
          · rw [if_pos h47] at hf
            refine lv_iconst (v := 1) hx hb d_Mail_dropBetween_62 (by decide) ?_
            refine lv_goto (tgt := 67) hx hb d_Mail_dropBetween_63 (by decide) ?_
            refine lv_istore (lv' := [(7, .int 1), (6, .int r33), (5, .int r21), (4, .int v4_5), (3, .int v3_5), (0, .ref (ad 5)), (1, .int a), (2, .int b)]) hx hb d_Mail_dropBetween_67 hl (by decide) rfl (fun ls hl => ?_)
            refine lv_iload hx hb d_Mail_dropBetween_69 (lv_at hl 0 rfl) ?_
            refine lv_if_ne (tgt := 90) hx hb d_Mail_dropBetween_71 (by decide) (fun _ => ?_) (fun h => absurd h (by decide))
            refine lv_iinc (v := (v4_5 + 1)) (lv' := [(4, .int (v4_5 + 1)), (7, .int 1), (6, .int r33), (5, .int r21), (3, .int v3_5), (0, .ref (ad 5)), (1, .int a), (2, .int b)]) hx hb d_Mail_dropBetween_90 hl (k := 3) rfl rfl (by decide) rfl (fun ls hl => ?_)
            refine lv_goto (tgt := 5) hx hb d_Mail_dropBetween_93 (by decide) ?_
            exact ih5 _ _ _ _ _ _ (lv_sub hl [0, 4, 5, 6, 7] rfl) hP hS hf
          · rw [if_neg h47] at hf
            refine lv_iload hx hb d_Mail_dropBetween_50 (lv_at hl 1 rfl) ?_
            refine lv_iload_n hx hb d_Mail_dropBetween_52 rfl (lv_at hl 6 rfl) ?_
            refine lv_icmp_ne (tgt := 66) hx hb d_Mail_dropBetween_53 (by decide) (fun h53 => ?_) (fun h53 => ?_)
            · rw [if_neg h53] at hf
              refine lv_iconst (v := 0) hx hb d_Mail_dropBetween_66 (by decide) ?_
              refine lv_istore (lv' := [(7, .int 0), (6, .int r33), (5, .int r21), (4, .int v4_5), (3, .int v3_5), (0, .ref (ad 5)), (1, .int a), (2, .int b)]) hx hb d_Mail_dropBetween_67 hl (by decide) rfl (fun ls hl => ?_)
              refine lv_iload hx hb d_Mail_dropBetween_69 (lv_at hl 0 rfl) ?_
              refine lv_if_ne (tgt := 90) hx hb d_Mail_dropBetween_71 (by decide) (fun h => absurd h (by decide)) (fun _ => ?_)
              refine lv_aload_n hx hb d_Mail_dropBetween_74 rfl (lv_at hl 5 rfl) ?_
              refine va_get (D := D) (ci := 2) (v := .ref (ad 6)) (C := R_Mail) (T := F_Mail) (N := 3) hx hb hts in_Mail hown hK hP 5 (wl_to (Mail_lt) (Mail_at)) rfl 0 (by decide) (hts _ fl_Mail_9) (fun _ h => h) rfl d_Mail_dropBetween_75 ?_
              refine lv_iload_n hx hb d_Mail_dropBetween_78 rfl (lv_at hl 4 rfl) ?_
              refine lv_aload_n hx hb d_Mail_dropBetween_79 rfl (lv_at hl 5 rfl) ?_
              refine va_get (D := D) (ci := 2) (v := .ref (ad 6)) (C := R_Mail) (T := F_Mail) (N := 3) hx hb hts in_Mail hown hK hP 5 (wl_to (Mail_lt) (Mail_at)) rfl 0 (by decide) (hts _ fl_Mail_9) (fun _ h => h) rfl d_Mail_dropBetween_80 ?_
              refine lv_iload hx hb d_Mail_dropBetween_83 (lv_at hl 3 rfl) ?_
              obtain ⟨j85, hj85, hf⟩ := ob hf
              refine k_iald hx hb hK hP 6 0 (MS_lt) (MS_at) rfl hj85 d_Mail_dropBetween_85 ?_
              obtain ⟨j86, hj86, hf⟩ := ob hf
              refine m_iast (x := (N5 6 0 0 j85)) hx hb hK hP hA hS cJ 6 0 (MS_lt) (MS_tg) (fun f => MS_row f) rfl hj86 d_Mail_dropBetween_86 (fun H locs hP hS => ?_)
              refine lv_iinc (v := (v3_5 + 1)) (lv' := [(3, .int (v3_5 + 1)), (7, .int 0), (6, .int r33), (5, .int r21), (4, .int v4_5), (0, .ref (ad 5)), (1, .int a), (2, .int b)]) hx hb d_Mail_dropBetween_87 hl (k := 4) rfl rfl (by decide) rfl (fun ls hl => ?_)
              refine lv_iinc (v := (v4_5 + 1)) (lv' := [(4, .int (v4_5 + 1)), (3, .int (v3_5 + 1)), (7, .int 0), (6, .int r33), (5, .int r21), (0, .ref (ad 5)), (1, .int a), (2, .int b)]) hx hb d_Mail_dropBetween_90 hl (k := 4) rfl rfl (by decide) rfl (fun ls hl => ?_)
              refine lv_goto (tgt := 5) hx hb d_Mail_dropBetween_93 (by decide) ?_
              exact ih5 _ _ _ _ _ _ (lv_sub hl [0, 1, 5, 6, 7] rfl) hP hS hf
            · rw [if_pos h53] at hf
              refine lv_iload hx hb d_Mail_dropBetween_56 (lv_at hl 0 rfl) ?_
              refine lv_iload_n hx hb d_Mail_dropBetween_58 rfl (lv_at hl 5 rfl) ?_
              refine lv_icmp_ne (tgt := 66) hx hb d_Mail_dropBetween_59 (by decide) (fun h59 => ?_) (fun h59 => ?_)
              · rw [if_neg h59] at hf
                refine lv_iconst (v := 0) hx hb d_Mail_dropBetween_66 (by decide) ?_
                refine lv_istore (lv' := [(7, .int 0), (6, .int r33), (5, .int r21), (4, .int v4_5), (3, .int v3_5), (0, .ref (ad 5)), (1, .int a), (2, .int b)]) hx hb d_Mail_dropBetween_67 hl (by decide) rfl (fun ls hl => ?_)
                refine lv_iload hx hb d_Mail_dropBetween_69 (lv_at hl 0 rfl) ?_
                refine lv_if_ne (tgt := 90) hx hb d_Mail_dropBetween_71 (by decide) (fun h => absurd h (by decide)) (fun _ => ?_)
                refine lv_aload_n hx hb d_Mail_dropBetween_74 rfl (lv_at hl 5 rfl) ?_
                refine va_get (D := D) (ci := 2) (v := .ref (ad 6)) (C := R_Mail) (T := F_Mail) (N := 3) hx hb hts in_Mail hown hK hP 5 (wl_to (Mail_lt) (Mail_at)) rfl 0 (by decide) (hts _ fl_Mail_9) (fun _ h => h) rfl d_Mail_dropBetween_75 ?_
                refine lv_iload_n hx hb d_Mail_dropBetween_78 rfl (lv_at hl 4 rfl) ?_
                refine lv_aload_n hx hb d_Mail_dropBetween_79 rfl (lv_at hl 5 rfl) ?_
                refine va_get (D := D) (ci := 2) (v := .ref (ad 6)) (C := R_Mail) (T := F_Mail) (N := 3) hx hb hts in_Mail hown hK hP 5 (wl_to (Mail_lt) (Mail_at)) rfl 0 (by decide) (hts _ fl_Mail_9) (fun _ h => h) rfl d_Mail_dropBetween_80 ?_
                refine lv_iload hx hb d_Mail_dropBetween_83 (lv_at hl 3 rfl) ?_
                obtain ⟨j85, hj85, hf⟩ := ob hf
                refine k_iald hx hb hK hP 6 0 (MS_lt) (MS_at) rfl hj85 d_Mail_dropBetween_85 ?_
                obtain ⟨j86, hj86, hf⟩ := ob hf
                refine m_iast (x := (N5 6 0 0 j85)) hx hb hK hP hA hS cJ 6 0 (MS_lt) (MS_tg) (fun f => MS_row f) rfl hj86 d_Mail_dropBetween_86 (fun H locs hP hS => ?_)
                refine lv_iinc (v := (v3_5 + 1)) (lv' := [(3, .int (v3_5 + 1)), (7, .int 0), (6, .int r33), (5, .int r21), (4, .int v4_5), (0, .ref (ad 5)), (1, .int a), (2, .int b)]) hx hb d_Mail_dropBetween_87 hl (k := 4) rfl rfl (by decide) rfl (fun ls hl => ?_)
                refine lv_iinc (v := (v4_5 + 1)) (lv' := [(4, .int (v4_5 + 1)), (3, .int (v3_5 + 1)), (7, .int 0), (6, .int r33), (5, .int r21), (0, .ref (ad 5)), (1, .int a), (2, .int b)]) hx hb d_Mail_dropBetween_90 hl (k := 4) rfl rfl (by decide) rfl (fun ls hl => ?_)
                refine lv_goto (tgt := 5) hx hb d_Mail_dropBetween_93 (by decide) ?_
                exact ih5 _ _ _ _ _ _ (lv_sub hl [0, 1, 5, 6, 7] rfl) hP hS hf
              · rw [if_pos h59] at hf
                refine lv_iconst (v := 1) hx hb d_Mail_dropBetween_62 (by decide) ?_
                refine lv_goto (tgt := 67) hx hb d_Mail_dropBetween_63 (by decide) ?_
                refine lv_istore (lv' := [(7, .int 1), (6, .int r33), (5, .int r21), (4, .int v4_5), (3, .int v3_5), (0, .ref (ad 5)), (1, .int a), (2, .int b)]) hx hb d_Mail_dropBetween_67 hl (by decide) rfl (fun ls hl => ?_)
                refine lv_iload hx hb d_Mail_dropBetween_69 (lv_at hl 0 rfl) ?_
                refine lv_if_ne (tgt := 90) hx hb d_Mail_dropBetween_71 (by decide) (fun _ => ?_) (fun h => absurd h (by decide))
                refine lv_iinc (v := (v4_5 + 1)) (lv' := [(4, .int (v4_5 + 1)), (7, .int 1), (6, .int r33), (5, .int r21), (3, .int v3_5), (0, .ref (ad 5)), (1, .int a), (2, .int b)]) hx hb d_Mail_dropBetween_90 hl (k := 3) rfl rfl (by decide) rfl (fun ls hl => ?_)
                refine lv_goto (tgt := 5) hx hb d_Mail_dropBetween_93 (by decide) ?_
                exact ih5 _ _ _ _ _ _ (lv_sub hl [0, 4, 5, 6, 7] rfl) hP hS hf
  exact L5 _ _ _ _ _ _ _ (lv_sub hl [0, 1, 2, 3, 4] rfl) hP hS hf
