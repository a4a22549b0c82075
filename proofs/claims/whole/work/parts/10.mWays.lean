def f_Ways_costOf (n : Nat) (a : Int32) (b : Int32) (M : Mem) : Option (Int32) :=
  (ix a n).bind fun j5 => (ix b n).bind fun j7 => some (M 16 j5 0 j7)
abbrev rm_Ways_costOf : Room := { frames := 0, cells := 0, slots := 0, locals := 0 }
set_option maxHeartbeats 4000000 in
set_option maxRecDepth 100000 in
theorem c_Ways_costOf {l : Launch} {D : va_G} {n : Nat} {ad : Nat → Nat} {G : Nat → ClassId} {a : Int32} {b : Int32}  {M : Mem} {x : Int32} (hf : f_Ways_costOf n a b M = some x) : Met l y_Ways_costOf (wc y_Ways_costOf b_Ways_costOf 3 (some .int)) rm_Ways_costOf (va_Pc [.ref (ad 1), .int a, .int b] (cB D n ad G M)) (rd_Q (some (.int x))) 0 0 (fun _ => False) := by
  refine k_met (by decide) (Nat.le_of_ble_eq_true rfl) ?_
  intro p e s m args below meth c S hr hlk hB ls hl
  obtain ⟨hx, hb, hml, hown, hts⟩ := id S
  obtain ⟨hP, hK, hA0⟩ := hB
  have hA := wl_own hA0
  have hl : lv_has ls 3 [(0, .ref (ad 1)), (1, .int a), (2, .int b)] := hl
  unfold f_Ways_costOf at hf
  refine lv_aload_n hx hb d_Ways_costOf_0 rfl (lv_at hl 0 rfl) ?_
  refine va_get (D := D) (ci := 1) (v := .ref (ad 2)) (C := R_Ways) (T := F_Ways) (N := 4) hx hb hts in_Ways hown hK hP 1 (wl_to (Ways_lt) (Ways_at)) rfl 1 (by decide) (hts _ fl_Ways_17) (fun _ h => h) rfl d_Ways_costOf_1 ?_
  refine lv_iload_n hx hb d_Ways_costOf_4 rfl (lv_at hl 1 rfl) ?_
  obtain ⟨j5, hj5, hf⟩ := ob hf
  refine k_rald hx hb hK hP 2 1 (CO_lt) (CO_at) rfl hj5 rfl d_Ways_costOf_5 ?_
  refine lv_iload_n hx hb d_Ways_costOf_6 rfl (lv_at hl 2 rfl) ?_
  obtain ⟨j7, hj7, hf⟩ := ob hf
  refine k_iald hx hb hK hP (16 + 11 * j5 + 0) 0 (CR_lt (ix_lt hj5)) (CR_at (ix_lt hj5)) rfl hj7 d_Ways_costOf_7 ?_
  cases hf
  exact r_iret hx hb hr hlk d_Ways_costOf_8
def f_Ways_areLinked (n : Nat) (a : Int32) (b : Int32) (M : Mem) : Option (Int32) :=
  (ix a n).bind fun j5 => (ix b n).bind fun j7 => if (M 16 j5 0 j7) = 0 then (some 0) else (some 1)
abbrev rm_Ways_areLinked : Room := { frames := 0, cells := 0, slots := 0, locals := 0 }
set_option maxHeartbeats 4000000 in
set_option maxRecDepth 100000 in
theorem c_Ways_areLinked {l : Launch} {D : va_G} {n : Nat} {ad : Nat → Nat} {G : Nat → ClassId} {a : Int32} {b : Int32}  {M : Mem} {x : Int32} (hf : f_Ways_areLinked n a b M = some x) : Met l y_Ways_areLinked (wc y_Ways_areLinked b_Ways_areLinked 3 (some .boolean)) rm_Ways_areLinked (va_Pc [.ref (ad 1), .int a, .int b] (cB D n ad G M)) (rd_Q (some (.int x))) 0 0 (fun _ => False) := by
  refine k_met (by decide) (Nat.le_of_ble_eq_true rfl) ?_
  intro p e s m args below meth c S hr hlk hB ls hl
  obtain ⟨hx, hb, hml, hown, hts⟩ := id S
  obtain ⟨hP, hK, hA0⟩ := hB
  have hA := wl_own hA0
  have hl : lv_has ls 3 [(0, .ref (ad 1)), (1, .int a), (2, .int b)] := hl
  unfold f_Ways_areLinked at hf
  refine lv_aload_n hx hb d_Ways_areLinked_0 rfl (lv_at hl 0 rfl) ?_
  refine va_get (D := D) (ci := 1) (v := .ref (ad 2)) (C := R_Ways) (T := F_Ways) (N := 4) hx hb hts in_Ways hown hK hP 1 (wl_to (Ways_lt) (Ways_at)) rfl 1 (by decide) (hts _ fl_Ways_17) (fun _ h => h) rfl d_Ways_areLinked_1 ?_
  refine lv_iload_n hx hb d_Ways_areLinked_4 rfl (lv_at hl 1 rfl) ?_
  obtain ⟨j5, hj5, hf⟩ := ob hf
  refine k_rald hx hb hK hP 2 1 (CO_lt) (CO_at) rfl hj5 rfl d_Ways_areLinked_5 ?_
  refine lv_iload_n hx hb d_Ways_areLinked_6 rfl (lv_at hl 2 rfl) ?_
  obtain ⟨j7, hj7, hf⟩ := ob hf
  refine k_iald hx hb hK hP (16 + 11 * j5 + 0) 0 (CR_lt (ix_lt hj5)) (CR_at (ix_lt hj5)) rfl hj7 d_Ways_areLinked_7 ?_
  refine lv_if_eq (tgt := 15) hx hb d_Ways_areLinked_8 (by decide) (fun h8 => ?_) (fun h8 => ?_)
  · rw [if_pos h8] at hf
    refine lv_iconst (v := 0) hx hb d_Ways_areLinked_15 (by decide) ?_
    cases hf
    exact r_zret hx hb hr hlk (by decide) d_Ways_areLinked_16
  · rw [if_neg h8] at hf
    refine lv_iconst (v := 1) hx hb d_Ways_areLinked_11 (by decide) ?_
    refine lv_goto (tgt := 16) hx hb d_Ways_areLinked_12 (by decide) ?_
    cases hf
    exact r_zret hx hb hr hlk (by decide) d_Ways_areLinked_16
def f_Ways_ownerOf (n : Nat) (a : Int32) (M : Mem) : Option (Int32) :=
  (ix a 4).bind fun j5 => some (M 3 0 0 j5)
abbrev rm_Ways_ownerOf : Room := { frames := 0, cells := 0, slots := 0, locals := 0 }
set_option maxHeartbeats 4000000 in
set_option maxRecDepth 100000 in
theorem c_Ways_ownerOf {l : Launch} {D : va_G} {n : Nat} {ad : Nat → Nat} {G : Nat → ClassId} {a : Int32}  {M : Mem} {x : Int32} (hf : f_Ways_ownerOf n a M = some x) : Met l y_Ways_ownerOf (wc y_Ways_ownerOf b_Ways_ownerOf 2 (some .int)) rm_Ways_ownerOf (va_Pc [.ref (ad 1), .int a] (cB D n ad G M)) (rd_Q (some (.int x))) 0 0 (fun _ => False) := by
  refine k_met (by decide) (Nat.le_of_ble_eq_true rfl) ?_
  intro p e s m args below meth c S hr hlk hB ls hl
  obtain ⟨hx, hb, hml, hown, hts⟩ := id S
  obtain ⟨hP, hK, hA0⟩ := hB
  have hA := wl_own hA0
  have hl : lv_has ls 2 [(0, .ref (ad 1)), (1, .int a)] := hl
  unfold f_Ways_ownerOf at hf
  refine lv_aload_n hx hb d_Ways_ownerOf_0 rfl (lv_at hl 0 rfl) ?_
  refine va_get (D := D) (ci := 1) (v := .ref (ad 3)) (C := R_Ways) (T := F_Ways) (N := 4) hx hb hts in_Ways hown hK hP 1 (wl_to (Ways_lt) (Ways_at)) rfl 2 (by decide) (hts _ fl_Ways_20) (fun _ h => h) rfl d_Ways_ownerOf_1 ?_
  refine lv_iload_n hx hb d_Ways_ownerOf_4 rfl (lv_at hl 1 rfl) ?_
  obtain ⟨j5, hj5, hf⟩ := ob hf
  refine k_iald hx hb hK hP 3 0 (OW_lt) (OW_at) rfl hj5 d_Ways_ownerOf_5 ?_
  cases hf
  exact r_iret hx hb hr hlk d_Ways_ownerOf_6
def f_Ways_owns (n : Nat) (a : Int32) (b : Int32) (M : Mem) : Option (Int32) :=
  (ix b 4).bind fun j5 => if (M 3 0 0 j5) = a then (some 1) else (some 0)
abbrev rm_Ways_owns : Room := { frames := 0, cells := 0, slots := 0, locals := 0 }
set_option maxHeartbeats 4000000 in
set_option maxRecDepth 100000 in
theorem c_Ways_owns {l : Launch} {D : va_G} {n : Nat} {ad : Nat → Nat} {G : Nat → ClassId} {a : Int32} {b : Int32}  {M : Mem} {x : Int32} (hf : f_Ways_owns n a b M = some x) : Met l y_Ways_owns (wc y_Ways_owns b_Ways_owns 3 (some .boolean)) rm_Ways_owns (va_Pc [.ref (ad 1), .int a, .int b] (cB D n ad G M)) (rd_Q (some (.int x))) 0 0 (fun _ => False) := by
  refine k_met (by decide) (Nat.le_of_ble_eq_true rfl) ?_
  intro p e s m args below meth c S hr hlk hB ls hl
  obtain ⟨hx, hb, hml, hown, hts⟩ := id S
  obtain ⟨hP, hK, hA0⟩ := hB
  have hA := wl_own hA0
  have hl : lv_has ls 3 [(0, .ref (ad 1)), (1, .int a), (2, .int b)] := hl
  unfold f_Ways_owns at hf
  refine lv_aload_n hx hb d_Ways_owns_0 rfl (lv_at hl 0 rfl) ?_
  refine va_get (D := D) (ci := 1) (v := .ref (ad 3)) (C := R_Ways) (T := F_Ways) (N := 4) hx hb hts in_Ways hown hK hP 1 (wl_to (Ways_lt) (Ways_at)) rfl 2 (by decide) (hts _ fl_Ways_20) (fun _ h => h) rfl d_Ways_owns_1 ?_
  refine lv_iload_n hx hb d_Ways_owns_4 rfl (lv_at hl 2 rfl) ?_
  obtain ⟨j5, hj5, hf⟩ := ob hf
  refine k_iald hx hb hK hP 3 0 (OW_lt) (OW_at) rfl hj5 d_Ways_owns_5 ?_
  refine lv_iload_n hx hb d_Ways_owns_6 rfl (lv_at hl 1 rfl) ?_
  refine lv_icmp_ne (tgt := 14) hx hb d_Ways_owns_7 (by decide) (fun h7 => ?_) (fun h7 => ?_)
  · rw [if_neg h7] at hf
    refine lv_iconst (v := 0) hx hb d_Ways_owns_14 (by decide) ?_
    cases hf
    exact r_zret hx hb hr hlk (by decide) d_Ways_owns_15
  · rw [if_pos h7] at hf
    refine lv_iconst (v := 1) hx hb d_Ways_owns_10 (by decide) ?_
    refine lv_goto (tgt := 15) hx hb d_Ways_owns_11 (by decide) ?_
    cases hf
    exact r_zret hx hb hr hlk (by decide) d_Ways_owns_15
def f_Ways_distanceOf (n : Nat) (a : Int32) (b : Int32) (M : Mem) : Option (Int32) :=
  (ix b 4).bind fun j5 => (ix a n).bind fun j7 => if (M 12 j5 0 j7) = 1000 then (some (-1)) else (some (M 12 j5 0 j7))
abbrev rm_Ways_distanceOf : Room := { frames := 0, cells := 0, slots := 0, locals := 0 }
set_option maxHeartbeats 4000000 in
set_option maxRecDepth 100000 in
theorem c_Ways_distanceOf {l : Launch} {D : va_G} {n : Nat} {ad : Nat → Nat} {G : Nat → ClassId} {a : Int32} {b : Int32}  {M : Mem} {x : Int32} (hf : f_Ways_distanceOf n a b M = some x) : Met l y_Ways_distanceOf (wc y_Ways_distanceOf b_Ways_distanceOf 4 (some .int)) rm_Ways_distanceOf (va_Pc [.ref (ad 1), .int a, .int b] (cB D n ad G M)) (rd_Q (some (.int x))) 0 0 (fun _ => False) := by
  refine k_met (by decide) (Nat.le_of_ble_eq_true rfl) ?_
  intro p e s m args below meth c S hr hlk hB ls hl
  obtain ⟨hx, hb, hml, hown, hts⟩ := id S
  obtain ⟨hP, hK, hA0⟩ := hB
  have hA := wl_own hA0
  have hl : lv_has ls 4 [(0, .ref (ad 1)), (1, .int a), (2, .int b)] := hl
  unfold f_Ways_distanceOf at hf
  refine lv_aload_n hx hb d_Ways_distanceOf_0 rfl (lv_at hl 0 rfl) ?_
  refine va_get (D := D) (ci := 1) (v := .ref (ad 4)) (C := R_Ways) (T := F_Ways) (N := 4) hx hb hts in_Ways hown hK hP 1 (wl_to (Ways_lt) (Ways_at)) rfl 3 (by decide) (hts _ fl_Ways_30) (fun _ h => h) rfl d_Ways_distanceOf_1 ?_
  refine lv_iload_n hx hb d_Ways_distanceOf_4 rfl (lv_at hl 2 rfl) ?_
  obtain ⟨j5, hj5, hf⟩ := ob hf
  refine k_rald hx hb hK hP 4 1 (DO_lt) (DO_at) rfl hj5 rfl d_Ways_distanceOf_5 ?_
  refine lv_iload_n hx hb d_Ways_distanceOf_6 rfl (lv_at hl 1 rfl) ?_
  obtain ⟨j7, hj7, hf⟩ := ob hf
  refine k_iald hx hb hK hP (12 + j5) 0 (DR_lt (ix_lt hj5)) (DR_at (ix_lt hj5)) rfl hj7 d_Ways_distanceOf_7 ?_
  refine lv_istore_n (lv' := [(3, .int (M 12 j5 0 j7)), (0, .ref (ad 1)), (1, .int a), (2, .int b)]) hx hb d_Ways_distanceOf_8 rfl hl (by decide) rfl (fun ls hl => ?_)
  refine lv_iload_n hx hb d_Ways_distanceOf_9 rfl (lv_at hl 0 rfl) ?_
  refine lv_sipush (v := 1000) hx hb d_Ways_distanceOf_10 (by decide) ?_
  refine lv_icmp_ne (tgt := 20) hx hb d_Ways_distanceOf_13 (by decide) (fun h13 => ?_) (fun h13 => ?_)
  · rw [if_neg h13] at hf
    refine lv_iload_n hx hb d_Ways_distanceOf_20 rfl (lv_at hl 0 rfl) ?_
    cases hf
    exact r_iret hx hb hr hlk d_Ways_distanceOf_21
  · rw [if_pos h13] at hf
    refine lv_iconst (v := (-1)) hx hb d_Ways_distanceOf_16 (by decide) ?_
    refine lv_goto (tgt := 21) hx hb d_Ways_distanceOf_17 (by decide) ?_
    cases hf
    exact r_iret hx hb hr hlk d_Ways_distanceOf_21
def f_Ways_nextOf_10 (n : Nat) (a : Int32) (M : Mem) (j5 : Nat) : Nat → Int32 → Option (Int32)
  | 0, _ => none
  | k10 + 1, v4_10 =>
    if (nI n) ≤ v4_10 then (some (-1)) else ((f_Ways_areLinked n a v4_10 M).bind fun r23 => if r23 = 0 then (f_Ways_nextOf_10 n a M j5 k10 (v4_10 + 1)) else ((ix a n).bind fun j34 => (ix v4_10 n).bind fun j37 => (ix v4_10 n).bind fun j41 => (ix a n).bind fun j45 => if ((M 16 j34 0 j37) + (M 12 j5 0 j41)) = (M 12 j5 0 j45) then (some v4_10) else (f_Ways_nextOf_10 n a M j5 k10 (v4_10 + 1))))
def f_Ways_nextOf (n : Nat) (a : Int32) (b : Int32) (M : Mem) : Option (Int32) :=
  (ix b 4).bind fun j5 => f_Ways_nextOf_10 n a M j5 1000 0
abbrev rm_Ways_nextOf : Room := { frames := 1, cells := 0, slots := 0, locals := 22 }
set_option maxHeartbeats 4000000 in
set_option maxRecDepth 100000 in
theorem c_Ways_nextOf {l : Launch} {D : va_G} {n : Nat} {ad : Nat → Nat} {G : Nat → ClassId} {a : Int32} {b : Int32}  {M : Mem} {x : Int32} (hf : f_Ways_nextOf n a b M = some x) : Met l y_Ways_nextOf (wc y_Ways_nextOf b_Ways_nextOf 5 (some .int)) rm_Ways_nextOf (va_Pc [.ref (ad 1), .int a, .int b] (cB D n ad G M)) (rd_Q (some (.int x))) 0 0 (fun _ => False) := by
  refine k_met (by decide) (Nat.le_of_ble_eq_true rfl) ?_
  intro p e s m args below meth c S hr hlk hB ls hl
  obtain ⟨hx, hb, hml, hown, hts⟩ := id S
  obtain ⟨hP, hK, hA0⟩ := hB
  have hA := wl_own hA0
  have hl : lv_has ls 5 [(0, .ref (ad 1)), (1, .int a), (2, .int b)] := hl
  unfold f_Ways_nextOf at hf
  refine lv_aload_n hx hb d_Ways_nextOf_0 rfl (lv_at hl 0 rfl) ?_
  refine va_get (D := D) (ci := 1) (v := .ref (ad 4)) (C := R_Ways) (T := F_Ways) (N := 4) hx hb hts in_Ways hown hK hP 1 (wl_to (Ways_lt) (Ways_at)) rfl 3 (by decide) (hts _ fl_Ways_30) (fun _ h => h) rfl d_Ways_nextOf_1 ?_
  refine lv_iload_n hx hb d_Ways_nextOf_4 rfl (lv_at hl 2 rfl) ?_
  obtain ⟨j5, hj5, hf⟩ := ob hf
  refine k_rald hx hb hK hP 4 1 (DO_lt) (DO_at) rfl hj5 rfl d_Ways_nextOf_5 ?_
  refine lv_astore_n (lv' := [(3, .ref (ad (12 + j5))), (0, .ref (ad 1)), (1, .int a), (2, .int b)]) hx hb d_Ways_nextOf_6 rfl hl (by decide) rfl (fun ls hl => ?_)
  refine lv_iconst (v := 0) hx hb d_Ways_nextOf_7 (by decide) ?_
  refine lv_istore (lv' := [(4, .int 0), (3, .ref (ad (12 + j5))), (0, .ref (ad 1)), (1, .int a), (2, .int b)]) hx hb d_Ways_nextOf_8 hl (by decide) rfl (fun ls hl => ?_)
  have L10 : ∀ (k10 : Nat) (v4_10 : Int32) (ls : Array Slot), lv_has ls 5 [(4, .int v4_10), (3, .ref (ad (12 + j5))), (0, .ref (ad 1)), (1, .int a), (2, .int b)] → f_Ways_nextOf_10 n a M j5 k10 v4_10 = some x → W p l e rm_Ways_nextOf s m args below meth c s.heap [] 0 0 (MQ below (rd_Q (some (.int x))) args s 0 0 (fun _ => False)) (F0 m 10 ls []) := by
    intro k10
    induction k10 with
    | zero =>
      intro v4_10 ls hl hf
      simp [f_Ways_nextOf_10] at hf
    | succ k10 ih10 =>
      intro v4_10 ls hl hf
      rw [f_Ways_nextOf_10] at hf
      refine lv_iload hx hb d_Ways_nextOf_10 (lv_at hl 0 rfl) ?_
      refine lv_aload_n hx hb d_Ways_nextOf_12 rfl (lv_at hl 2 rfl) ?_
      refine va_get (D := D) (ci := 1) (v := .int (nI n)) (C := R_Ways) (T := F_Ways) (N := 4) hx hb hts in_Ways hown hK hP 1 (wl_to (Ways_lt) (Ways_at)) rfl 0 (by decide) (hts _ fl_Ways_9) (fun _ h => h) rfl d_Ways_nextOf_13 ?_
      refine lv_icmp_ge (tgt := 58) hx hb d_Ways_nextOf_16 (by decide) (fun h16 => ?_) (fun h16 => ?_)
      · rw [if_pos h16] at hf
        refine lv_iconst (v := (-1)) hx hb d_Ways_nextOf_58 (by decide) ?_
        cases hf
        exact r_iret hx hb hr hlk d_Ways_nextOf_59
      · rw [if_neg h16] at hf
        refine lv_aload_n hx hb d_Ways_nextOf_19 rfl (lv_at hl 2 rfl) ?_
        refine lv_iload_n hx hb d_Ways_nextOf_20 rfl (lv_at hl 3 rfl) ?_
        refine lv_iload hx hb d_Ways_nextOf_21 (lv_at hl 0 rfl) ?_
        obtain ⟨r23, hc23, hf⟩ := ob hf
        refine k_rdi (k_vir S (c_Ways_areLinked (l := l) (D := D) (n := n) (ad := ad) (G := G) hc23) g_Ways_37 hd_Ways_areLinked ⟨rfl, rfl⟩ ⟨Nat.le_of_ble_eq_true rfl, Nat.le_of_ble_eq_true rfl⟩ wl_blind (va_recv hK hP rfl (wl_to (Ways_lt) (Ways_at))) (wl_pre hP hK hA) rfl hl.1 rfl (Nat.le_of_ble_eq_true rfl) d_Ways_nextOf_23 (Nat.zero_le _) (Nat.zero_le _)) ?_
        refine lv_if_eq (tgt := 52) hx hb d_Ways_nextOf_26 (by decide) (fun h26 => ?_) (fun h26 => ?_)
        · rw [if_pos h26] at hf
          refine lv_iinc (v := (v4_10 + 1)) (lv' := [(4, .int (v4_10 + 1)), (3, .ref (ad (12 + j5))), (0, .ref (ad 1)), (1, .int a), (2, .int b)]) hx hb d_Ways_nextOf_52 hl (k := 0) rfl rfl (by decide) rfl (fun ls hl => ?_)
          refine lv_goto (tgt := 10) hx hb d_Ways_nextOf_55 (by decide) ?_
          exact ih10 _ _ (lv_sub hl [0, 1, 2, 3, 4] rfl) hf
        · rw [if_neg h26] at hf
          refine lv_aload_n hx hb d_Ways_nextOf_29 rfl (lv_at hl 2 rfl) ?_
          refine va_get (D := D) (ci := 1) (v := .ref (ad 2)) (C := R_Ways) (T := F_Ways) (N := 4) hx hb hts in_Ways hown hK hP 1 (wl_to (Ways_lt) (Ways_at)) rfl 1 (by decide) (hts _ fl_Ways_17) (fun _ h => h) rfl d_Ways_nextOf_30 ?_
          refine lv_iload_n hx hb d_Ways_nextOf_33 rfl (lv_at hl 3 rfl) ?_
          obtain ⟨j34, hj34, hf⟩ := ob hf
          refine k_rald hx hb hK hP 2 1 (CO_lt) (CO_at) rfl hj34 rfl d_Ways_nextOf_34 ?_
          refine lv_iload hx hb d_Ways_nextOf_35 (lv_at hl 0 rfl) ?_
          obtain ⟨j37, hj37, hf⟩ := ob hf
          refine k_iald hx hb hK hP (16 + 11 * j34 + 0) 0 (CR_lt (ix_lt hj34)) (CR_at (ix_lt hj34)) rfl hj37 d_Ways_nextOf_37 ?_
          refine lv_aload_n hx hb d_Ways_nextOf_38 rfl (lv_at hl 1 rfl) ?_
          refine lv_iload hx hb d_Ways_nextOf_39 (lv_at hl 0 rfl) ?_
          obtain ⟨j41, hj41, hf⟩ := ob hf
          refine k_iald hx hb hK hP (12 + j5) 0 (DR_lt (ix_lt hj5)) (DR_at (ix_lt hj5)) rfl hj41 d_Ways_nextOf_41 ?_
          refine lv_iadd hx hb d_Ways_nextOf_42 ?_
          refine lv_aload_n hx hb d_Ways_nextOf_43 rfl (lv_at hl 1 rfl) ?_
          refine lv_iload_n hx hb d_Ways_nextOf_44 rfl (lv_at hl 3 rfl) ?_
          obtain ⟨j45, hj45, hf⟩ := ob hf
          refine k_iald hx hb hK hP (12 + j5) 0 (DR_lt (ix_lt hj5)) (DR_at (ix_lt hj5)) rfl hj45 d_Ways_nextOf_45 ?_
          refine lv_icmp_ne (tgt := 52) hx hb d_Ways_nextOf_46 (by decide) (fun h46 => ?_) (fun h46 => ?_)
          · rw [if_neg h46] at hf
            refine lv_iinc (v := (v4_10 + 1)) (lv' := [(4, .int (v4_10 + 1)), (3, .ref (ad (12 + j5))), (0, .ref (ad 1)), (1, .int a), (2, .int b)]) hx hb d_Ways_nextOf_52 hl (k := 0) rfl rfl (by decide) rfl (fun ls hl => ?_)
            refine lv_goto (tgt := 10) hx hb d_Ways_nextOf_55 (by decide) ?_
            exact ih10 _ _ (lv_sub hl [0, 1, 2, 3, 4] rfl) hf
          · rw [if_pos h46] at hf
            refine lv_iload hx hb d_Ways_nextOf_49 (lv_at hl 0 rfl) ?_
            cases hf
            exact r_iret hx hb hr hlk d_Ways_nextOf_51
  exact L10 _ _ _ (lv_sub hl [0, 1, 2, 3, 4] rfl) hf
def f_Arr_fillD_5 (n : Nat) (q : Nat) (b : Int32) : Nat → Int32 → Mem → Option (Mem)
  | 0, _, _ => none
  | k5 + 1, v2_5, N5 =>
    if (nI n) ≤ v2_5 then (some N5) else ((ix v2_5 n).bind fun j13 => f_Arr_fillD_5 n q b k5 (v2_5 + 1) (mset N5 12 q 0 j13 b))
def f_Arr_fillD (n : Nat) (q : Nat) (b : Int32) (M : Mem) : Option (Mem) :=
  f_Arr_fillD_5 n q b 1000 0 M
abbrev rm_Arr_fillD : Room := { frames := 0, cells := 0, slots := 0, locals := 0 }
set_option maxHeartbeats 4000000 in
set_option maxRecDepth 100000 in
theorem c_Arr_fillD {l : Launch} {D : va_G} {n : Nat} {ad : Nat → Nat} {G : Nat → ClassId} {q : Nat} {b : Int32} (hp_q : q < 4) {M : Mem} {x : Mem} (hf : f_Arr_fillD n q b M = some x) : Met l y_Arr_fill (wc y_Arr_fill b_Arr_fill 4 (none)) rm_Arr_fillD (va_Pc [.ref (ad (12 + q)), .int b] (cB D n ad G M)) (wr_Q (none) D cls (cK n) ad (cE n ad G x)) 0 0 (wl_A (cK n) ad) := by
  refine k_met (by decide) (Nat.le_of_ble_eq_true rfl) ?_
  intro p e s m args below meth c S hr hlk hB ls hl
  obtain ⟨hx, hb, hml, hown, hts⟩ := id S
  obtain ⟨hP, hK, hA0⟩ := hB
  have hA := wl_own hA0
  have hl : lv_has ls 4 [(0, .ref (ad (12 + q))), (1, .int b)] := hl
  have hS : va_S (wl_A (cK n) ad) s.heap s.heap [] := va_S.rf
  unfold f_Arr_fillD at hf
  refine lv_iconst (v := 0) hx hb d_Arr_fill_0 (by decide) ?_
  refine lv_istore_n (lv' := [(2, .int 0), (0, .ref (ad (12 + q))), (1, .int b)]) hx hb d_Arr_fill_1 rfl hl (by decide) rfl (fun ls hl => ?_)
  refine lv_aload_n hx hb d_Arr_fill_2 rfl (lv_at hl 1 rfl) ?_
  refine va_alen (v := (nI n)) hx hb hK hP (12 + q) 0 (wl_to (DR_lt hp_q) (DR_at hp_q)) rfl rfl d_Arr_fill_3 ?_
  refine lv_istore_n (lv' := [(3, .int (nI n)), (2, .int 0), (0, .ref (ad (12 + q))), (1, .int b)]) hx hb d_Arr_fill_4 rfl hl (by decide) rfl (fun ls hl => ?_)
  have L5 : ∀ (k5 : Nat) (v2_5 : Int32) (N5 : Mem) (H : Heap) (locs : List Loc) (ls : Array Slot), lv_has ls 4 [(3, .int (nI n)), (2, .int v2_5), (0, .ref (ad (12 + q))), (1, .int b)] → va_P D cls (cW n ad G N5) H → va_S (wl_A (cK n) ad) s.heap H locs → f_Arr_fillD_5 n q b k5 v2_5 N5 = some x → W p l e rm_Arr_fillD s m args below meth c H locs 0 0 (MQ below (wr_Q (none) D cls (cK n) ad (cE n ad G x)) args s 0 0 (wl_A (cK n) ad)) (F0 m 5 ls []) := by
    intro k5
    induction k5 with
    | zero =>
      intro v2_5 N5 H locs ls hl hP hS hf
      simp [f_Arr_fillD_5] at hf
    | succ k5 ih5 =>
      intro v2_5 N5 H locs ls hl hP hS hf
      rw [f_Arr_fillD_5] at hf
      refine lv_iload_n hx hb d_Arr_fill_5 rfl (lv_at hl 1 rfl) ?_
      refine lv_iload_n hx hb d_Arr_fill_6 rfl (lv_at hl 0 rfl) ?_
      refine lv_icmp_ge (tgt := 20) hx hb d_Arr_fill_7 (by decide) (fun h7 => ?_) (fun h7 => ?_)
      · rw [if_pos h7] at hf
        cases hf
        exact w_vret hx hb hr hlk hP hS d_Arr_fill_20
      · rw [if_neg h7] at hf
        refine lv_aload_n hx hb d_Arr_fill_10 rfl (lv_at hl 2 rfl) ?_
        refine lv_iload_n hx hb d_Arr_fill_11 rfl (lv_at hl 1 rfl) ?_
        refine lv_iload_n hx hb d_Arr_fill_12 rfl (lv_at hl 3 rfl) ?_
        obtain ⟨j13, hj13, hf⟩ := ob hf
        refine m_iast (x := b) hx hb hK hP hA hS cJ (12 + q) 0 (DR_lt hp_q) (DR_tg hp_q) (fun f => DR_row f hp_q) rfl hj13 d_Arr_fill_13 (fun H locs hP hS => ?_)
        refine lv_iinc (v := (v2_5 + 1)) (lv' := [(2, .int (v2_5 + 1)), (3, .int (nI n)), (0, .ref (ad (12 + q))), (1, .int b)]) hx hb d_Arr_fill_14 hl (k := 1) rfl rfl (by decide) rfl (fun ls hl => ?_)
        refine lv_goto (tgt := 5) hx hb d_Arr_fill_17 (by decide) ?_
        exact ih5 _ _ _ _ _ (lv_sub hl [1, 0, 2, 3] rfl) hP hS hf
  exact L5 _ _ _ _ _ _ (lv_sub hl [0, 1, 2, 3] rfl) hP hS hf
def f_Arr_fillT_5 (n : Nat) (r : Nat) (q : Nat) (b : Int32) : Nat → Int32 → Mem → Option (Mem)
  | 0, _, _ => none
  | k5 + 1, v2_5, N5 =>
    if (nI 4) ≤ v2_5 then (some N5) else ((ix v2_5 4).bind fun j13 => f_Arr_fillT_5 n r q b k5 (v2_5 + 1) (mset N5 21 r q j13 b))
def f_Arr_fillT (n : Nat) (r : Nat) (q : Nat) (b : Int32) (M : Mem) : Option (Mem) :=
  f_Arr_fillT_5 n r q b 1000 0 M
abbrev rm_Arr_fillT : Room := { frames := 0, cells := 0, slots := 0, locals := 0 }
set_option maxHeartbeats 4000000 in
set_option maxRecDepth 100000 in
theorem c_Arr_fillT {l : Launch} {D : va_G} {n : Nat} {ad : Nat → Nat} {G : Nat → ClassId} {r : Nat} {q : Nat} {b : Int32} (hp_r : r < n) (hp_q : q < 6) {M : Mem} {x : Mem} (hf : f_Arr_fillT n r q b M = some x) : Met l y_Arr_fill (wc y_Arr_fill b_Arr_fill 4 (none)) rm_Arr_fillT (va_Pc [.ref (ad (16 + 11 * r + (q + 5))), .int b] (cB D n ad G M)) (wr_Q (none) D cls (cK n) ad (cE n ad G x)) 0 0 (wl_A (cK n) ad) := by
  refine k_met (by decide) (Nat.le_of_ble_eq_true rfl) ?_
  intro p e s m args below meth c S hr hlk hB ls hl
  obtain ⟨hx, hb, hml, hown, hts⟩ := id S
  obtain ⟨hP, hK, hA0⟩ := hB
  have hA := wl_own hA0
  have hl : lv_has ls 4 [(0, .ref (ad (16 + 11 * r + (q + 5)))), (1, .int b)] := hl
  have hS : va_S (wl_A (cK n) ad) s.heap s.heap [] := va_S.rf
  unfold f_Arr_fillT at hf
  refine lv_iconst (v := 0) hx hb d_Arr_fill_0 (by decide) ?_
  refine lv_istore_n (lv' := [(2, .int 0), (0, .ref (ad (16 + 11 * r + (q + 5)))), (1, .int b)]) hx hb d_Arr_fill_1 rfl hl (by decide) rfl (fun ls hl => ?_)
  refine lv_aload_n hx hb d_Arr_fill_2 rfl (lv_at hl 1 rfl) ?_
  refine va_alen (v := (nI 4)) hx hb hK hP (16 + 11 * r + (q + 5)) 0 (wl_to (TD_lt hp_r hp_q) (TD_at hp_r hp_q)) rfl rfl d_Arr_fill_3 ?_
  refine lv_istore_n (lv' := [(3, .int (nI 4)), (2, .int 0), (0, .ref (ad (16 + 11 * r + (q + 5)))), (1, .int b)]) hx hb d_Arr_fill_4 rfl hl (by decide) rfl (fun ls hl => ?_)
  have L5 : ∀ (k5 : Nat) (v2_5 : Int32) (N5 : Mem) (H : Heap) (locs : List Loc) (ls : Array Slot), lv_has ls 4 [(3, .int (nI 4)), (2, .int v2_5), (0, .ref (ad (16 + 11 * r + (q + 5)))), (1, .int b)] → va_P D cls (cW n ad G N5) H → va_S (wl_A (cK n) ad) s.heap H locs → f_Arr_fillT_5 n r q b k5 v2_5 N5 = some x → W p l e rm_Arr_fillT s m args below meth c H locs 0 0 (MQ below (wr_Q (none) D cls (cK n) ad (cE n ad G x)) args s 0 0 (wl_A (cK n) ad)) (F0 m 5 ls []) := by
    intro k5
    induction k5 with
    | zero =>
      intro v2_5 N5 H locs ls hl hP hS hf
      simp [f_Arr_fillT_5] at hf
    | succ k5 ih5 =>
      intro v2_5 N5 H locs ls hl hP hS hf
      rw [f_Arr_fillT_5] at hf
      refine lv_iload_n hx hb d_Arr_fill_5 rfl (lv_at hl 1 rfl) ?_
      refine lv_iload_n hx hb d_Arr_fill_6 rfl (lv_at hl 0 rfl) ?_
      refine lv_icmp_ge (tgt := 20) hx hb d_Arr_fill_7 (by decide) (fun h7 => ?_) (fun h7 => ?_)
      · rw [if_pos h7] at hf
        cases hf
        exact w_vret hx hb hr hlk hP hS d_Arr_fill_20
      · rw [if_neg h7] at hf
        refine lv_aload_n hx hb d_Arr_fill_10 rfl (lv_at hl 2 rfl) ?_
        refine lv_iload_n hx hb d_Arr_fill_11 rfl (lv_at hl 1 rfl) ?_
        refine lv_iload_n hx hb d_Arr_fill_12 rfl (lv_at hl 3 rfl) ?_
        obtain ⟨j13, hj13, hf⟩ := ob hf
        refine m_iast (x := b) hx hb hK hP hA hS cJ (16 + 11 * r + (q + 5)) 0 (TD_lt hp_r hp_q) (TD_tg hp_r hp_q) (fun f => TD_row f hp_r hp_q) rfl hj13 d_Arr_fill_13 (fun H locs hP hS => ?_)
        refine lv_iinc (v := (v2_5 + 1)) (lv' := [(2, .int (v2_5 + 1)), (3, .int (nI 4)), (0, .ref (ad (16 + 11 * r + (q + 5)))), (1, .int b)]) hx hb d_Arr_fill_14 hl (k := 1) rfl rfl (by decide) rfl (fun ls hl => ?_)
        refine lv_goto (tgt := 5) hx hb d_Arr_fill_17 (by decide) ?_
        exact ih5 _ _ _ _ _ (lv_sub hl [1, 0, 2, 3] rfl) hP hS hf
  exact L5 _ _ _ _ _ _ (lv_sub hl [0, 1, 2, 3] rfl) hP hS hf
def f_Ways_lengthenWays_12 (n : Nat) (q : Nat) (v2_2 : Int32) (kk2 : Int32 → Mem → Option (Mem)) : Nat → Int32 → Mem → Option (Mem)
  | 0, _, _ => none
  | k12 + 1, v3_12, N12 =>
    if (nI n) ≤ v3_12 then (kk2 (v2_2 + 1) N12) else ((f_Ways_areLinked n v2_2 v3_12 N12).bind fun r23 => if r23 = 0 then (f_Ways_lengthenWays_12 n q v2_2 kk2 k12 (v3_12 + 1) N12) else ((ix v2_2 n).bind fun j33 => (ix v3_12 n).bind fun j36 => (ix v2_2 n).bind fun j42 => (ix v3_12 n).bind fun j44 => (ix v2_2 n).bind fun j49 => f_Ways_lengthenWays_12 n q v2_2 kk2 k12 (v3_12 + 1) (mset N12 12 q 0 j49 (if ((N12 12 q 0 j36) + (N12 16 j42 0 j44)) < (N12 12 q 0 j33) then ((N12 12 q 0 j36) + (N12 16 j42 0 j44)) else (N12 12 q 0 j33)))))
def f_Ways_lengthenWays_2 (n : Nat) (q : Nat) : Nat → Int32 → Mem → Option (Mem)
  | 0, _, _ => none
  | k2 + 1, v2_2, N2 =>
    if (nI n) ≤ v2_2 then (some N2) else (f_Ways_lengthenWays_12 n q v2_2 (fun u0 u1 => f_Ways_lengthenWays_2 n q k2 u0 u1) 1000 0 N2)
def f_Ways_lengthenWays (n : Nat) (q : Nat) (M : Mem) : Option (Mem) :=
  f_Ways_lengthenWays_2 n q 1000 0 M
abbrev rm_Ways_lengthenWays : Room := { frames := 1, cells := 0, slots := 0, locals := 22 }
set_option maxHeartbeats 4000000 in
set_option maxRecDepth 100000 in
theorem c_Ways_lengthenWays {l : Launch} {D : va_G} {n : Nat} {ad : Nat → Nat} {G : Nat → ClassId} {q : Nat} (hp_q : q < 4) {M : Mem} {x : Mem} (hf : f_Ways_lengthenWays n q M = some x) : Met l y_Ways_lengthenWays (wc y_Ways_lengthenWays b_Ways_lengthenWays 4 (none)) rm_Ways_lengthenWays (va_Pc [.ref (ad 1), .ref (ad (12 + q))] (cB D n ad G M)) (wr_Q (none) D cls (cK n) ad (cE n ad G x)) 0 0 (wl_A (cK n) ad) := by
  refine k_met (by decide) (Nat.le_of_ble_eq_true rfl) ?_
  intro p e s m args below meth c S hr hlk hB ls hl
  obtain ⟨hx, hb, hml, hown, hts⟩ := id S
  obtain ⟨hP, hK, hA0⟩ := hB
  have hA := wl_own hA0
  have hl : lv_has ls 4 [(0, .ref (ad 1)), (1, .ref (ad (12 + q)))] := hl
  have hS : va_S (wl_A (cK n) ad) s.heap s.heap [] := va_S.rf
  unfold f_Ways_lengthenWays at hf
  refine lv_iconst (v := 0) hx hb d_Ways_lengthenWays_0 (by decide) ?_
  refine lv_istore_n (lv' := [(2, .int 0), (0, .ref (ad 1)), (1, .ref (ad (12 + q)))]) hx hb d_Ways_lengthenWays_1 rfl hl (by decide) rfl (fun ls hl => ?_)
  have L2 : ∀ (k2 : Nat) (v2_2 : Int32) (N2 : Mem) (H : Heap) (locs : List Loc) (ls : Array Slot), lv_has ls 4 [(2, .int v2_2), (0, .ref (ad 1)), (1, .ref (ad (12 + q)))] → va_P D cls (cW n ad G N2) H → va_S (wl_A (cK n) ad) s.heap H locs → f_Ways_lengthenWays_2 n q k2 v2_2 N2 = some x → W p l e rm_Ways_lengthenWays s m args below meth c H locs 0 0 (MQ below (wr_Q (none) D cls (cK n) ad (cE n ad G x)) args s 0 0 (wl_A (cK n) ad)) (F0 m 2 ls []) := by
    intro k2
    induction k2 with
    | zero =>
      intro v2_2 N2 H locs ls hl hP hS hf
      simp [f_Ways_lengthenWays_2] at hf
    | succ k2 ih2 =>
      intro v2_2 N2 H locs ls hl hP hS hf
      rw [f_Ways_lengthenWays_2] at hf
      refine lv_iload_n hx hb d_Ways_lengthenWays_2 rfl (lv_at hl 0 rfl) ?_
      refine lv_aload_n hx hb d_Ways_lengthenWays_3 rfl (lv_at hl 1 rfl) ?_
      refine va_get (D := D) (ci := 1) (v := .int (nI n)) (C := R_Ways) (T := F_Ways) (N := 4) hx hb hts in_Ways hown hK hP 1 (wl_to (Ways_lt) (Ways_at)) rfl 0 (by decide) (hts _ fl_Ways_9) (fun _ h => h) rfl d_Ways_lengthenWays_4 ?_
      refine lv_icmp_ge (tgt := 62) hx hb d_Ways_lengthenWays_7 (by decide) (fun h7 => ?_) (fun h7 => ?_)
      · rw [if_pos h7] at hf
        cases hf
        exact w_vret hx hb hr hlk hP hS d_Ways_lengthenWays_62
      · rw [if_neg h7] at hf
        refine lv_iconst (v := 0) hx hb d_Ways_lengthenWays_10 (by decide) ?_
        refine lv_istore_n (lv' := [(3, .int 0), (2, .int v2_2), (0, .ref (ad 1)), (1, .ref (ad (12 + q)))]) hx hb d_Ways_lengthenWays_11 rfl hl (by decide) rfl (fun ls hl => ?_)
        have L12 : ∀ (k12 : Nat) (v3_12 : Int32) (N12 : Mem) (H : Heap) (locs : List Loc) (ls : Array Slot), lv_has ls 4 [(3, .int v3_12), (2, .int v2_2), (0, .ref (ad 1)), (1, .ref (ad (12 + q)))] → va_P D cls (cW n ad G N12) H → va_S (wl_A (cK n) ad) s.heap H locs → f_Ways_lengthenWays_12 n q v2_2 (fun u0 u1 => f_Ways_lengthenWays_2 n q k2 u0 u1) k12 v3_12 N12 = some x → W p l e rm_Ways_lengthenWays s m args below meth c H locs 0 0 (MQ below (wr_Q (none) D cls (cK n) ad (cE n ad G x)) args s 0 0 (wl_A (cK n) ad)) (F0 m 12 ls []) := by
          intro k12
          induction k12 with
          | zero =>
            intro v3_12 N12 H locs ls hl hP hS hf
            simp [f_Ways_lengthenWays_12] at hf
          | succ k12 ih12 =>
            intro v3_12 N12 H locs ls hl hP hS hf
            rw [f_Ways_lengthenWays_12] at hf
            refine lv_iload_n hx hb d_Ways_lengthenWays_12 rfl (lv_at hl 0 rfl) ?_
            refine lv_aload_n hx hb d_Ways_lengthenWays_13 rfl (lv_at hl 2 rfl) ?_
            refine va_get (D := D) (ci := 1) (v := .int (nI n)) (C := R_Ways) (T := F_Ways) (N := 4) hx hb hts in_Ways hown hK hP 1 (wl_to (Ways_lt) (Ways_at)) rfl 0 (by decide) (hts _ fl_Ways_9) (fun _ h => h) rfl d_Ways_lengthenWays_14 ?_
            refine lv_icmp_ge (tgt := 56) hx hb d_Ways_lengthenWays_17 (by decide) (fun h17 => ?_) (fun h17 => ?_)
            · rw [if_pos h17] at hf
              refine lv_iinc (v := (v2_2 + 1)) (lv' := [(2, .int (v2_2 + 1)), (3, .int v3_12), (0, .ref (ad 1)), (1, .ref (ad (12 + q)))]) hx hb d_Ways_lengthenWays_56 hl (k := 1) rfl rfl (by decide) rfl (fun ls hl => ?_)
              refine lv_goto (tgt := 2) hx hb d_Ways_lengthenWays_59 (by decide) ?_
              exact ih2 _ _ _ _ _ (lv_sub hl [0, 2, 3] rfl) hP hS hf
            · rw [if_neg h17] at hf
              refine lv_aload_n hx hb d_Ways_lengthenWays_20 rfl (lv_at hl 2 rfl) ?_
              refine lv_iload_n hx hb d_Ways_lengthenWays_21 rfl (lv_at hl 1 rfl) ?_
              refine lv_iload_n hx hb d_Ways_lengthenWays_22 rfl (lv_at hl 0 rfl) ?_
              obtain ⟨r23, hc23, hf⟩ := ob hf
              refine k_rdi (k_vir S (c_Ways_areLinked (l := l) (D := D) (n := n) (ad := ad) (G := G) hc23) g_Ways_37 hd_Ways_areLinked ⟨rfl, rfl⟩ ⟨Nat.le_of_ble_eq_true rfl, Nat.le_of_ble_eq_true rfl⟩ wl_blind (va_recv hK hP rfl (wl_to (Ways_lt) (Ways_at))) (wl_pre hP hK hA) rfl hl.1 rfl (Nat.le_of_ble_eq_true rfl) d_Ways_lengthenWays_23 (Nat.zero_le _) (Nat.zero_le _)) ?_
              refine lv_if_eq (tgt := 50) hx hb d_Ways_lengthenWays_26 (by decide) (fun h26 => ?_) (fun h26 => ?_)
              · rw [if_pos h26] at hf
                refine lv_iinc (v := (v3_12 + 1)) (lv' := [(3, .int (v3_12 + 1)), (2, .int v2_2), (0, .ref (ad 1)), (1, .ref (ad (12 + q)))]) hx hb d_Ways_lengthenWays_50 hl (k := 0) rfl rfl (by decide) rfl (fun ls hl => ?_)
                refine lv_goto (tgt := 12) hx hb d_Ways_lengthenWays_53 (by decide) ?_
                exact ih12 _ _ _ _ _ (lv_sub hl [0, 1, 2, 3] rfl) hP hS hf
              · rw [if_neg h26] at hf
                refine lv_aload_n hx hb d_Ways_lengthenWays_29 rfl (lv_at hl 3 rfl) ?_
                refine lv_iload_n hx hb d_Ways_lengthenWays_30 rfl (lv_at hl 1 rfl) ?_
                refine lv_aload_n hx hb d_Ways_lengthenWays_31 rfl (lv_at hl 3 rfl) ?_
                refine lv_iload_n hx hb d_Ways_lengthenWays_32 rfl (lv_at hl 1 rfl) ?_
                obtain ⟨j33, hj33, hf⟩ := ob hf
                refine k_iald hx hb hK hP (12 + q) 0 (DR_lt hp_q) (DR_at hp_q) rfl hj33 d_Ways_lengthenWays_33 ?_
                refine lv_aload_n hx hb d_Ways_lengthenWays_34 rfl (lv_at hl 3 rfl) ?_
                refine lv_iload_n hx hb d_Ways_lengthenWays_35 rfl (lv_at hl 0 rfl) ?_
                obtain ⟨j36, hj36, hf⟩ := ob hf
                refine k_iald hx hb hK hP (12 + q) 0 (DR_lt hp_q) (DR_at hp_q) rfl hj36 d_Ways_lengthenWays_36 ?_
                refine lv_aload_n hx hb d_Ways_lengthenWays_37 rfl (lv_at hl 2 rfl) ?_
                refine va_get (D := D) (ci := 1) (v := .ref (ad 2)) (C := R_Ways) (T := F_Ways) (N := 4) hx hb hts in_Ways hown hK hP 1 (wl_to (Ways_lt) (Ways_at)) rfl 1 (by decide) (hts _ fl_Ways_17) (fun _ h => h) rfl d_Ways_lengthenWays_38 ?_
                refine lv_iload_n hx hb d_Ways_lengthenWays_41 rfl (lv_at hl 1 rfl) ?_
                obtain ⟨j42, hj42, hf⟩ := ob hf
                refine k_rald hx hb hK hP 2 1 (CO_lt) (CO_at) rfl hj42 rfl d_Ways_lengthenWays_42 ?_
                refine lv_iload_n hx hb d_Ways_lengthenWays_43 rfl (lv_at hl 0 rfl) ?_
                obtain ⟨j44, hj44, hf⟩ := ob hf
                refine k_iald hx hb hK hP (16 + 11 * j42 + 0) 0 (CR_lt (ix_lt hj42)) (CR_at (ix_lt hj42)) rfl hj44 d_Ways_lengthenWays_44 ?_
                refine lv_iadd hx hb d_Ways_lengthenWays_45 ?_
                refine va_mmin hx hb (hml.trans hl.1.symm) hown (hts _ ml_Ways_45) (hts _ ma_smin) (hts _ ma_ini) (hts _ ma_cmin) (by decide) (Nat.le_of_ble_eq_true rfl) (Nat.zero_le _) (Nat.zero_le _) d_Ways_lengthenWays_46 ?_
                obtain ⟨j49, hj49, hf⟩ := ob hf
                refine m_iast (x := (if ((N12 12 q 0 j36) + (N12 16 j42 0 j44)) < (N12 12 q 0 j33) then ((N12 12 q 0 j36) + (N12 16 j42 0 j44)) else (N12 12 q 0 j33))) hx hb hK hP hA hS cJ (12 + q) 0 (DR_lt hp_q) (DR_tg hp_q) (fun f => DR_row f hp_q) rfl hj49 d_Ways_lengthenWays_49 (fun H locs hP hS => ?_)
                refine lv_iinc (v := (v3_12 + 1)) (lv' := [(3, .int (v3_12 + 1)), (2, .int v2_2), (0, .ref (ad 1)), (1, .ref (ad (12 + q)))]) hx hb d_Ways_lengthenWays_50 hl (k := 0) rfl rfl (by decide) rfl (fun ls hl => ?_)
                refine lv_goto (tgt := 12) hx hb d_Ways_lengthenWays_53 (by decide) ?_
                exact ih12 _ _ _ _ _ (lv_sub hl [0, 1, 2, 3] rfl) hP hS hf
        exact L12 _ _ _ _ _ _ (lv_sub hl [0, 1, 2, 3] rfl) hP hS hf
  exact L2 _ _ _ _ _ _ (lv_sub hl [0, 1, 2] rfl) hP hS hf
def f_Ways_measure_36 (n : Nat) (j5 : Nat) : Nat → Int32 → Mem → Option (Mem)
  | 0, _, _ => none
  | k36 + 1, v3_36, N36 =>
    if (nI n) ≤ v3_36 then (some N36) else ((f_Ways_lengthenWays n j5 N36).bind fun r46 => f_Ways_measure_36 n j5 k36 (v3_36 + 1) r46)
def f_Ways_measure (n : Nat) (a : Int32) (M : Mem) : Option (Mem) :=
  (ix a 4).bind fun j5 => (f_Arr_fillD n j5 1000 M).bind fun r11 => (ix a 4).bind fun j19 => if (r11 3 0 0 j19) = (-1) then (some r11) else ((ix a 4).bind fun j31 => (ix (r11 3 0 0 j31) n).bind fun j33 => f_Ways_measure_36 n j5 1000 1 (mset r11 12 j5 0 j33 0))
abbrev rm_Ways_measure : Room := { frames := 2, cells := 0, slots := 0, locals := 45 }
set_option maxHeartbeats 4000000 in
set_option maxRecDepth 100000 in
theorem c_Ways_measure {l : Launch} {D : va_G} {n : Nat} {ad : Nat → Nat} {G : Nat → ClassId} {a : Int32}  {M : Mem} {x : Mem} (hf : f_Ways_measure n a M = some x) : Met l y_Ways_measure (wc y_Ways_measure b_Ways_measure 4 (none)) rm_Ways_measure (va_Pc [.ref (ad 1), .int a] (cB D n ad G M)) (wr_Q (none) D cls (cK n) ad (cE n ad G x)) 0 0 (wl_A (cK n) ad) := by
  refine k_met (by decide) (Nat.le_of_ble_eq_true rfl) ?_
  intro p e s m args below meth c S hr hlk hB ls hl
  obtain ⟨hx, hb, hml, hown, hts⟩ := id S
  obtain ⟨hP, hK, hA0⟩ := hB
  have hA := wl_own hA0
  have hl : lv_has ls 4 [(0, .ref (ad 1)), (1, .int a)] := hl
  have hS : va_S (wl_A (cK n) ad) s.heap s.heap [] := va_S.rf
  unfold f_Ways_measure at hf
  refine lv_aload_n hx hb d_Ways_measure_0 rfl (lv_at hl 0 rfl) ?_
  refine va_get (D := D) (ci := 1) (v := .ref (ad 4)) (C := R_Ways) (T := F_Ways) (N := 4) hx hb hts in_Ways hown hK hP 1 (wl_to (Ways_lt) (Ways_at)) rfl 3 (by decide) (hts _ fl_Ways_30) (fun _ h => h) rfl d_Ways_measure_1 ?_
  refine lv_iload_n hx hb d_Ways_measure_4 rfl (lv_at hl 1 rfl) ?_
  obtain ⟨j5, hj5, hf⟩ := ob hf
  refine k_rald hx hb hK hP 4 1 (DO_lt) (DO_at) rfl hj5 rfl d_Ways_measure_5 ?_
  refine lv_astore_n (lv' := [(2, .ref (ad (12 + j5))), (0, .ref (ad 1)), (1, .int a)]) hx hb d_Ways_measure_6 rfl hl (by decide) rfl (fun ls hl => ?_)
  refine lv_aload_n hx hb d_Ways_measure_7 rfl (lv_at hl 0 rfl) ?_
  refine lv_sipush (v := 1000) hx hb d_Ways_measure_8 (by decide) ?_
  obtain ⟨r11, hc11, hf⟩ := ob hf
  refine k_wrv (k_sta S (c_Arr_fillD (l := l) (D := D) (n := n) (ad := ad) (G := G) (ix_lt hj5) hc11) g_Ways_24 hd_Arr_fill ⟨rfl, rfl⟩ ⟨Nat.le_of_ble_eq_true rfl, Nat.le_of_ble_eq_true rfl⟩ wl_blind (wl_pre hP hK hA) rfl hl.1 rfl (Nat.le_of_ble_eq_true rfl) d_Ways_measure_11 (Nat.zero_le _) (Nat.zero_le _)) hS (fun _ h => h) (fun H locs hP _ _ hS => ?_)
  refine lv_aload_n hx hb d_Ways_measure_14 rfl (lv_at hl 1 rfl) ?_
  refine va_get (D := D) (ci := 1) (v := .ref (ad 3)) (C := R_Ways) (T := F_Ways) (N := 4) hx hb hts in_Ways hown hK hP 1 (wl_to (Ways_lt) (Ways_at)) rfl 2 (by decide) (hts _ fl_Ways_20) (fun _ h => h) rfl d_Ways_measure_15 ?_
  refine lv_iload_n hx hb d_Ways_measure_18 rfl (lv_at hl 2 rfl) ?_
  obtain ⟨j19, hj19, hf⟩ := ob hf
  refine k_iald hx hb hK hP 3 0 (OW_lt) (OW_at) rfl hj19 d_Ways_measure_19 ?_
  refine lv_iconst (v := (-1)) hx hb d_Ways_measure_20 (by decide) ?_
  refine lv_icmp_ne (tgt := 25) hx hb d_Ways_measure_21 (by decide) (fun h21 => ?_) (fun h21 => ?_)
  · rw [if_neg h21] at hf
    refine lv_aload_n hx hb d_Ways_measure_25 rfl (lv_at hl 0 rfl) ?_
    refine lv_aload_n hx hb d_Ways_measure_26 rfl (lv_at hl 1 rfl) ?_
    refine va_get (D := D) (ci := 1) (v := .ref (ad 3)) (C := R_Ways) (T := F_Ways) (N := 4) hx hb hts in_Ways hown hK hP 1 (wl_to (Ways_lt) (Ways_at)) rfl 2 (by decide) (hts _ fl_Ways_20) (fun _ h => h) rfl d_Ways_measure_27 ?_
    refine lv_iload_n hx hb d_Ways_measure_30 rfl (lv_at hl 2 rfl) ?_
    obtain ⟨j31, hj31, hf⟩ := ob hf
    refine k_iald hx hb hK hP 3 0 (OW_lt) (OW_at) rfl hj31 d_Ways_measure_31 ?_
    refine lv_iconst (v := 0) hx hb d_Ways_measure_32 (by decide) ?_
    obtain ⟨j33, hj33, hf⟩ := ob hf
    refine m_iast (x := 0) hx hb hK hP hA hS cJ (12 + j5) 0 (DR_lt (ix_lt hj5)) (DR_tg (ix_lt hj5)) (fun f => DR_row f (ix_lt hj5)) rfl hj33 d_Ways_measure_33 (fun H locs hP hS => ?_)
    refine lv_iconst (v := 1) hx hb d_Ways_measure_34 (by decide) ?_
    refine lv_istore_n (lv' := [(3, .int 1), (2, .ref (ad (12 + j5))), (0, .ref (ad 1)), (1, .int a)]) hx hb d_Ways_measure_35 rfl hl (by decide) rfl (fun ls hl => ?_)
    have L36 : ∀ (k36 : Nat) (v3_36 : Int32) (N36 : Mem) (H : Heap) (locs : List Loc) (ls : Array Slot), lv_has ls 4 [(3, .int v3_36), (2, .ref (ad (12 + j5))), (0, .ref (ad 1)), (1, .int a)] → va_P D cls (cW n ad G N36) H → va_S (wl_A (cK n) ad) s.heap H locs → f_Ways_measure_36 n j5 k36 v3_36 N36 = some x → W p l e rm_Ways_measure s m args below meth c H locs 0 0 (MQ below (wr_Q (none) D cls (cK n) ad (cE n ad G x)) args s 0 0 (wl_A (cK n) ad)) (F0 m 36 ls []) := by
      intro k36
      induction k36 with
      | zero =>
        intro v3_36 N36 H locs ls hl hP hS hf
        simp [f_Ways_measure_36] at hf
      | succ k36 ih36 =>
        intro v3_36 N36 H locs ls hl hP hS hf
        rw [f_Ways_measure_36] at hf
        refine lv_iload_n hx hb d_Ways_measure_36 rfl (lv_at hl 0 rfl) ?_
        refine lv_aload_n hx hb d_Ways_measure_37 rfl (lv_at hl 2 rfl) ?_
        refine va_get (D := D) (ci := 1) (v := .int (nI n)) (C := R_Ways) (T := F_Ways) (N := 4) hx hb hts in_Ways hown hK hP 1 (wl_to (Ways_lt) (Ways_at)) rfl 0 (by decide) (hts _ fl_Ways_9) (fun _ h => h) rfl d_Ways_measure_38 ?_
        refine lv_icmp_ge (tgt := 55) hx hb d_Ways_measure_41 (by decide) (fun h41 => ?_) (fun h41 => ?_)
        · rw [if_pos h41] at hf
          cases hf
          exact w_vret hx hb hr hlk hP hS d_Ways_measure_55
        · rw [if_neg h41] at hf
          refine lv_aload_n hx hb d_Ways_measure_44 rfl (lv_at hl 2 rfl) ?_
          refine lv_aload_n hx hb d_Ways_measure_45 rfl (lv_at hl 1 rfl) ?_
          obtain ⟨r46, hc46, hf⟩ := ob hf
          refine k_wrv (k_vir S (c_Ways_lengthenWays (l := l) (D := D) (n := n) (ad := ad) (G := G) (ix_lt hj5) hc46) g_Ways_41 hd_Ways_lengthenWays ⟨rfl, rfl⟩ ⟨Nat.le_of_ble_eq_true rfl, Nat.le_of_ble_eq_true rfl⟩ wl_blind (va_recv hK hP rfl (wl_to (Ways_lt) (Ways_at))) (wl_pre hP hK hA) rfl hl.1 rfl (Nat.le_of_ble_eq_true rfl) d_Ways_measure_46 (Nat.zero_le _) (Nat.zero_le _)) hS (fun _ h => h) (fun H locs hP _ _ hS => ?_)
          refine lv_iinc (v := (v3_36 + 1)) (lv' := [(3, .int (v3_36 + 1)), (2, .ref (ad (12 + j5))), (0, .ref (ad 1)), (1, .int a)]) hx hb d_Ways_measure_49 hl (k := 0) rfl rfl (by decide) rfl (fun ls hl => ?_)
          refine lv_goto (tgt := 36) hx hb d_Ways_measure_52 (by decide) ?_
          exact ih36 _ _ _ _ _ (lv_sub hl [0, 1, 2, 3] rfl) hP hS hf
    exact L36 _ _ _ _ _ _ (lv_sub hl [0, 1, 2, 3] rfl) hP hS hf
  · rw [if_pos h21] at hf
    cases hf
    exact w_vret hx hb hr hlk hP hS d_Ways_measure_24
def f_Ways_setCost_21 (n : Nat) : Nat → Int32 → Mem → Option (Mem)
  | 0, _, _ => none
  | k21 + 1, v4_21, N21 =>
    if 4 ≤ v4_21 then (some N21) else ((f_Ways_measure n v4_21 N21).bind fun r30 => f_Ways_setCost_21 n k21 (v4_21 + 1) r30)
def f_Ways_setCost (n : Nat) (a : Int32) (b : Int32) (z : Int32) (M : Mem) : Option (Mem) :=
  (ix a n).bind fun j5 => (ix b n).bind fun j8 => (ix b n).bind fun j14 => (ix a n).bind fun j17 => f_Ways_setCost_21 n 1000 0 (mset (mset M 16 j5 0 j8 z) 16 j14 0 j17 z)
abbrev rm_Ways_setCost : Room := { frames := 3, cells := 0, slots := 0, locals := 68 }
set_option maxHeartbeats 4000000 in
set_option maxRecDepth 100000 in
theorem c_Ways_setCost {l : Launch} {D : va_G} {n : Nat} {ad : Nat → Nat} {G : Nat → ClassId} {a : Int32} {b : Int32} {z : Int32}  {M : Mem} {x : Mem} (hf : f_Ways_setCost n a b z M = some x) : Met l y_Ways_setCost (wc y_Ways_setCost b_Ways_setCost 5 (none)) rm_Ways_setCost (va_Pc [.ref (ad 1), .int a, .int b, .int z] (cB D n ad G M)) (wr_Q (none) D cls (cK n) ad (cE n ad G x)) 0 0 (wl_A (cK n) ad) := by
  refine k_met (by decide) (Nat.le_of_ble_eq_true rfl) ?_
  intro p e s m args below meth c S hr hlk hB ls hl
  obtain ⟨hx, hb, hml, hown, hts⟩ := id S
  obtain ⟨hP, hK, hA0⟩ := hB
  have hA := wl_own hA0
  have hl : lv_has ls 5 [(0, .ref (ad 1)), (1, .int a), (2, .int b), (3, .int z)] := hl
  have hS : va_S (wl_A (cK n) ad) s.heap s.heap [] := va_S.rf
  unfold f_Ways_setCost at hf
  refine lv_aload_n hx hb d_Ways_setCost_0 rfl (lv_at hl 0 rfl) ?_
  refine va_get (D := D) (ci := 1) (v := .ref (ad 2)) (C := R_Ways) (T := F_Ways) (N := 4) hx hb hts in_Ways hown hK hP 1 (wl_to (Ways_lt) (Ways_at)) rfl 1 (by decide) (hts _ fl_Ways_17) (fun _ h => h) rfl d_Ways_setCost_1 ?_
  refine lv_iload_n hx hb d_Ways_setCost_4 rfl (lv_at hl 1 rfl) ?_
  obtain ⟨j5, hj5, hf⟩ := ob hf
  refine k_rald hx hb hK hP 2 1 (CO_lt) (CO_at) rfl hj5 rfl d_Ways_setCost_5 ?_
  refine lv_iload_n hx hb d_Ways_setCost_6 rfl (lv_at hl 2 rfl) ?_
  refine lv_iload_n hx hb d_Ways_setCost_7 rfl (lv_at hl 3 rfl) ?_
  obtain ⟨j8, hj8, hf⟩ := ob hf
  refine m_iast (x := z) hx hb hK hP hA hS cJ (16 + 11 * j5 + 0) 0 (CR_lt (ix_lt hj5)) (CR_tg (ix_lt hj5)) (fun f => CR_row f (ix_lt hj5)) rfl hj8 d_Ways_setCost_8 (fun H locs hP hS => ?_)
  refine lv_aload_n hx hb d_Ways_setCost_9 rfl (lv_at hl 0 rfl) ?_
  refine va_get (D := D) (ci := 1) (v := .ref (ad 2)) (C := R_Ways) (T := F_Ways) (N := 4) hx hb hts in_Ways hown hK hP 1 (wl_to (Ways_lt) (Ways_at)) rfl 1 (by decide) (hts _ fl_Ways_17) (fun _ h => h) rfl d_Ways_setCost_10 ?_
  refine lv_iload_n hx hb d_Ways_setCost_13 rfl (lv_at hl 2 rfl) ?_
  obtain ⟨j14, hj14, hf⟩ := ob hf
  refine k_rald hx hb hK hP 2 1 (CO_lt) (CO_at) rfl hj14 rfl d_Ways_setCost_14 ?_
  refine lv_iload_n hx hb d_Ways_setCost_15 rfl (lv_at hl 1 rfl) ?_
  refine lv_iload_n hx hb d_Ways_setCost_16 rfl (lv_at hl 3 rfl) ?_
  obtain ⟨j17, hj17, hf⟩ := ob hf
  refine m_iast (x := z) hx hb hK hP hA hS cJ (16 + 11 * j14 + 0) 0 (CR_lt (ix_lt hj14)) (CR_tg (ix_lt hj14)) (fun f => CR_row f (ix_lt hj14)) rfl hj17 d_Ways_setCost_17 (fun H locs hP hS => ?_)
  refine lv_iconst (v := 0) hx hb d_Ways_setCost_18 (by decide) ?_
  refine lv_istore (lv' := [(4, .int 0), (0, .ref (ad 1)), (1, .int a), (2, .int b), (3, .int z)]) hx hb d_Ways_setCost_19 hl (by decide) rfl (fun ls hl => ?_)
  have L21 : ∀ (k21 : Nat) (v4_21 : Int32) (N21 : Mem) (H : Heap) (locs : List Loc) (ls : Array Slot), lv_has ls 5 [(4, .int v4_21), (0, .ref (ad 1)), (1, .int a), (2, .int b), (3, .int z)] → va_P D cls (cW n ad G N21) H → va_S (wl_A (cK n) ad) s.heap H locs → f_Ways_setCost_21 n k21 v4_21 N21 = some x → W p l e rm_Ways_setCost s m args below meth c H locs 0 0 (MQ below (wr_Q (none) D cls (cK n) ad (cE n ad G x)) args s 0 0 (wl_A (cK n) ad)) (F0 m 21 ls []) := by
    intro k21
    induction k21 with
    | zero =>
      intro v4_21 N21 H locs ls hl hP hS hf
      simp [f_Ways_setCost_21] at hf
    | succ k21 ih21 =>
      intro v4_21 N21 H locs ls hl hP hS hf
      rw [f_Ways_setCost_21] at hf
      refine lv_iload hx hb d_Ways_setCost_21 (lv_at hl 0 rfl) ?_
      refine lv_iconst (v := 4) hx hb d_Ways_setCost_23 (by decide) ?_
      refine lv_icmp_ge (tgt := 39) hx hb d_Ways_setCost_24 (by decide) (fun h24 => ?_) (fun h24 => ?_)
      · rw [if_pos h24] at hf
        cases hf
        exact w_vret hx hb hr hlk hP hS d_Ways_setCost_39
      · rw [if_neg h24] at hf
        refine lv_aload_n hx hb d_Ways_setCost_27 rfl (lv_at hl 1 rfl) ?_
        refine lv_iload hx hb d_Ways_setCost_28 (lv_at hl 0 rfl) ?_
        obtain ⟨r30, hc30, hf⟩ := ob hf
        refine k_wrv (k_vir S (c_Ways_measure (l := l) (D := D) (n := n) (ad := ad) (G := G) hc30) g_Ways_33 hd_Ways_measure ⟨rfl, rfl⟩ ⟨Nat.le_of_ble_eq_true rfl, Nat.le_of_ble_eq_true rfl⟩ wl_blind (va_recv hK hP rfl (wl_to (Ways_lt) (Ways_at))) (wl_pre hP hK hA) rfl hl.1 rfl (Nat.le_of_ble_eq_true rfl) d_Ways_setCost_30 (Nat.zero_le _) (Nat.zero_le _)) hS (fun _ h => h) (fun H locs hP _ _ hS => ?_)
        refine lv_iinc (v := (v4_21 + 1)) (lv' := [(4, .int (v4_21 + 1)), (0, .ref (ad 1)), (1, .int a), (2, .int b), (3, .int z)]) hx hb d_Ways_setCost_33 hl (k := 0) rfl rfl (by decide) rfl (fun ls hl => ?_)
        refine lv_goto (tgt := 21) hx hb d_Ways_setCost_36 (by decide) ?_
        exact ih21 _ _ _ _ _ (lv_sub hl [0, 1, 2, 3, 4] rfl) hP hS hf
  exact L21 _ _ _ _ _ _ (lv_sub hl [0, 1, 2, 3, 4] rfl) hP hS hf
def f_Ways_setOwner (n : Nat) (a : Int32) (b : Int32) (M : Mem) : Option (Mem) :=
  (ix a 4).bind fun j6 => (f_Ways_measure n a (mset M 3 0 0 j6 b)).bind fun r9 => some r9
abbrev rm_Ways_setOwner : Room := { frames := 3, cells := 0, slots := 0, locals := 68 }
set_option maxHeartbeats 4000000 in
set_option maxRecDepth 100000 in
theorem c_Ways_setOwner {l : Launch} {D : va_G} {n : Nat} {ad : Nat → Nat} {G : Nat → ClassId} {a : Int32} {b : Int32}  {M : Mem} {x : Mem} (hf : f_Ways_setOwner n a b M = some x) : Met l y_Ways_setOwner (wc y_Ways_setOwner b_Ways_setOwner 3 (none)) rm_Ways_setOwner (va_Pc [.ref (ad 1), .int a, .int b] (cB D n ad G M)) (wr_Q (none) D cls (cK n) ad (cE n ad G x)) 0 0 (wl_A (cK n) ad) := by
  refine k_met (by decide) (Nat.le_of_ble_eq_true rfl) ?_
  intro p e s m args below meth c S hr hlk hB ls hl
  obtain ⟨hx, hb, hml, hown, hts⟩ := id S
  obtain ⟨hP, hK, hA0⟩ := hB
  have hA := wl_own hA0
  have hl : lv_has ls 3 [(0, .ref (ad 1)), (1, .int a), (2, .int b)] := hl
  have hS : va_S (wl_A (cK n) ad) s.heap s.heap [] := va_S.rf
  unfold f_Ways_setOwner at hf
  refine lv_aload_n hx hb d_Ways_setOwner_0 rfl (lv_at hl 0 rfl) ?_
  refine va_get (D := D) (ci := 1) (v := .ref (ad 3)) (C := R_Ways) (T := F_Ways) (N := 4) hx hb hts in_Ways hown hK hP 1 (wl_to (Ways_lt) (Ways_at)) rfl 2 (by decide) (hts _ fl_Ways_20) (fun _ h => h) rfl d_Ways_setOwner_1 ?_
  refine lv_iload_n hx hb d_Ways_setOwner_4 rfl (lv_at hl 1 rfl) ?_
  refine lv_iload_n hx hb d_Ways_setOwner_5 rfl (lv_at hl 2 rfl) ?_
  obtain ⟨j6, hj6, hf⟩ := ob hf
  refine m_iast (x := b) hx hb hK hP hA hS cJ 3 0 (OW_lt) (OW_tg) (fun f => OW_row f) rfl hj6 d_Ways_setOwner_6 (fun H locs hP hS => ?_)
  refine lv_aload_n hx hb d_Ways_setOwner_7 rfl (lv_at hl 0 rfl) ?_
  refine lv_iload_n hx hb d_Ways_setOwner_8 rfl (lv_at hl 1 rfl) ?_
  obtain ⟨r9, hc9, hf⟩ := ob hf
  refine k_wrv (k_vir S (c_Ways_measure (l := l) (D := D) (n := n) (ad := ad) (G := G) hc9) g_Ways_33 hd_Ways_measure ⟨rfl, rfl⟩ ⟨Nat.le_of_ble_eq_true rfl, Nat.le_of_ble_eq_true rfl⟩ wl_blind (va_recv hK hP rfl (wl_to (Ways_lt) (Ways_at))) (wl_pre hP hK hA) rfl hl.1 rfl (Nat.le_of_ble_eq_true rfl) d_Ways_setOwner_9 (Nat.zero_le _) (Nat.zero_le _)) hS (fun _ h => h) (fun H locs hP _ _ hS => ?_)
  cases hf
  exact w_vret hx hb hr hlk hP hS d_Ways_setOwner_12
