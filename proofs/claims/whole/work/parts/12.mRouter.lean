def f_Router_labelOf (n : Nat) (r : Nat) (a : Int32) (M : Mem) : Option (Int32) :=
  (ix a 4).bind fun j5 => some (M 18 r 0 j5)
abbrev rm_Router_labelOf : Room := { frames := 0, cells := 0, slots := 0, locals := 0 }
set_option maxHeartbeats 4000000 in
set_option maxRecDepth 100000 in
theorem c_Router_labelOf {l : Launch} {D : va_G} {n : Nat} {ad : Nat → Nat} {G : Nat → ClassId} {r : Nat} {a : Int32} (hp_r : r < n) {M : Mem} {x : Int32} (hf : f_Router_labelOf n r a M = some x) : Met l y_Router_labelOf (wc y_Router_labelOf b_Router_labelOf 2 (some .int)) rm_Router_labelOf (va_Pc [.ref (ad (16 + 11 * r + 1)), .int a] (cB D n ad G M)) (rd_Q (some (.int x))) 0 0 (fun _ => False) := by
  refine k_met (by decide) (Nat.le_of_ble_eq_true rfl) ?_
  intro p e s m args below meth c S hr hlk hB ls hl
  obtain ⟨hx, hb, hml, hown, hts⟩ := id S
  obtain ⟨hP, hK, hA0⟩ := hB
  have hA := wl_own hA0
  have hl : lv_has ls 2 [(0, .ref (ad (16 + 11 * r + 1))), (1, .int a)] := hl
  unfold f_Router_labelOf at hf
  refine lv_aload_n hx hb d_Router_labelOf_0 rfl (lv_at hl 0 rfl) ?_
  refine va_get (D := D) (ci := 3) (v := .ref (ad (16 + 11 * r + 2))) (C := R_Router) (T := F_Router) (N := 3) hx hb hts in_Router hown hK hP (16 + 11 * r + 1) (wl_to (RT_lt hp_r) (RT_at hp_r)) rfl 0 (by decide) (hts _ fl_Router_9) (fun _ h => h) rfl d_Router_labelOf_1 ?_
  refine lv_iload_n hx hb d_Router_labelOf_4 rfl (lv_at hl 1 rfl) ?_
  obtain ⟨j5, hj5, hf⟩ := ob hf
  refine k_iald hx hb hK hP (16 + 11 * r + 2) 0 (LB_lt hp_r) (LB_at hp_r) rfl hj5 d_Router_labelOf_5 ?_
  cases hf
  exact r_iret hx hb hr hlk d_Router_labelOf_6
def f_Router_setLabel (n : Nat) (r : Nat) (a : Int32) (b : Int32) (M : Mem) : Option (Mem) :=
  (ix a 4).bind fun j6 => some (mset M 18 r 0 j6 b)
abbrev rm_Router_setLabel : Room := { frames := 0, cells := 0, slots := 0, locals := 0 }
set_option maxHeartbeats 4000000 in
set_option maxRecDepth 100000 in
theorem c_Router_setLabel {l : Launch} {D : va_G} {n : Nat} {ad : Nat → Nat} {G : Nat → ClassId} {r : Nat} {a : Int32} {b : Int32} (hp_r : r < n) {M : Mem} {x : Mem} (hf : f_Router_setLabel n r a b M = some x) : Met l y_Router_setLabel (wc y_Router_setLabel b_Router_setLabel 3 (none)) rm_Router_setLabel (va_Pc [.ref (ad (16 + 11 * r + 1)), .int a, .int b] (cB D n ad G M)) (wr_Q (none) D cls (cK n) ad (cE n ad G x)) 0 0 (wl_A (cK n) ad) := by
  refine k_met (by decide) (Nat.le_of_ble_eq_true rfl) ?_
  intro p e s m args below meth c S hr hlk hB ls hl
  obtain ⟨hx, hb, hml, hown, hts⟩ := id S
  obtain ⟨hP, hK, hA0⟩ := hB
  have hA := wl_own hA0
  have hl : lv_has ls 3 [(0, .ref (ad (16 + 11 * r + 1))), (1, .int a), (2, .int b)] := hl
  have hS : va_S (wl_A (cK n) ad) s.heap s.heap [] := va_S.rf
  unfold f_Router_setLabel at hf
  refine lv_aload_n hx hb d_Router_setLabel_0 rfl (lv_at hl 0 rfl) ?_
  refine va_get (D := D) (ci := 3) (v := .ref (ad (16 + 11 * r + 2))) (C := R_Router) (T := F_Router) (N := 3) hx hb hts in_Router hown hK hP (16 + 11 * r + 1) (wl_to (RT_lt hp_r) (RT_at hp_r)) rfl 0 (by decide) (hts _ fl_Router_9) (fun _ h => h) rfl d_Router_setLabel_1 ?_
  refine lv_iload_n hx hb d_Router_setLabel_4 rfl (lv_at hl 1 rfl) ?_
  refine lv_iload_n hx hb d_Router_setLabel_5 rfl (lv_at hl 2 rfl) ?_
  obtain ⟨j6, hj6, hf⟩ := ob hf
  refine m_iast (x := b) hx hb hK hP hA hS cJ (16 + 11 * r + 2) 0 (LB_lt hp_r) (LB_tg hp_r) (fun f => LB_row f hp_r) rfl hj6 d_Router_setLabel_6 (fun H locs hP hS => ?_)
  cases hf
  exact w_vret hx hb hr hlk hP hS d_Router_setLabel_7
def f_Router_prefixOf_2 (n : Nat) (r : Nat) (a : Int32) (M : Mem) : Nat → Int32 → Option (Int32)
  | 0, _ => none
  | k2 + 1, v2_2 =>
    if 4 ≤ v2_2 then (some (-1)) else ((ix v2_2 4).bind fun j12 => if (M 18 r 0 j12) = a then (some v2_2) else (f_Router_prefixOf_2 n r a M k2 (v2_2 + 1)))
def f_Router_prefixOf (n : Nat) (r : Nat) (a : Int32) (M : Mem) : Option (Int32) :=
  f_Router_prefixOf_2 n r a M 1000 0
abbrev rm_Router_prefixOf : Room := { frames := 0, cells := 0, slots := 0, locals := 0 }
set_option maxHeartbeats 4000000 in
set_option maxRecDepth 100000 in
theorem c_Router_prefixOf {l : Launch} {D : va_G} {n : Nat} {ad : Nat → Nat} {G : Nat → ClassId} {r : Nat} {a : Int32} (hp_r : r < n) {M : Mem} {x : Int32} (hf : f_Router_prefixOf n r a M = some x) : Met l y_Router_prefixOf (wc y_Router_prefixOf b_Router_prefixOf 3 (some .int)) rm_Router_prefixOf (va_Pc [.ref (ad (16 + 11 * r + 1)), .int a] (cB D n ad G M)) (rd_Q (some (.int x))) 0 0 (fun _ => False) := by
  refine k_met (by decide) (Nat.le_of_ble_eq_true rfl) ?_
  intro p e s m args below meth c S hr hlk hB ls hl
  obtain ⟨hx, hb, hml, hown, hts⟩ := id S
  obtain ⟨hP, hK, hA0⟩ := hB
  have hA := wl_own hA0
  have hl : lv_has ls 3 [(0, .ref (ad (16 + 11 * r + 1))), (1, .int a)] := hl
  unfold f_Router_prefixOf at hf
  refine lv_iconst (v := 0) hx hb d_Router_prefixOf_0 (by decide) ?_
  refine lv_istore_n (lv' := [(2, .int 0), (0, .ref (ad (16 + 11 * r + 1))), (1, .int a)]) hx hb d_Router_prefixOf_1 rfl hl (by decide) rfl (fun ls hl => ?_)
  have L2 : ∀ (k2 : Nat) (v2_2 : Int32) (ls : Array Slot), lv_has ls 3 [(2, .int v2_2), (0, .ref (ad (16 + 11 * r + 1))), (1, .int a)] → f_Router_prefixOf_2 n r a M k2 v2_2 = some x → W p l e rm_Router_prefixOf s m args below meth c s.heap [] 0 0 (MQ below (rd_Q (some (.int x))) args s 0 0 (fun _ => False)) (F0 m 2 ls []) := by
    intro k2
    induction k2 with
    | zero =>
      intro v2_2 ls hl hf
      simp [f_Router_prefixOf_2] at hf
    | succ k2 ih2 =>
      intro v2_2 ls hl hf
      rw [f_Router_prefixOf_2] at hf
      refine lv_iload_n hx hb d_Router_prefixOf_2 rfl (lv_at hl 0 rfl) ?_
      refine lv_iconst (v := 4) hx hb d_Router_prefixOf_3 (by decide) ?_
      refine lv_icmp_ge (tgt := 25) hx hb d_Router_prefixOf_4 (by decide) (fun h4 => ?_) (fun h4 => ?_)
      · rw [if_pos h4] at hf
        refine lv_iconst (v := (-1)) hx hb d_Router_prefixOf_25 (by decide) ?_
        cases hf
        exact r_iret hx hb hr hlk d_Router_prefixOf_26
      · rw [if_neg h4] at hf
        refine lv_aload_n hx hb d_Router_prefixOf_7 rfl (lv_at hl 1 rfl) ?_
        refine va_get (D := D) (ci := 3) (v := .ref (ad (16 + 11 * r + 2))) (C := R_Router) (T := F_Router) (N := 3) hx hb hts in_Router hown hK hP (16 + 11 * r + 1) (wl_to (RT_lt hp_r) (RT_at hp_r)) rfl 0 (by decide) (hts _ fl_Router_9) (fun _ h => h) rfl d_Router_prefixOf_8 ?_
        refine lv_iload_n hx hb d_Router_prefixOf_11 rfl (lv_at hl 0 rfl) ?_
        obtain ⟨j12, hj12, hf⟩ := ob hf
        refine k_iald hx hb hK hP (16 + 11 * r + 2) 0 (LB_lt hp_r) (LB_at hp_r) rfl hj12 d_Router_prefixOf_12 ?_
        refine lv_iload_n hx hb d_Router_prefixOf_13 rfl (lv_at hl 2 rfl) ?_
        refine lv_icmp_ne (tgt := 19) hx hb d_Router_prefixOf_14 (by decide) (fun h14 => ?_) (fun h14 => ?_)
        · rw [if_neg h14] at hf
          refine lv_iinc (v := (v2_2 + 1)) (lv' := [(2, .int (v2_2 + 1)), (0, .ref (ad (16 + 11 * r + 1))), (1, .int a)]) hx hb d_Router_prefixOf_19 hl (k := 0) rfl rfl (by decide) rfl (fun ls hl => ?_)
          refine lv_goto (tgt := 2) hx hb d_Router_prefixOf_22 (by decide) ?_
          exact ih2 _ _ (lv_sub hl [0, 1, 2] rfl) hf
        · rw [if_pos h14] at hf
          refine lv_iload_n hx hb d_Router_prefixOf_17 rfl (lv_at hl 0 rfl) ?_
          cases hf
          exact r_iret hx hb hr hlk d_Router_prefixOf_18
  exact L2 _ _ _ (lv_sub hl [0, 1, 2] rfl) hf
def f_Router_takenBits_33 (n : Nat) (r : Nat) (M : Mem) : Nat → Int32 → Int32 → Option (Int32)
  | 0, _, _ => none
  | k33 + 1, v2_33, v1_33 =>
    if 4 ≤ v2_33 then (some v1_33) else ((ix v2_33 4).bind fun j43 => if (M 18 r 0 j43) = 0 then (f_Router_takenBits_33 n r M k33 (v2_33 + 1) v1_33) else ((ix v2_33 4).bind fun j54 => f_Router_takenBits_33 n r M k33 (v2_33 + 1) (v1_33 ||| (1 <<< (((M 18 r 0 j54) - 16) &&& 31)))))
def f_Router_takenBits_4 (n : Nat) (r : Nat) (M : Mem) : Nat → Int32 → Int32 → Option (Int32)
  | 0, _, _ => none
  | k4 + 1, v2_4, v1_4 =>
    if 8 ≤ v2_4 then (f_Router_takenBits_33 n r M 1000 0 v1_4) else ((ix v2_4 8).bind fun j15 => if (M 20 r 0 j15) = 0 then (f_Router_takenBits_4 n r M k4 (v2_4 + 1) v1_4) else (f_Router_takenBits_4 n r M k4 (v2_4 + 1) (v1_4 ||| (1 <<< (v2_4 &&& 31)))))
def f_Router_takenBits (n : Nat) (r : Nat) (M : Mem) : Option (Int32) :=
  f_Router_takenBits_4 n r M 1000 0 0
abbrev rm_Router_takenBits : Room := { frames := 0, cells := 0, slots := 0, locals := 0 }
set_option maxHeartbeats 4000000 in
set_option maxRecDepth 100000 in
theorem c_Router_takenBits {l : Launch} {D : va_G} {n : Nat} {ad : Nat → Nat} {G : Nat → ClassId} {r : Nat} (hp_r : r < n) {M : Mem} {x : Int32} (hf : f_Router_takenBits n r M = some x) : Met l y_Router_takenBits (wc y_Router_takenBits b_Router_takenBits 3 (some .int)) rm_Router_takenBits (va_Pc [.ref (ad (16 + 11 * r + 1))] (cB D n ad G M)) (rd_Q (some (.int x))) 0 0 (fun _ => False) := by
  refine k_met (by decide) (Nat.le_of_ble_eq_true rfl) ?_
  intro p e s m args below meth c S hr hlk hB ls hl
  obtain ⟨hx, hb, hml, hown, hts⟩ := id S
  obtain ⟨hP, hK, hA0⟩ := hB
  have hA := wl_own hA0
  have hl : lv_has ls 3 [(0, .ref (ad (16 + 11 * r + 1)))] := hl
  unfold f_Router_takenBits at hf
  refine lv_iconst (v := 0) hx hb d_Router_takenBits_0 (by decide) ?_
  refine lv_istore_n (lv' := [(1, .int 0), (0, .ref (ad (16 + 11 * r + 1)))]) hx hb d_Router_takenBits_1 rfl hl (by decide) rfl (fun ls hl => ?_)
  refine lv_iconst (v := 0) hx hb d_Router_takenBits_2 (by decide) ?_
  refine lv_istore_n (lv' := [(2, .int 0), (1, .int 0), (0, .ref (ad (16 + 11 * r + 1)))]) hx hb d_Router_takenBits_3 rfl hl (by decide) rfl (fun ls hl => ?_)
  have L4 : ∀ (k4 : Nat) (v2_4 : Int32) (v1_4 : Int32) (ls : Array Slot), lv_has ls 3 [(2, .int v2_4), (1, .int v1_4), (0, .ref (ad (16 + 11 * r + 1)))] → f_Router_takenBits_4 n r M k4 v2_4 v1_4 = some x → W p l e rm_Router_takenBits s m args below meth c s.heap [] 0 0 (MQ below (rd_Q (some (.int x))) args s 0 0 (fun _ => False)) (F0 m 4 ls []) := by
    intro k4
    induction k4 with
    | zero =>
      intro v2_4 v1_4 ls hl hf
      simp [f_Router_takenBits_4] at hf
    | succ k4 ih4 =>
      intro v2_4 v1_4 ls hl hf
      rw [f_Router_takenBits_4] at hf
      refine lv_iload_n hx hb d_Router_takenBits_4 rfl (lv_at hl 0 rfl) ?_
      refine lv_bipush (v := 8) hx hb d_Router_takenBits_5 (by decide) ?_
      refine lv_icmp_ge (tgt := 31) hx hb d_Router_takenBits_7 (by decide) (fun h7 => ?_) (fun h7 => ?_)
      · rw [if_pos h7] at hf
        refine lv_iconst (v := 0) hx hb d_Router_takenBits_31 (by decide) ?_
        refine lv_istore_n (lv' := [(2, .int 0), (1, .int v1_4), (0, .ref (ad (16 + 11 * r + 1)))]) hx hb d_Router_takenBits_32 rfl hl (by decide) rfl (fun ls hl => ?_)
        have L33 : ∀ (k33 : Nat) (v2_33 : Int32) (v1_33 : Int32) (ls : Array Slot), lv_has ls 3 [(2, .int v2_33), (1, .int v1_33), (0, .ref (ad (16 + 11 * r + 1)))] → f_Router_takenBits_33 n r M k33 v2_33 v1_33 = some x → W p l e rm_Router_takenBits s m args below meth c s.heap [] 0 0 (MQ below (rd_Q (some (.int x))) args s 0 0 (fun _ => False)) (F0 m 33 ls []) := by
          intro k33
          induction k33 with
          | zero =>
            intro v2_33 v1_33 ls hl hf
            simp [f_Router_takenBits_33] at hf
          | succ k33 ih33 =>
            intro v2_33 v1_33 ls hl hf
            rw [f_Router_takenBits_33] at hf
            refine lv_iload_n hx hb d_Router_takenBits_33 rfl (lv_at hl 0 rfl) ?_
            refine lv_iconst (v := 4) hx hb d_Router_takenBits_34 (by decide) ?_
            refine lv_icmp_ge (tgt := 67) hx hb d_Router_takenBits_35 (by decide) (fun h35 => ?_) (fun h35 => ?_)
            · rw [if_pos h35] at hf
              refine lv_iload_n hx hb d_Router_takenBits_67 rfl (lv_at hl 1 rfl) ?_
              cases hf
              exact r_iret hx hb hr hlk d_Router_takenBits_68
            · rw [if_neg h35] at hf
              refine lv_aload_n hx hb d_Router_takenBits_38 rfl (lv_at hl 2 rfl) ?_
              refine va_get (D := D) (ci := 3) (v := .ref (ad (16 + 11 * r + 2))) (C := R_Router) (T := F_Router) (N := 3) hx hb hts in_Router hown hK hP (16 + 11 * r + 1) (wl_to (RT_lt hp_r) (RT_at hp_r)) rfl 0 (by decide) (hts _ fl_Router_9) (fun _ h => h) rfl d_Router_takenBits_39 ?_
              refine lv_iload_n hx hb d_Router_takenBits_42 rfl (lv_at hl 0 rfl) ?_
              obtain ⟨j43, hj43, hf⟩ := ob hf
              refine k_iald hx hb hK hP (16 + 11 * r + 2) 0 (LB_lt hp_r) (LB_at hp_r) rfl hj43 d_Router_takenBits_43 ?_
              refine lv_if_eq (tgt := 61) hx hb d_Router_takenBits_44 (by decide) (fun h44 => ?_) (fun h44 => ?_)
              · rw [if_pos h44] at hf
                refine lv_iinc (v := (v2_33 + 1)) (lv' := [(2, .int (v2_33 + 1)), (1, .int v1_33), (0, .ref (ad (16 + 11 * r + 1)))]) hx hb d_Router_takenBits_61 hl (k := 0) rfl rfl (by decide) rfl (fun ls hl => ?_)
                refine lv_goto (tgt := 33) hx hb d_Router_takenBits_64 (by decide) ?_
                exact ih33 _ _ _ (lv_sub hl [0, 1, 2] rfl) hf
              · rw [if_neg h44] at hf
                refine lv_iload_n hx hb d_Router_takenBits_47 rfl (lv_at hl 1 rfl) ?_
                refine lv_iconst (v := 1) hx hb d_Router_takenBits_48 (by decide) ?_
                refine lv_aload_n hx hb d_Router_takenBits_49 rfl (lv_at hl 2 rfl) ?_
                refine va_get (D := D) (ci := 3) (v := .ref (ad (16 + 11 * r + 2))) (C := R_Router) (T := F_Router) (N := 3) hx hb hts in_Router hown hK hP (16 + 11 * r + 1) (wl_to (RT_lt hp_r) (RT_at hp_r)) rfl 0 (by decide) (hts _ fl_Router_9) (fun _ h => h) rfl d_Router_takenBits_50 ?_
                refine lv_iload_n hx hb d_Router_takenBits_53 rfl (lv_at hl 0 rfl) ?_
                obtain ⟨j54, hj54, hf⟩ := ob hf
                refine k_iald hx hb hK hP (16 + 11 * r + 2) 0 (LB_lt hp_r) (LB_at hp_r) rfl hj54 d_Router_takenBits_54 ?_
                refine lv_bipush (v := 16) hx hb d_Router_takenBits_55 (by decide) ?_
                refine lv_isub hx hb d_Router_takenBits_57 ?_
                refine lv_ishl hx hb d_Router_takenBits_58 ?_
                refine lv_ior hx hb d_Router_takenBits_59 ?_
                refine lv_istore_n (lv' := [(1, .int (v1_33 ||| (1 <<< (((M 18 r 0 j54) - 16) &&& 31)))), (2, .int v2_33), (0, .ref (ad (16 + 11 * r + 1)))]) hx hb d_Router_takenBits_60 rfl hl (by decide) rfl (fun ls hl => ?_)
                refine lv_iinc (v := (v2_33 + 1)) (lv' := [(2, .int (v2_33 + 1)), (1, .int (v1_33 ||| (1 <<< (((M 18 r 0 j54) - 16) &&& 31)))), (0, .ref (ad (16 + 11 * r + 1)))]) hx hb d_Router_takenBits_61 hl (k := 1) rfl rfl (by decide) rfl (fun ls hl => ?_)
                refine lv_goto (tgt := 33) hx hb d_Router_takenBits_64 (by decide) ?_
                exact ih33 _ _ _ (lv_sub hl [0, 1, 2] rfl) hf
        exact L33 _ _ _ _ (lv_sub hl [0, 1, 2] rfl) hf
      · rw [if_neg h7] at hf
        refine lv_aload_n hx hb d_Router_takenBits_10 rfl (lv_at hl 2 rfl) ?_
        refine va_get (D := D) (ci := 3) (v := .ref (ad (16 + 11 * r + 4))) (C := R_Router) (T := F_Router) (N := 3) hx hb hts in_Router hown hK hP (16 + 11 * r + 1) (wl_to (RT_lt hp_r) (RT_at hp_r)) rfl 2 (by decide) (hts _ fl_Router_20) (fun _ h => h) rfl d_Router_takenBits_11 ?_
        refine lv_iload_n hx hb d_Router_takenBits_14 rfl (lv_at hl 0 rfl) ?_
        obtain ⟨j15, hj15, hf⟩ := ob hf
        refine k_iald hx hb hK hP (16 + 11 * r + 4) 0 (AW_lt hp_r) (AW_at hp_r) rfl hj15 d_Router_takenBits_15 ?_
        refine lv_if_eq (tgt := 25) hx hb d_Router_takenBits_16 (by decide) (fun h16 => ?_) (fun h16 => ?_)
        · rw [if_pos h16] at hf
          refine lv_iinc (v := (v2_4 + 1)) (lv' := [(2, .int (v2_4 + 1)), (1, .int v1_4), (0, .ref (ad (16 + 11 * r + 1)))]) hx hb d_Router_takenBits_25 hl (k := 0) rfl rfl (by decide) rfl (fun ls hl => ?_)
          refine lv_goto (tgt := 4) hx hb d_Router_takenBits_28 (by decide) ?_
          exact ih4 _ _ _ (lv_sub hl [0, 1, 2] rfl) hf
        · rw [if_neg h16] at hf
          refine lv_iload_n hx hb d_Router_takenBits_19 rfl (lv_at hl 1 rfl) ?_
          refine lv_iconst (v := 1) hx hb d_Router_takenBits_20 (by decide) ?_
          refine lv_iload_n hx hb d_Router_takenBits_21 rfl (lv_at hl 0 rfl) ?_
          refine lv_ishl hx hb d_Router_takenBits_22 ?_
          refine lv_ior hx hb d_Router_takenBits_23 ?_
          refine lv_istore_n (lv' := [(1, .int (v1_4 ||| (1 <<< (v2_4 &&& 31)))), (2, .int v2_4), (0, .ref (ad (16 + 11 * r + 1)))]) hx hb d_Router_takenBits_24 rfl hl (by decide) rfl (fun ls hl => ?_)
          refine lv_iinc (v := (v2_4 + 1)) (lv' := [(2, .int (v2_4 + 1)), (1, .int (v1_4 ||| (1 <<< (v2_4 &&& 31)))), (0, .ref (ad (16 + 11 * r + 1)))]) hx hb d_Router_takenBits_25 hl (k := 1) rfl rfl (by decide) rfl (fun ls hl => ?_)
          refine lv_goto (tgt := 4) hx hb d_Router_takenBits_28 (by decide) ?_
          exact ih4 _ _ _ (lv_sub hl [0, 1, 2] rfl) hf
  exact L4 _ _ _ _ (lv_sub hl [0, 1, 2] rfl) hf
def f_Router_leastFree_7 (n : Nat) (r1 : Int32) : Nat → Int32 → Option (Int32)
  | 0, _ => none
  | k7 + 1, v2_7 =>
    if 8 ≤ v2_7 then (some 0) else (if ((r1 >>> (v2_7 &&& 31)) &&& 1) = 0 then (some (16 + v2_7)) else (f_Router_leastFree_7 n r1 k7 (v2_7 + 1)))
def f_Router_leastFree (n : Nat) (r : Nat) (M : Mem) : Option (Int32) :=
  (f_Router_takenBits n r M).bind fun r1 => f_Router_leastFree_7 n r1 1000 0
abbrev rm_Router_leastFree : Room := { frames := 1, cells := 0, slots := 0, locals := 22 }
set_option maxHeartbeats 4000000 in
set_option maxRecDepth 100000 in
theorem c_Router_leastFree {l : Launch} {D : va_G} {n : Nat} {ad : Nat → Nat} {G : Nat → ClassId} {r : Nat} (hp_r : r < n) {M : Mem} {x : Int32} (hf : f_Router_leastFree n r M = some x) : Met l y_Router_leastFree (wc y_Router_leastFree b_Router_leastFree 3 (some .int)) rm_Router_leastFree (va_Pc [.ref (ad (16 + 11 * r + 1))] (cB D n ad G M)) (rd_Q (some (.int x))) 0 0 (fun _ => False) := by
  refine k_met (by decide) (Nat.le_of_ble_eq_true rfl) ?_
  intro p e s m args below meth c S hr hlk hB ls hl
  obtain ⟨hx, hb, hml, hown, hts⟩ := id S
  obtain ⟨hP, hK, hA0⟩ := hB
  have hA := wl_own hA0
  have hl : lv_has ls 3 [(0, .ref (ad (16 + 11 * r + 1)))] := hl
  unfold f_Router_leastFree at hf
  refine lv_aload_n hx hb d_Router_leastFree_0 rfl (lv_at hl 0 rfl) ?_
  obtain ⟨r1, hc1, hf⟩ := ob hf
  refine k_rdi (k_vir S (c_Router_takenBits (l := l) (D := D) (n := n) (ad := ad) (G := G) hp_r hc1) g_Router_23 hd_Router_takenBits ⟨rfl, rfl⟩ ⟨Nat.le_of_ble_eq_true rfl, Nat.le_of_ble_eq_true rfl⟩ wl_blind (va_recv hK hP rfl (wl_to (RT_lt hp_r) (RT_at hp_r))) (wl_pre hP hK hA) rfl hl.1 rfl (Nat.le_of_ble_eq_true rfl) d_Router_leastFree_1 (Nat.zero_le _) (Nat.zero_le _)) ?_
  refine lv_istore_n (lv' := [(1, .int r1), (0, .ref (ad (16 + 11 * r + 1)))]) hx hb d_Router_leastFree_4 rfl hl (by decide) rfl (fun ls hl => ?_)
  refine lv_iconst (v := 0) hx hb d_Router_leastFree_5 (by decide) ?_
  refine lv_istore_n (lv' := [(2, .int 0), (1, .int r1), (0, .ref (ad (16 + 11 * r + 1)))]) hx hb d_Router_leastFree_6 rfl hl (by decide) rfl (fun ls hl => ?_)
  have L7 : ∀ (k7 : Nat) (v2_7 : Int32) (ls : Array Slot), lv_has ls 3 [(2, .int v2_7), (1, .int r1), (0, .ref (ad (16 + 11 * r + 1)))] → f_Router_leastFree_7 n r1 k7 v2_7 = some x → W p l e rm_Router_leastFree s m args below meth c s.heap [] 0 0 (MQ below (rd_Q (some (.int x))) args s 0 0 (fun _ => False)) (F0 m 7 ls []) := by
    intro k7
    induction k7 with
    | zero =>
      intro v2_7 ls hl hf
      simp [f_Router_leastFree_7] at hf
    | succ k7 ih7 =>
      intro v2_7 ls hl hf
      rw [f_Router_leastFree_7] at hf
      refine lv_iload_n hx hb d_Router_leastFree_7 rfl (lv_at hl 0 rfl) ?_
      refine lv_bipush (v := 8) hx hb d_Router_leastFree_8 (by decide) ?_
      refine lv_icmp_ge (tgt := 32) hx hb d_Router_leastFree_10 (by decide) (fun h10 => ?_) (fun h10 => ?_)
      · rw [if_pos h10] at hf
        refine lv_iconst (v := 0) hx hb d_Router_leastFree_32 (by decide) ?_
        cases hf
        exact r_iret hx hb hr hlk d_Router_leastFree_33
      · rw [if_neg h10] at hf
        refine lv_iload_n hx hb d_Router_leastFree_13 rfl (lv_at hl 1 rfl) ?_
        refine lv_iload_n hx hb d_Router_leastFree_14 rfl (lv_at hl 0 rfl) ?_
        refine lv_ishr hx hb d_Router_leastFree_15 ?_
        refine lv_iconst (v := 1) hx hb d_Router_leastFree_16 (by decide) ?_
        refine lv_iand hx hb d_Router_leastFree_17 ?_
        refine lv_if_ne (tgt := 26) hx hb d_Router_leastFree_18 (by decide) (fun h18 => ?_) (fun h18 => ?_)
        · rw [if_neg h18] at hf
          refine lv_iinc (v := (v2_7 + 1)) (lv' := [(2, .int (v2_7 + 1)), (1, .int r1), (0, .ref (ad (16 + 11 * r + 1)))]) hx hb d_Router_leastFree_26 hl (k := 0) rfl rfl (by decide) rfl (fun ls hl => ?_)
          refine lv_goto (tgt := 7) hx hb d_Router_leastFree_29 (by decide) ?_
          exact ih7 _ _ (lv_sub hl [0, 1, 2] rfl) hf
        · rw [if_pos h18] at hf
          refine lv_bipush (v := 16) hx hb d_Router_leastFree_21 (by decide) ?_
          refine lv_iload_n hx hb d_Router_leastFree_23 rfl (lv_at hl 0 rfl) ?_
          refine lv_iadd hx hb d_Router_leastFree_24 ?_
          cases hf
          exact r_iret hx hb hr hlk d_Router_leastFree_25
  exact L7 _ _ _ (lv_sub hl [0, 1, 2] rfl) hf
def f_Int_bitCount (a : Int32) : Option (Int32) :=
  some ((((((((a - (((a).toUInt32 >>> ((1 : Int32).toUInt32 &&& Int32.toUInt32 31)).toInt32 &&& 1431655765)) &&& 858993459) + ((((a - (((a).toUInt32 >>> ((1 : Int32).toUInt32 &&& Int32.toUInt32 31)).toInt32 &&& 1431655765))).toUInt32 >>> ((2 : Int32).toUInt32 &&& Int32.toUInt32 31)).toInt32 &&& 858993459)) + (((((a - (((a).toUInt32 >>> ((1 : Int32).toUInt32 &&& Int32.toUInt32 31)).toInt32 &&& 1431655765)) &&& 858993459) + ((((a - (((a).toUInt32 >>> ((1 : Int32).toUInt32 &&& Int32.toUInt32 31)).toInt32 &&& 1431655765))).toUInt32 >>> ((2 : Int32).toUInt32 &&& Int32.toUInt32 31)).toInt32 &&& 858993459))).toUInt32 >>> ((4 : Int32).toUInt32 &&& Int32.toUInt32 31)).toInt32) &&& 252645135) + (((((((a - (((a).toUInt32 >>> ((1 : Int32).toUInt32 &&& Int32.toUInt32 31)).toInt32 &&& 1431655765)) &&& 858993459) + ((((a - (((a).toUInt32 >>> ((1 : Int32).toUInt32 &&& Int32.toUInt32 31)).toInt32 &&& 1431655765))).toUInt32 >>> ((2 : Int32).toUInt32 &&& Int32.toUInt32 31)).toInt32 &&& 858993459)) + (((((a - (((a).toUInt32 >>> ((1 : Int32).toUInt32 &&& Int32.toUInt32 31)).toInt32 &&& 1431655765)) &&& 858993459) + ((((a - (((a).toUInt32 >>> ((1 : Int32).toUInt32 &&& Int32.toUInt32 31)).toInt32 &&& 1431655765))).toUInt32 >>> ((2 : Int32).toUInt32 &&& Int32.toUInt32 31)).toInt32 &&& 858993459))).toUInt32 >>> ((4 : Int32).toUInt32 &&& Int32.toUInt32 31)).toInt32) &&& 252645135)).toUInt32 >>> ((8 : Int32).toUInt32 &&& Int32.toUInt32 31)).toInt32) + ((((((((a - (((a).toUInt32 >>> ((1 : Int32).toUInt32 &&& Int32.toUInt32 31)).toInt32 &&& 1431655765)) &&& 858993459) + ((((a - (((a).toUInt32 >>> ((1 : Int32).toUInt32 &&& Int32.toUInt32 31)).toInt32 &&& 1431655765))).toUInt32 >>> ((2 : Int32).toUInt32 &&& Int32.toUInt32 31)).toInt32 &&& 858993459)) + (((((a - (((a).toUInt32 >>> ((1 : Int32).toUInt32 &&& Int32.toUInt32 31)).toInt32 &&& 1431655765)) &&& 858993459) + ((((a - (((a).toUInt32 >>> ((1 : Int32).toUInt32 &&& Int32.toUInt32 31)).toInt32 &&& 1431655765))).toUInt32 >>> ((2 : Int32).toUInt32 &&& Int32.toUInt32 31)).toInt32 &&& 858993459))).toUInt32 >>> ((4 : Int32).toUInt32 &&& Int32.toUInt32 31)).toInt32) &&& 252645135) + (((((((a - (((a).toUInt32 >>> ((1 : Int32).toUInt32 &&& Int32.toUInt32 31)).toInt32 &&& 1431655765)) &&& 858993459) + ((((a - (((a).toUInt32 >>> ((1 : Int32).toUInt32 &&& Int32.toUInt32 31)).toInt32 &&& 1431655765))).toUInt32 >>> ((2 : Int32).toUInt32 &&& Int32.toUInt32 31)).toInt32 &&& 858993459)) + (((((a - (((a).toUInt32 >>> ((1 : Int32).toUInt32 &&& Int32.toUInt32 31)).toInt32 &&& 1431655765)) &&& 858993459) + ((((a - (((a).toUInt32 >>> ((1 : Int32).toUInt32 &&& Int32.toUInt32 31)).toInt32 &&& 1431655765))).toUInt32 >>> ((2 : Int32).toUInt32 &&& Int32.toUInt32 31)).toInt32 &&& 858993459))).toUInt32 >>> ((4 : Int32).toUInt32 &&& Int32.toUInt32 31)).toInt32) &&& 252645135)).toUInt32 >>> ((8 : Int32).toUInt32 &&& Int32.toUInt32 31)).toInt32)).toUInt32 >>> ((16 : Int32).toUInt32 &&& Int32.toUInt32 31)).toInt32) &&& 63)
abbrev rm_Int_bitCount : Room := { frames := 0, cells := 0, slots := 0, locals := 0 }
set_option maxHeartbeats 4000000 in
set_option maxRecDepth 100000 in
theorem c_Int_bitCount {l : Launch} {D : va_G} {n : Nat} {ad : Nat → Nat} {G : Nat → ClassId} {a : Int32}  {M : Mem} {x : Int32} (hf : f_Int_bitCount a = some x) : Met l y_Int_bitCount (wc y_Int_bitCount b_Int_bitCount 1 (some .int)) rm_Int_bitCount (va_Pc [.int a] (cB D n ad G M)) (rd_Q (some (.int x))) 0 0 (fun _ => False) := by
  refine k_met (by decide) (Nat.le_of_ble_eq_true rfl) ?_
  intro p e s m args below meth c S hr hlk hB ls hl
  obtain ⟨hx, hb, hml, hown, hts⟩ := id S
  obtain ⟨hP, hK, hA0⟩ := hB
  have hA := wl_own hA0
  have hl : lv_has ls 1 [(0, .int a)] := hl
  unfold f_Int_bitCount at hf
  refine lv_iload_n hx hb d_Int_bitCount_0 rfl (lv_at hl 0 rfl) ?_
  refine lv_iload_n hx hb d_Int_bitCount_1 rfl (lv_at hl 0 rfl) ?_
  refine lv_iconst (v := 1) hx hb d_Int_bitCount_2 (by decide) ?_
  refine lv_iushr (v := ((a).toUInt32 >>> ((1 : Int32).toUInt32 &&& Int32.toUInt32 31)).toInt32) hx hb d_Int_bitCount_3 rfl ?_
  refine lv_ldcw (v := 1431655765) hx hb hown (hts _ kc_Int_265) d_Int_bitCount_4 ?_
  refine lv_iand hx hb d_Int_bitCount_7 ?_
  refine lv_isub hx hb d_Int_bitCount_8 ?_
  refine lv_istore_n (lv' := [(0, .int (a - (((a).toUInt32 >>> ((1 : Int32).toUInt32 &&& Int32.toUInt32 31)).toInt32 &&& 1431655765)))]) hx hb d_Int_bitCount_9 rfl hl (by decide) rfl (fun ls hl => ?_)
  refine lv_iload_n hx hb d_Int_bitCount_10 rfl (lv_at hl 0 rfl) ?_
  refine lv_ldcw (v := 858993459) hx hb hown (hts _ kc_Int_266) d_Int_bitCount_11 ?_
  refine lv_iand hx hb d_Int_bitCount_14 ?_
  refine lv_iload_n hx hb d_Int_bitCount_15 rfl (lv_at hl 0 rfl) ?_
  refine lv_iconst (v := 2) hx hb d_Int_bitCount_16 (by decide) ?_
  refine lv_iushr (v := (((a - (((a).toUInt32 >>> ((1 : Int32).toUInt32 &&& Int32.toUInt32 31)).toInt32 &&& 1431655765))).toUInt32 >>> ((2 : Int32).toUInt32 &&& Int32.toUInt32 31)).toInt32) hx hb d_Int_bitCount_17 rfl ?_
  refine lv_ldcw (v := 858993459) hx hb hown (hts _ kc_Int_266) d_Int_bitCount_18 ?_
  refine lv_iand hx hb d_Int_bitCount_21 ?_
  refine lv_iadd hx hb d_Int_bitCount_22 ?_
  refine lv_istore_n (lv' := [(0, .int (((a - (((a).toUInt32 >>> ((1 : Int32).toUInt32 &&& Int32.toUInt32 31)).toInt32 &&& 1431655765)) &&& 858993459) + ((((a - (((a).toUInt32 >>> ((1 : Int32).toUInt32 &&& Int32.toUInt32 31)).toInt32 &&& 1431655765))).toUInt32 >>> ((2 : Int32).toUInt32 &&& Int32.toUInt32 31)).toInt32 &&& 858993459)))]) hx hb d_Int_bitCount_23 rfl hl (by decide) rfl (fun ls hl => ?_)
  refine lv_iload_n hx hb d_Int_bitCount_24 rfl (lv_at hl 0 rfl) ?_
  refine lv_iload_n hx hb d_Int_bitCount_25 rfl (lv_at hl 0 rfl) ?_
  refine lv_iconst (v := 4) hx hb d_Int_bitCount_26 (by decide) ?_
  refine lv_iushr (v := (((((a - (((a).toUInt32 >>> ((1 : Int32).toUInt32 &&& Int32.toUInt32 31)).toInt32 &&& 1431655765)) &&& 858993459) + ((((a - (((a).toUInt32 >>> ((1 : Int32).toUInt32 &&& Int32.toUInt32 31)).toInt32 &&& 1431655765))).toUInt32 >>> ((2 : Int32).toUInt32 &&& Int32.toUInt32 31)).toInt32 &&& 858993459))).toUInt32 >>> ((4 : Int32).toUInt32 &&& Int32.toUInt32 31)).toInt32) hx hb d_Int_bitCount_27 rfl ?_
  refine lv_iadd hx hb d_Int_bitCount_28 ?_
  refine lv_ldcw (v := 252645135) hx hb hown (hts _ kc_Int_267) d_Int_bitCount_29 ?_
  refine lv_iand hx hb d_Int_bitCount_32 ?_
  refine lv_istore_n (lv' := [(0, .int (((((a - (((a).toUInt32 >>> ((1 : Int32).toUInt32 &&& Int32.toUInt32 31)).toInt32 &&& 1431655765)) &&& 858993459) + ((((a - (((a).toUInt32 >>> ((1 : Int32).toUInt32 &&& Int32.toUInt32 31)).toInt32 &&& 1431655765))).toUInt32 >>> ((2 : Int32).toUInt32 &&& Int32.toUInt32 31)).toInt32 &&& 858993459)) + (((((a - (((a).toUInt32 >>> ((1 : Int32).toUInt32 &&& Int32.toUInt32 31)).toInt32 &&& 1431655765)) &&& 858993459) + ((((a - (((a).toUInt32 >>> ((1 : Int32).toUInt32 &&& Int32.toUInt32 31)).toInt32 &&& 1431655765))).toUInt32 >>> ((2 : Int32).toUInt32 &&& Int32.toUInt32 31)).toInt32 &&& 858993459))).toUInt32 >>> ((4 : Int32).toUInt32 &&& Int32.toUInt32 31)).toInt32) &&& 252645135))]) hx hb d_Int_bitCount_33 rfl hl (by decide) rfl (fun ls hl => ?_)
  refine lv_iload_n hx hb d_Int_bitCount_34 rfl (lv_at hl 0 rfl) ?_
  refine lv_iload_n hx hb d_Int_bitCount_35 rfl (lv_at hl 0 rfl) ?_
  refine lv_bipush (v := 8) hx hb d_Int_bitCount_36 (by decide) ?_
  refine lv_iushr (v := (((((((a - (((a).toUInt32 >>> ((1 : Int32).toUInt32 &&& Int32.toUInt32 31)).toInt32 &&& 1431655765)) &&& 858993459) + ((((a - (((a).toUInt32 >>> ((1 : Int32).toUInt32 &&& Int32.toUInt32 31)).toInt32 &&& 1431655765))).toUInt32 >>> ((2 : Int32).toUInt32 &&& Int32.toUInt32 31)).toInt32 &&& 858993459)) + (((((a - (((a).toUInt32 >>> ((1 : Int32).toUInt32 &&& Int32.toUInt32 31)).toInt32 &&& 1431655765)) &&& 858993459) + ((((a - (((a).toUInt32 >>> ((1 : Int32).toUInt32 &&& Int32.toUInt32 31)).toInt32 &&& 1431655765))).toUInt32 >>> ((2 : Int32).toUInt32 &&& Int32.toUInt32 31)).toInt32 &&& 858993459))).toUInt32 >>> ((4 : Int32).toUInt32 &&& Int32.toUInt32 31)).toInt32) &&& 252645135)).toUInt32 >>> ((8 : Int32).toUInt32 &&& Int32.toUInt32 31)).toInt32) hx hb d_Int_bitCount_38 rfl ?_
  refine lv_iadd hx hb d_Int_bitCount_39 ?_
  refine lv_istore_n (lv' := [(0, .int ((((((a - (((a).toUInt32 >>> ((1 : Int32).toUInt32 &&& Int32.toUInt32 31)).toInt32 &&& 1431655765)) &&& 858993459) + ((((a - (((a).toUInt32 >>> ((1 : Int32).toUInt32 &&& Int32.toUInt32 31)).toInt32 &&& 1431655765))).toUInt32 >>> ((2 : Int32).toUInt32 &&& Int32.toUInt32 31)).toInt32 &&& 858993459)) + (((((a - (((a).toUInt32 >>> ((1 : Int32).toUInt32 &&& Int32.toUInt32 31)).toInt32 &&& 1431655765)) &&& 858993459) + ((((a - (((a).toUInt32 >>> ((1 : Int32).toUInt32 &&& Int32.toUInt32 31)).toInt32 &&& 1431655765))).toUInt32 >>> ((2 : Int32).toUInt32 &&& Int32.toUInt32 31)).toInt32 &&& 858993459))).toUInt32 >>> ((4 : Int32).toUInt32 &&& Int32.toUInt32 31)).toInt32) &&& 252645135) + (((((((a - (((a).toUInt32 >>> ((1 : Int32).toUInt32 &&& Int32.toUInt32 31)).toInt32 &&& 1431655765)) &&& 858993459) + ((((a - (((a).toUInt32 >>> ((1 : Int32).toUInt32 &&& Int32.toUInt32 31)).toInt32 &&& 1431655765))).toUInt32 >>> ((2 : Int32).toUInt32 &&& Int32.toUInt32 31)).toInt32 &&& 858993459)) + (((((a - (((a).toUInt32 >>> ((1 : Int32).toUInt32 &&& Int32.toUInt32 31)).toInt32 &&& 1431655765)) &&& 858993459) + ((((a - (((a).toUInt32 >>> ((1 : Int32).toUInt32 &&& Int32.toUInt32 31)).toInt32 &&& 1431655765))).toUInt32 >>> ((2 : Int32).toUInt32 &&& Int32.toUInt32 31)).toInt32 &&& 858993459))).toUInt32 >>> ((4 : Int32).toUInt32 &&& Int32.toUInt32 31)).toInt32) &&& 252645135)).toUInt32 >>> ((8 : Int32).toUInt32 &&& Int32.toUInt32 31)).toInt32))]) hx hb d_Int_bitCount_40 rfl hl (by decide) rfl (fun ls hl => ?_)
  refine lv_iload_n hx hb d_Int_bitCount_41 rfl (lv_at hl 0 rfl) ?_
  refine lv_iload_n hx hb d_Int_bitCount_42 rfl (lv_at hl 0 rfl) ?_
  refine lv_bipush (v := 16) hx hb d_Int_bitCount_43 (by decide) ?_
  refine lv_iushr (v := ((((((((a - (((a).toUInt32 >>> ((1 : Int32).toUInt32 &&& Int32.toUInt32 31)).toInt32 &&& 1431655765)) &&& 858993459) + ((((a - (((a).toUInt32 >>> ((1 : Int32).toUInt32 &&& Int32.toUInt32 31)).toInt32 &&& 1431655765))).toUInt32 >>> ((2 : Int32).toUInt32 &&& Int32.toUInt32 31)).toInt32 &&& 858993459)) + (((((a - (((a).toUInt32 >>> ((1 : Int32).toUInt32 &&& Int32.toUInt32 31)).toInt32 &&& 1431655765)) &&& 858993459) + ((((a - (((a).toUInt32 >>> ((1 : Int32).toUInt32 &&& Int32.toUInt32 31)).toInt32 &&& 1431655765))).toUInt32 >>> ((2 : Int32).toUInt32 &&& Int32.toUInt32 31)).toInt32 &&& 858993459))).toUInt32 >>> ((4 : Int32).toUInt32 &&& Int32.toUInt32 31)).toInt32) &&& 252645135) + (((((((a - (((a).toUInt32 >>> ((1 : Int32).toUInt32 &&& Int32.toUInt32 31)).toInt32 &&& 1431655765)) &&& 858993459) + ((((a - (((a).toUInt32 >>> ((1 : Int32).toUInt32 &&& Int32.toUInt32 31)).toInt32 &&& 1431655765))).toUInt32 >>> ((2 : Int32).toUInt32 &&& Int32.toUInt32 31)).toInt32 &&& 858993459)) + (((((a - (((a).toUInt32 >>> ((1 : Int32).toUInt32 &&& Int32.toUInt32 31)).toInt32 &&& 1431655765)) &&& 858993459) + ((((a - (((a).toUInt32 >>> ((1 : Int32).toUInt32 &&& Int32.toUInt32 31)).toInt32 &&& 1431655765))).toUInt32 >>> ((2 : Int32).toUInt32 &&& Int32.toUInt32 31)).toInt32 &&& 858993459))).toUInt32 >>> ((4 : Int32).toUInt32 &&& Int32.toUInt32 31)).toInt32) &&& 252645135)).toUInt32 >>> ((8 : Int32).toUInt32 &&& Int32.toUInt32 31)).toInt32)).toUInt32 >>> ((16 : Int32).toUInt32 &&& Int32.toUInt32 31)).toInt32) hx hb d_Int_bitCount_45 rfl ?_
  refine lv_iadd hx hb d_Int_bitCount_46 ?_
  refine lv_istore_n (lv' := [(0, .int (((((((a - (((a).toUInt32 >>> ((1 : Int32).toUInt32 &&& Int32.toUInt32 31)).toInt32 &&& 1431655765)) &&& 858993459) + ((((a - (((a).toUInt32 >>> ((1 : Int32).toUInt32 &&& Int32.toUInt32 31)).toInt32 &&& 1431655765))).toUInt32 >>> ((2 : Int32).toUInt32 &&& Int32.toUInt32 31)).toInt32 &&& 858993459)) + (((((a - (((a).toUInt32 >>> ((1 : Int32).toUInt32 &&& Int32.toUInt32 31)).toInt32 &&& 1431655765)) &&& 858993459) + ((((a - (((a).toUInt32 >>> ((1 : Int32).toUInt32 &&& Int32.toUInt32 31)).toInt32 &&& 1431655765))).toUInt32 >>> ((2 : Int32).toUInt32 &&& Int32.toUInt32 31)).toInt32 &&& 858993459))).toUInt32 >>> ((4 : Int32).toUInt32 &&& Int32.toUInt32 31)).toInt32) &&& 252645135) + (((((((a - (((a).toUInt32 >>> ((1 : Int32).toUInt32 &&& Int32.toUInt32 31)).toInt32 &&& 1431655765)) &&& 858993459) + ((((a - (((a).toUInt32 >>> ((1 : Int32).toUInt32 &&& Int32.toUInt32 31)).toInt32 &&& 1431655765))).toUInt32 >>> ((2 : Int32).toUInt32 &&& Int32.toUInt32 31)).toInt32 &&& 858993459)) + (((((a - (((a).toUInt32 >>> ((1 : Int32).toUInt32 &&& Int32.toUInt32 31)).toInt32 &&& 1431655765)) &&& 858993459) + ((((a - (((a).toUInt32 >>> ((1 : Int32).toUInt32 &&& Int32.toUInt32 31)).toInt32 &&& 1431655765))).toUInt32 >>> ((2 : Int32).toUInt32 &&& Int32.toUInt32 31)).toInt32 &&& 858993459))).toUInt32 >>> ((4 : Int32).toUInt32 &&& Int32.toUInt32 31)).toInt32) &&& 252645135)).toUInt32 >>> ((8 : Int32).toUInt32 &&& Int32.toUInt32 31)).toInt32) + ((((((((a - (((a).toUInt32 >>> ((1 : Int32).toUInt32 &&& Int32.toUInt32 31)).toInt32 &&& 1431655765)) &&& 858993459) + ((((a - (((a).toUInt32 >>> ((1 : Int32).toUInt32 &&& Int32.toUInt32 31)).toInt32 &&& 1431655765))).toUInt32 >>> ((2 : Int32).toUInt32 &&& Int32.toUInt32 31)).toInt32 &&& 858993459)) + (((((a - (((a).toUInt32 >>> ((1 : Int32).toUInt32 &&& Int32.toUInt32 31)).toInt32 &&& 1431655765)) &&& 858993459) + ((((a - (((a).toUInt32 >>> ((1 : Int32).toUInt32 &&& Int32.toUInt32 31)).toInt32 &&& 1431655765))).toUInt32 >>> ((2 : Int32).toUInt32 &&& Int32.toUInt32 31)).toInt32 &&& 858993459))).toUInt32 >>> ((4 : Int32).toUInt32 &&& Int32.toUInt32 31)).toInt32) &&& 252645135) + (((((((a - (((a).toUInt32 >>> ((1 : Int32).toUInt32 &&& Int32.toUInt32 31)).toInt32 &&& 1431655765)) &&& 858993459) + ((((a - (((a).toUInt32 >>> ((1 : Int32).toUInt32 &&& Int32.toUInt32 31)).toInt32 &&& 1431655765))).toUInt32 >>> ((2 : Int32).toUInt32 &&& Int32.toUInt32 31)).toInt32 &&& 858993459)) + (((((a - (((a).toUInt32 >>> ((1 : Int32).toUInt32 &&& Int32.toUInt32 31)).toInt32 &&& 1431655765)) &&& 858993459) + ((((a - (((a).toUInt32 >>> ((1 : Int32).toUInt32 &&& Int32.toUInt32 31)).toInt32 &&& 1431655765))).toUInt32 >>> ((2 : Int32).toUInt32 &&& Int32.toUInt32 31)).toInt32 &&& 858993459))).toUInt32 >>> ((4 : Int32).toUInt32 &&& Int32.toUInt32 31)).toInt32) &&& 252645135)).toUInt32 >>> ((8 : Int32).toUInt32 &&& Int32.toUInt32 31)).toInt32)).toUInt32 >>> ((16 : Int32).toUInt32 &&& Int32.toUInt32 31)).toInt32))]) hx hb d_Int_bitCount_47 rfl hl (by decide) rfl (fun ls hl => ?_)
  refine lv_iload_n hx hb d_Int_bitCount_48 rfl (lv_at hl 0 rfl) ?_
  refine lv_bipush (v := 63) hx hb d_Int_bitCount_49 (by decide) ?_
  refine lv_iand hx hb d_Int_bitCount_51 ?_
  cases hf
  exact r_iret hx hb hr hlk d_Int_bitCount_52
def f_Router_takenCount (n : Nat) (r : Nat) (M : Mem) : Option (Int32) :=
  (f_Router_takenBits n r M).bind fun r1 => (f_Int_bitCount r1).bind fun r4 => some r4
abbrev rm_Router_takenCount : Room := { frames := 1, cells := 0, slots := 0, locals := 22 }
set_option maxHeartbeats 4000000 in
set_option maxRecDepth 100000 in
theorem c_Router_takenCount {l : Launch} {D : va_G} {n : Nat} {ad : Nat → Nat} {G : Nat → ClassId} {r : Nat} (hp_r : r < n) {M : Mem} {x : Int32} (hf : f_Router_takenCount n r M = some x) : Met l y_Router_takenCount (wc y_Router_takenCount b_Router_takenCount 1 (some .int)) rm_Router_takenCount (va_Pc [.ref (ad (16 + 11 * r + 1))] (cB D n ad G M)) (rd_Q (some (.int x))) 0 0 (fun _ => False) := by
  refine k_met (by decide) (Nat.le_of_ble_eq_true rfl) ?_
  intro p e s m args below meth c S hr hlk hB ls hl
  obtain ⟨hx, hb, hml, hown, hts⟩ := id S
  obtain ⟨hP, hK, hA0⟩ := hB
  have hA := wl_own hA0
  have hl : lv_has ls 1 [(0, .ref (ad (16 + 11 * r + 1)))] := hl
  unfold f_Router_takenCount at hf
  refine lv_aload_n hx hb d_Router_takenCount_0 rfl (lv_at hl 0 rfl) ?_
  obtain ⟨r1, hc1, hf⟩ := ob hf
  refine k_rdi (k_vir S (c_Router_takenBits (l := l) (D := D) (n := n) (ad := ad) (G := G) hp_r hc1) g_Router_23 hd_Router_takenBits ⟨rfl, rfl⟩ ⟨Nat.le_of_ble_eq_true rfl, Nat.le_of_ble_eq_true rfl⟩ wl_blind (va_recv hK hP rfl (wl_to (RT_lt hp_r) (RT_at hp_r))) (wl_pre hP hK hA) rfl hl.1 rfl (Nat.le_of_ble_eq_true rfl) d_Router_takenCount_1 (Nat.zero_le _) (Nat.zero_le _)) ?_
  obtain ⟨r4, hc4, hf⟩ := ob hf
  refine k_rdi (k_sta S (c_Int_bitCount (l := l) (D := D) (n := n) (ad := ad) (G := G) hc4) g_Router_27 hd_Int_bitCount ⟨rfl, rfl⟩ ⟨Nat.le_of_ble_eq_true rfl, Nat.le_of_ble_eq_true rfl⟩ wl_blind (wl_pre hP hK hA) rfl hl.1 rfl (Nat.le_of_ble_eq_true rfl) d_Router_takenCount_4 (Nat.zero_le _) (Nat.zero_le _)) ?_
  cases hf
  exact r_iret hx hb hr hlk d_Router_takenCount_7
def f_Router_awaitRelease (n : Nat) (r : Nat) (a : Int32) (b : Int32) (M : Mem) : Option (Mem) :=
  (ix (a - 16) 8).bind fun j9 => (ix (a - 16) 8).bind fun j14 => some (mset M 20 r 0 j14 ((M 20 r 0 j9) ||| (1 <<< (b &&& 31))))
abbrev rm_Router_awaitRelease : Room := { frames := 0, cells := 0, slots := 0, locals := 0 }
set_option maxHeartbeats 4000000 in
set_option maxRecDepth 100000 in
theorem c_Router_awaitRelease {l : Launch} {D : va_G} {n : Nat} {ad : Nat → Nat} {G : Nat → ClassId} {r : Nat} {a : Int32} {b : Int32} (hp_r : r < n) {M : Mem} {x : Mem} (hf : f_Router_awaitRelease n r a b M = some x) : Met l y_Router_awaitRelease (wc y_Router_awaitRelease b_Router_awaitRelease 3 (none)) rm_Router_awaitRelease (va_Pc [.ref (ad (16 + 11 * r + 1)), .int a, .int b] (cB D n ad G M)) (wr_Q (none) D cls (cK n) ad (cE n ad G x)) 0 0 (wl_A (cK n) ad) := by
  refine k_met (by decide) (Nat.le_of_ble_eq_true rfl) ?_
  intro p e s m args below meth c S hr hlk hB ls hl
  obtain ⟨hx, hb, hml, hown, hts⟩ := id S
  obtain ⟨hP, hK, hA0⟩ := hB
  have hA := wl_own hA0
  have hl : lv_has ls 3 [(0, .ref (ad (16 + 11 * r + 1))), (1, .int a), (2, .int b)] := hl
  have hS : va_S (wl_A (cK n) ad) s.heap s.heap [] := va_S.rf
  unfold f_Router_awaitRelease at hf
  refine lv_aload_n hx hb d_Router_awaitRelease_0 rfl (lv_at hl 0 rfl) ?_
  refine va_get (D := D) (ci := 3) (v := .ref (ad (16 + 11 * r + 4))) (C := R_Router) (T := F_Router) (N := 3) hx hb hts in_Router hown hK hP (16 + 11 * r + 1) (wl_to (RT_lt hp_r) (RT_at hp_r)) rfl 2 (by decide) (hts _ fl_Router_20) (fun _ h => h) rfl d_Router_awaitRelease_1 ?_
  refine lv_iload_n hx hb d_Router_awaitRelease_4 rfl (lv_at hl 1 rfl) ?_
  refine lv_bipush (v := 16) hx hb d_Router_awaitRelease_5 (by decide) ?_
  refine lv_isub hx hb d_Router_awaitRelease_7 ?_
  refine lv_dup2_11 hx hb d_Router_awaitRelease_8 rfl rfl ?_
  obtain ⟨j9, hj9, hf⟩ := ob hf
  refine k_iald hx hb hK hP (16 + 11 * r + 4) 0 (AW_lt hp_r) (AW_at hp_r) rfl hj9 d_Router_awaitRelease_9 ?_
  refine lv_iconst (v := 1) hx hb d_Router_awaitRelease_10 (by decide) ?_
  refine lv_iload_n hx hb d_Router_awaitRelease_11 rfl (lv_at hl 2 rfl) ?_
  refine lv_ishl hx hb d_Router_awaitRelease_12 ?_
  refine lv_ior hx hb d_Router_awaitRelease_13 ?_
  obtain ⟨j14, hj14, hf⟩ := ob hf
  refine m_iast (x := ((M 20 r 0 j9) ||| (1 <<< (b &&& 31)))) hx hb hK hP hA hS cJ (16 + 11 * r + 4) 0 (AW_lt hp_r) (AW_tg hp_r) (fun f => AW_row f hp_r) rfl hj14 d_Router_awaitRelease_14 (fun H locs hP hS => ?_)
  cases hf
  exact w_vret hx hb hr hlk hP hS d_Router_awaitRelease_15
def f_Router_endRelease (n : Nat) (r : Nat) (a : Int32) (b : Int32) (M : Mem) : Option (Mem) :=
  (ix (a - 16) 8).bind fun j9 => (ix (a - 16) 8).bind fun j16 => some (mset M 20 r 0 j16 ((M 20 r 0 j9) &&& ((1 <<< (b &&& 31)) ^^^ (-1))))
abbrev rm_Router_endRelease : Room := { frames := 0, cells := 0, slots := 0, locals := 0 }
set_option maxHeartbeats 4000000 in
set_option maxRecDepth 100000 in
theorem c_Router_endRelease {l : Launch} {D : va_G} {n : Nat} {ad : Nat → Nat} {G : Nat → ClassId} {r : Nat} {a : Int32} {b : Int32} (hp_r : r < n) {M : Mem} {x : Mem} (hf : f_Router_endRelease n r a b M = some x) : Met l y_Router_endRelease (wc y_Router_endRelease b_Router_endRelease 3 (none)) rm_Router_endRelease (va_Pc [.ref (ad (16 + 11 * r + 1)), .int a, .int b] (cB D n ad G M)) (wr_Q (none) D cls (cK n) ad (cE n ad G x)) 0 0 (wl_A (cK n) ad) := by
  refine k_met (by decide) (Nat.le_of_ble_eq_true rfl) ?_
  intro p e s m args below meth c S hr hlk hB ls hl
  obtain ⟨hx, hb, hml, hown, hts⟩ := id S
  obtain ⟨hP, hK, hA0⟩ := hB
  have hA := wl_own hA0
  have hl : lv_has ls 3 [(0, .ref (ad (16 + 11 * r + 1))), (1, .int a), (2, .int b)] := hl
  have hS : va_S (wl_A (cK n) ad) s.heap s.heap [] := va_S.rf
  unfold f_Router_endRelease at hf
  refine lv_aload_n hx hb d_Router_endRelease_0 rfl (lv_at hl 0 rfl) ?_
  refine va_get (D := D) (ci := 3) (v := .ref (ad (16 + 11 * r + 4))) (C := R_Router) (T := F_Router) (N := 3) hx hb hts in_Router hown hK hP (16 + 11 * r + 1) (wl_to (RT_lt hp_r) (RT_at hp_r)) rfl 2 (by decide) (hts _ fl_Router_20) (fun _ h => h) rfl d_Router_endRelease_1 ?_
  refine lv_iload_n hx hb d_Router_endRelease_4 rfl (lv_at hl 1 rfl) ?_
  refine lv_bipush (v := 16) hx hb d_Router_endRelease_5 (by decide) ?_
  refine lv_isub hx hb d_Router_endRelease_7 ?_
  refine lv_dup2_11 hx hb d_Router_endRelease_8 rfl rfl ?_
  obtain ⟨j9, hj9, hf⟩ := ob hf
  refine k_iald hx hb hK hP (16 + 11 * r + 4) 0 (AW_lt hp_r) (AW_at hp_r) rfl hj9 d_Router_endRelease_9 ?_
  refine lv_iconst (v := 1) hx hb d_Router_endRelease_10 (by decide) ?_
  refine lv_iload_n hx hb d_Router_endRelease_11 rfl (lv_at hl 2 rfl) ?_
  refine lv_ishl hx hb d_Router_endRelease_12 ?_
  refine lv_iconst (v := (-1)) hx hb d_Router_endRelease_13 (by decide) ?_
  refine lv_ixor hx hb d_Router_endRelease_14 ?_
  refine lv_iand hx hb d_Router_endRelease_15 ?_
  obtain ⟨j16, hj16, hf⟩ := ob hf
  refine m_iast (x := ((M 20 r 0 j9) &&& ((1 <<< (b &&& 31)) ^^^ (-1)))) hx hb hK hP hA hS cJ (16 + 11 * r + 4) 0 (AW_lt hp_r) (AW_tg hp_r) (fun f => AW_row f hp_r) rfl hj16 d_Router_endRelease_16 (fun H locs hP hS => ?_)
  cases hf
  exact w_vret hx hb hr hlk hP hS d_Router_endRelease_17
def f_Router_toldBy (n : Nat) (r : Nat) (a : Int32) (b : Int32) (M : Mem) : Option (Int32) :=
  (ix a 6).bind fun j5 => (ix b 4).bind fun j7 => some (M 21 r j5 j7)
abbrev rm_Router_toldBy : Room := { frames := 0, cells := 0, slots := 0, locals := 0 }
set_option maxHeartbeats 4000000 in
set_option maxRecDepth 100000 in
theorem c_Router_toldBy {l : Launch} {D : va_G} {n : Nat} {ad : Nat → Nat} {G : Nat → ClassId} {r : Nat} {a : Int32} {b : Int32} (hp_r : r < n) {M : Mem} {x : Int32} (hf : f_Router_toldBy n r a b M = some x) : Met l y_Router_toldBy (wc y_Router_toldBy b_Router_toldBy 3 (some .int)) rm_Router_toldBy (va_Pc [.ref (ad (16 + 11 * r + 1)), .int a, .int b] (cB D n ad G M)) (rd_Q (some (.int x))) 0 0 (fun _ => False) := by
  refine k_met (by decide) (Nat.le_of_ble_eq_true rfl) ?_
  intro p e s m args below meth c S hr hlk hB ls hl
  obtain ⟨hx, hb, hml, hown, hts⟩ := id S
  obtain ⟨hP, hK, hA0⟩ := hB
  have hA := wl_own hA0
  have hl : lv_has ls 3 [(0, .ref (ad (16 + 11 * r + 1))), (1, .int a), (2, .int b)] := hl
  unfold f_Router_toldBy at hf
  refine lv_aload_n hx hb d_Router_toldBy_0 rfl (lv_at hl 0 rfl) ?_
  refine va_get (D := D) (ci := 3) (v := .ref (ad (16 + 11 * r + 3))) (C := R_Router) (T := F_Router) (N := 3) hx hb hts in_Router hown hK hP (16 + 11 * r + 1) (wl_to (RT_lt hp_r) (RT_at hp_r)) rfl 1 (by decide) (hts _ fl_Router_17) (fun _ h => h) rfl d_Router_toldBy_1 ?_
  refine lv_iload_n hx hb d_Router_toldBy_4 rfl (lv_at hl 1 rfl) ?_
  obtain ⟨j5, hj5, hf⟩ := ob hf
  refine k_rald hx hb hK hP (16 + 11 * r + 3) 1 (TO_lt hp_r) (TO_at hp_r) rfl hj5 rfl d_Router_toldBy_5 ?_
  refine lv_iload_n hx hb d_Router_toldBy_6 rfl (lv_at hl 2 rfl) ?_
  obtain ⟨j7, hj7, hf⟩ := ob hf
  refine k_iald hx hb hK hP (16 + 11 * r + (j5 + 5)) 0 (TD_lt hp_r (ix_lt hj5)) (TD_at hp_r (ix_lt hj5)) rfl hj7 d_Router_toldBy_7 ?_
  cases hf
  exact r_iret hx hb hr hlk d_Router_toldBy_8
def f_Router_hear (n : Nat) (r : Nat) (a : Int32) (b : Int32) (z : Int32) (M : Mem) : Option (Mem) :=
  (ix a 6).bind fun j5 => (ix b 4).bind fun j8 => some (mset M 21 r j5 j8 z)
abbrev rm_Router_hear : Room := { frames := 0, cells := 0, slots := 0, locals := 0 }
set_option maxHeartbeats 4000000 in
set_option maxRecDepth 100000 in
theorem c_Router_hear {l : Launch} {D : va_G} {n : Nat} {ad : Nat → Nat} {G : Nat → ClassId} {r : Nat} {a : Int32} {b : Int32} {z : Int32} (hp_r : r < n) {M : Mem} {x : Mem} (hf : f_Router_hear n r a b z M = some x) : Met l y_Router_hear (wc y_Router_hear b_Router_hear 4 (none)) rm_Router_hear (va_Pc [.ref (ad (16 + 11 * r + 1)), .int a, .int b, .int z] (cB D n ad G M)) (wr_Q (none) D cls (cK n) ad (cE n ad G x)) 0 0 (wl_A (cK n) ad) := by
  refine k_met (by decide) (Nat.le_of_ble_eq_true rfl) ?_
  intro p e s m args below meth c S hr hlk hB ls hl
  obtain ⟨hx, hb, hml, hown, hts⟩ := id S
  obtain ⟨hP, hK, hA0⟩ := hB
  have hA := wl_own hA0
  have hl : lv_has ls 4 [(0, .ref (ad (16 + 11 * r + 1))), (1, .int a), (2, .int b), (3, .int z)] := hl
  have hS : va_S (wl_A (cK n) ad) s.heap s.heap [] := va_S.rf
  unfold f_Router_hear at hf
  refine lv_aload_n hx hb d_Router_hear_0 rfl (lv_at hl 0 rfl) ?_
  refine va_get (D := D) (ci := 3) (v := .ref (ad (16 + 11 * r + 3))) (C := R_Router) (T := F_Router) (N := 3) hx hb hts in_Router hown hK hP (16 + 11 * r + 1) (wl_to (RT_lt hp_r) (RT_at hp_r)) rfl 1 (by decide) (hts _ fl_Router_17) (fun _ h => h) rfl d_Router_hear_1 ?_
  refine lv_iload_n hx hb d_Router_hear_4 rfl (lv_at hl 1 rfl) ?_
  obtain ⟨j5, hj5, hf⟩ := ob hf
  refine k_rald hx hb hK hP (16 + 11 * r + 3) 1 (TO_lt hp_r) (TO_at hp_r) rfl hj5 rfl d_Router_hear_5 ?_
  refine lv_iload_n hx hb d_Router_hear_6 rfl (lv_at hl 2 rfl) ?_
  refine lv_iload_n hx hb d_Router_hear_7 rfl (lv_at hl 3 rfl) ?_
  obtain ⟨j8, hj8, hf⟩ := ob hf
  refine m_iast (x := z) hx hb hK hP hA hS cJ (16 + 11 * r + (j5 + 5)) 0 (TD_lt hp_r (ix_lt hj5)) (TD_tg hp_r (ix_lt hj5)) (fun f => TD_row f hp_r (ix_lt hj5)) rfl hj8 d_Router_hear_8 (fun H locs hP hS => ?_)
  cases hf
  exact w_vret hx hb hr hlk hP hS d_Router_hear_9
def f_Router_unhear (n : Nat) (r : Nat) (a : Int32) (b : Int32) (z : Int32) (M : Mem) : Option (Mem) :=
  (ix a 6).bind fun j5 => (ix b 4).bind fun j7 => if (M 21 r j5 j7) = z then ((ix a 6).bind fun j17 => (ix b 4).bind fun j20 => some (mset M 21 r j17 j20 0)) else (some M)
abbrev rm_Router_unhear : Room := { frames := 0, cells := 0, slots := 0, locals := 0 }
set_option maxHeartbeats 4000000 in
set_option maxRecDepth 100000 in
theorem c_Router_unhear {l : Launch} {D : va_G} {n : Nat} {ad : Nat → Nat} {G : Nat → ClassId} {r : Nat} {a : Int32} {b : Int32} {z : Int32} (hp_r : r < n) {M : Mem} {x : Mem} (hf : f_Router_unhear n r a b z M = some x) : Met l y_Router_unhear (wc y_Router_unhear b_Router_unhear 4 (none)) rm_Router_unhear (va_Pc [.ref (ad (16 + 11 * r + 1)), .int a, .int b, .int z] (cB D n ad G M)) (wr_Q (none) D cls (cK n) ad (cE n ad G x)) 0 0 (wl_A (cK n) ad) := by
  refine k_met (by decide) (Nat.le_of_ble_eq_true rfl) ?_
  intro p e s m args below meth c S hr hlk hB ls hl
  obtain ⟨hx, hb, hml, hown, hts⟩ := id S
  obtain ⟨hP, hK, hA0⟩ := hB
  have hA := wl_own hA0
  have hl : lv_has ls 4 [(0, .ref (ad (16 + 11 * r + 1))), (1, .int a), (2, .int b), (3, .int z)] := hl
  have hS : va_S (wl_A (cK n) ad) s.heap s.heap [] := va_S.rf
  unfold f_Router_unhear at hf
  refine lv_aload_n hx hb d_Router_unhear_0 rfl (lv_at hl 0 rfl) ?_
  refine va_get (D := D) (ci := 3) (v := .ref (ad (16 + 11 * r + 3))) (C := R_Router) (T := F_Router) (N := 3) hx hb hts in_Router hown hK hP (16 + 11 * r + 1) (wl_to (RT_lt hp_r) (RT_at hp_r)) rfl 1 (by decide) (hts _ fl_Router_17) (fun _ h => h) rfl d_Router_unhear_1 ?_
  refine lv_iload_n hx hb d_Router_unhear_4 rfl (lv_at hl 1 rfl) ?_
  obtain ⟨j5, hj5, hf⟩ := ob hf
  refine k_rald hx hb hK hP (16 + 11 * r + 3) 1 (TO_lt hp_r) (TO_at hp_r) rfl hj5 rfl d_Router_unhear_5 ?_
  refine lv_iload_n hx hb d_Router_unhear_6 rfl (lv_at hl 2 rfl) ?_
  obtain ⟨j7, hj7, hf⟩ := ob hf
  refine k_iald hx hb hK hP (16 + 11 * r + (j5 + 5)) 0 (TD_lt hp_r (ix_lt hj5)) (TD_at hp_r (ix_lt hj5)) rfl hj7 d_Router_unhear_7 ?_
  refine lv_iload_n hx hb d_Router_unhear_8 rfl (lv_at hl 3 rfl) ?_
  refine lv_icmp_ne (tgt := 21) hx hb d_Router_unhear_9 (by decide) (fun h9 => ?_) (fun h9 => ?_)
  · rw [if_neg h9] at hf
    cases hf
    exact w_vret hx hb hr hlk hP hS d_Router_unhear_21
  · rw [if_pos h9] at hf
    refine lv_aload_n hx hb d_Router_unhear_12 rfl (lv_at hl 0 rfl) ?_
    refine va_get (D := D) (ci := 3) (v := .ref (ad (16 + 11 * r + 3))) (C := R_Router) (T := F_Router) (N := 3) hx hb hts in_Router hown hK hP (16 + 11 * r + 1) (wl_to (RT_lt hp_r) (RT_at hp_r)) rfl 1 (by decide) (hts _ fl_Router_17) (fun _ h => h) rfl d_Router_unhear_13 ?_
    refine lv_iload_n hx hb d_Router_unhear_16 rfl (lv_at hl 1 rfl) ?_
    obtain ⟨j17, hj17, hf⟩ := ob hf
    refine k_rald hx hb hK hP (16 + 11 * r + 3) 1 (TO_lt hp_r) (TO_at hp_r) rfl hj17 rfl d_Router_unhear_17 ?_
    refine lv_iload_n hx hb d_Router_unhear_18 rfl (lv_at hl 2 rfl) ?_
    refine lv_iconst (v := 0) hx hb d_Router_unhear_19 (by decide) ?_
    obtain ⟨j20, hj20, hf⟩ := ob hf
    refine m_iast (x := 0) hx hb hK hP hA hS cJ (16 + 11 * r + (j17 + 5)) 0 (TD_lt hp_r (ix_lt hj17)) (TD_tg hp_r (ix_lt hj17)) (fun f => TD_row f hp_r (ix_lt hj17)) rfl hj20 d_Router_unhear_20 (fun H locs hP hS => ?_)
    cases hf
    exact w_vret hx hb hr hlk hP hS d_Router_unhear_21
def f_Router_forget_12 (n : Nat) (r : Nat) (a : Int32) : Nat → Int32 → Mem → Option (Mem)
  | 0, _, _ => none
  | k12 + 1, v2_12, N12 =>
    if 8 ≤ v2_12 then (some N12) else ((f_Router_endRelease n r (16 + v2_12) a N12).bind fun r24 => f_Router_forget_12 n r a k12 (v2_12 + 1) r24)
def f_Router_forget (n : Nat) (r : Nat) (a : Int32) (M : Mem) : Option (Mem) :=
  (ix a 6).bind fun j5 => (f_Arr_fillT n r j5 0 M).bind fun r7 => f_Router_forget_12 n r a 1000 0 r7
abbrev rm_Router_forget : Room := { frames := 1, cells := 0, slots := 0, locals := 23 }
set_option maxHeartbeats 4000000 in
set_option maxRecDepth 100000 in
theorem c_Router_forget {l : Launch} {D : va_G} {n : Nat} {ad : Nat → Nat} {G : Nat → ClassId} {r : Nat} {a : Int32} (hp_r : r < n) {M : Mem} {x : Mem} (hf : f_Router_forget n r a M = some x) : Met l y_Router_forget (wc y_Router_forget b_Router_forget 3 (none)) rm_Router_forget (va_Pc [.ref (ad (16 + 11 * r + 1)), .int a] (cB D n ad G M)) (wr_Q (none) D cls (cK n) ad (cE n ad G x)) 0 0 (wl_A (cK n) ad) := by
  refine k_met (by decide) (Nat.le_of_ble_eq_true rfl) ?_
  intro p e s m args below meth c S hr hlk hB ls hl
  obtain ⟨hx, hb, hml, hown, hts⟩ := id S
  obtain ⟨hP, hK, hA0⟩ := hB
  have hA := wl_own hA0
  have hl : lv_has ls 3 [(0, .ref (ad (16 + 11 * r + 1))), (1, .int a)] := hl
  have hS : va_S (wl_A (cK n) ad) s.heap s.heap [] := va_S.rf
  unfold f_Router_forget at hf
  refine lv_aload_n hx hb d_Router_forget_0 rfl (lv_at hl 0 rfl) ?_
  refine va_get (D := D) (ci := 3) (v := .ref (ad (16 + 11 * r + 3))) (C := R_Router) (T := F_Router) (N := 3) hx hb hts in_Router hown hK hP (16 + 11 * r + 1) (wl_to (RT_lt hp_r) (RT_at hp_r)) rfl 1 (by decide) (hts _ fl_Router_17) (fun _ h => h) rfl d_Router_forget_1 ?_
  refine lv_iload_n hx hb d_Router_forget_4 rfl (lv_at hl 1 rfl) ?_
  obtain ⟨j5, hj5, hf⟩ := ob hf
  refine k_rald hx hb hK hP (16 + 11 * r + 3) 1 (TO_lt hp_r) (TO_at hp_r) rfl hj5 rfl d_Router_forget_5 ?_
  refine lv_iconst (v := 0) hx hb d_Router_forget_6 (by decide) ?_
  obtain ⟨r7, hc7, hf⟩ := ob hf
  refine k_wrv (k_sta S (c_Arr_fillT (l := l) (D := D) (n := n) (ad := ad) (G := G) hp_r (ix_lt hj5) hc7) g_Router_33 hd_Arr_fill ⟨rfl, rfl⟩ ⟨Nat.le_of_ble_eq_true rfl, Nat.le_of_ble_eq_true rfl⟩ wl_blind (wl_pre hP hK hA) rfl hl.1 rfl (Nat.le_of_ble_eq_true rfl) d_Router_forget_7 (Nat.zero_le _) (Nat.zero_le _)) hS (fun _ h => h) (fun H locs hP _ _ hS => ?_)
  refine lv_iconst (v := 0) hx hb d_Router_forget_10 (by decide) ?_
  refine lv_istore_n (lv' := [(2, .int 0), (0, .ref (ad (16 + 11 * r + 1))), (1, .int a)]) hx hb d_Router_forget_11 rfl hl (by decide) rfl (fun ls hl => ?_)
  have L12 : ∀ (k12 : Nat) (v2_12 : Int32) (N12 : Mem) (H : Heap) (locs : List Loc) (ls : Array Slot), lv_has ls 3 [(2, .int v2_12), (0, .ref (ad (16 + 11 * r + 1))), (1, .int a)] → va_P D cls (cW n ad G N12) H → va_S (wl_A (cK n) ad) s.heap H locs → f_Router_forget_12 n r a k12 v2_12 N12 = some x → W p l e rm_Router_forget s m args below meth c H locs 0 0 (MQ below (wr_Q (none) D cls (cK n) ad (cE n ad G x)) args s 0 0 (wl_A (cK n) ad)) (F0 m 12 ls []) := by
    intro k12
    induction k12 with
    | zero =>
      intro v2_12 N12 H locs ls hl hP hS hf
      simp [f_Router_forget_12] at hf
    | succ k12 ih12 =>
      intro v2_12 N12 H locs ls hl hP hS hf
      rw [f_Router_forget_12] at hf
      refine lv_iload_n hx hb d_Router_forget_12 rfl (lv_at hl 0 rfl) ?_
      refine lv_bipush (v := 8) hx hb d_Router_forget_13 (by decide) ?_
      refine lv_icmp_ge (tgt := 33) hx hb d_Router_forget_15 (by decide) (fun h15 => ?_) (fun h15 => ?_)
      · rw [if_pos h15] at hf
        cases hf
        exact w_vret hx hb hr hlk hP hS d_Router_forget_33
      · rw [if_neg h15] at hf
        refine lv_aload_n hx hb d_Router_forget_18 rfl (lv_at hl 1 rfl) ?_
        refine lv_bipush (v := 16) hx hb d_Router_forget_19 (by decide) ?_
        refine lv_iload_n hx hb d_Router_forget_21 rfl (lv_at hl 0 rfl) ?_
        refine lv_iadd hx hb d_Router_forget_22 ?_
        refine lv_iload_n hx hb d_Router_forget_23 rfl (lv_at hl 2 rfl) ?_
        obtain ⟨r24, hc24, hf⟩ := ob hf
        refine k_wrv (k_vir S (c_Router_endRelease (l := l) (D := D) (n := n) (ad := ad) (G := G) hp_r hc24) g_Router_39 hd_Router_endRelease ⟨rfl, rfl⟩ ⟨Nat.le_of_ble_eq_true rfl, Nat.le_of_ble_eq_true rfl⟩ wl_blind (va_recv hK hP rfl (wl_to (RT_lt hp_r) (RT_at hp_r))) (wl_pre hP hK hA) rfl hl.1 rfl (Nat.le_of_ble_eq_true rfl) d_Router_forget_24 (Nat.zero_le _) (Nat.zero_le _)) hS (fun _ h => h) (fun H locs hP _ _ hS => ?_)
        refine lv_iinc (v := (v2_12 + 1)) (lv' := [(2, .int (v2_12 + 1)), (0, .ref (ad (16 + 11 * r + 1))), (1, .int a)]) hx hb d_Router_forget_27 hl (k := 0) rfl rfl (by decide) rfl (fun ls hl => ?_)
        refine lv_goto (tgt := 12) hx hb d_Router_forget_30 (by decide) ?_
        exact ih12 _ _ _ _ _ (lv_sub hl [0, 1, 2] rfl) hP hS hf
  exact L12 _ _ _ _ _ _ (lv_sub hl [0, 1, 2] rfl) hP hS hf
