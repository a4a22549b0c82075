def f_Model_come_j150 (M : Mem) (j12 : Nat) (j19 : Nat) (j27 : Nat) (N150 : Mem) : Option (Int32 × Mem) :=
    (f_Model_settle (M 8 0 0 j12) (M 10 0 0 j27) N150).bind fun r154 => some ((M 9 0 0 j19), r154)
def f_Model_come_j138 (M : Mem) (j5 : Nat) (j12 : Nat) (j19 : Nat) (j27 : Nat) (j35 : Nat) (r40 : Mem) (s0_138 : Int32) : Option (Int32 × Mem) :=
    (ix (((24 * (M 8 0 0 j12)) + (4 * (M 7 0 0 j5))) + (M 10 0 0 j27)) 144).bind fun j138 => (f_Model_post (M 8 0 0 j12) (M 7 0 0 j5) 3 (M 10 0 0 j27) (M 11 0 0 j35) (mset r40 5 0 0 j138 s0_138)).bind fun r147 => f_Model_come_j150 M j12 j19 j27 r147
def f_Model_come (a : Int32) (M : Mem) : Option (Int32 × Mem) :=
  (ix a 240).bind fun j5 => (ix a 240).bind fun j12 => (ix a 240).bind fun j19 => (ix a 240).bind fun j27 => (ix a 240).bind fun j35 => (f_Model_dropMessage a M).bind fun r40 => if (M 9 0 0 j19) = 3 then ((ix ((((48 * (M 8 0 0 j12)) + (8 * (M 7 0 0 j5))) + (M 11 0 0 j35)) - 16) 288).bind fun j82 => (f_Model_settleAll (M 8 0 0 j12) (mset r40 6 0 0 j82 0)).bind fun r85 => some ((M 9 0 0 j19), r85)) else (if (M 9 0 0 j19) = 1 then ((ix (((24 * (M 8 0 0 j12)) + (4 * (M 7 0 0 j5))) + (M 10 0 0 j27)) 144).bind fun j105 => f_Model_come_j150 M j12 j19 j27 (mset r40 5 0 0 j105 (M 11 0 0 j35))) else ((ix (((24 * (M 8 0 0 j12)) + (4 * (M 7 0 0 j5))) + (M 10 0 0 j27)) 144).bind fun j121 => if (r40 5 0 0 j121) = (M 11 0 0 j35) then (f_Model_come_j138 M j5 j12 j19 j27 j35 r40 0) else ((ix (((24 * (M 8 0 0 j12)) + (4 * (M 7 0 0 j5))) + (M 10 0 0 j27)) 144).bind fun j137 => f_Model_come_j138 M j5 j12 j19 j27 j35 r40 (r40 5 0 0 j137))))
abbrev rm_Model_come : Room := { frames := 4, cells := 0, slots := 0, locals := 98 }
set_option maxHeartbeats 4000000 in
set_option maxRecDepth 100000 in
theorem c_Model_come {l : Launch} {D : va_G} {ad : Nat → Nat} {G : Nat → ClassId} {a : Int32}  {M : Mem} {x : Int32 × Mem} (hf : f_Model_come a M = some x) : Met l y_Model_come (wc y_Model_come b_Model_come 8 (some .int)) rm_Model_come (va_Pc [.ref (ad 0), .int a] (tB D ad G M)) (wr_Q (some (.int x.1)) D cls 15 ad (tE ad G x.2)) 0 0 (wl_A 15 ad) := by
  refine k_met (by decide) (Nat.le_of_ble_eq_true rfl) ?_
  intro p e s m args below meth c S hr hlk hB ls hl
  obtain ⟨hx, hb, hml, hown, hts⟩ := id S
  obtain ⟨hP, hK, hA0⟩ := hB
  have hA := wl_own hA0
  have hl : lv_has ls 8 [(0, .ref (ad 0)), (1, .int a)] := hl
  have hS : va_S (wl_A 15 ad) s.heap s.heap [] := va_S.rf
  unfold f_Model_come at hf
  refine lv_aload_n hx hb d_Model_come_0 rfl (lv_at hl 0 rfl) ?_
  refine va_get (D := D) (ci := 5) (v := .ref (ad 7)) (C := R_Model) (T := F_Model) (N := 24) hx hb hts in_Model hown hK hP 0 (wl_to (by decide) (MO_at)) rfl 10 (by decide) (hts _ fl_Model_29) (fun _ h => h) rfl d_Model_come_1 ?_
  refine lv_iload_n hx hb d_Model_come_4 rfl (lv_at hl 1 rfl) ?_
  obtain ⟨j5, hj5, hf⟩ := ob hf
  refine k_iald hx hb hK hP 7 0 (by decide) (FROM_at) rfl hj5 d_Model_come_5 ?_
  refine lv_istore_n (lv' := [(2, .int (M 7 0 0 j5)), (0, .ref (ad 0)), (1, .int a)]) hx hb d_Model_come_6 rfl hl (by decide) rfl (fun ls hl => ?_)
  refine lv_aload_n hx hb d_Model_come_7 rfl (lv_at hl 1 rfl) ?_
  refine va_get (D := D) (ci := 5) (v := .ref (ad 8)) (C := R_Model) (T := F_Model) (N := 24) hx hb hts in_Model hown hK hP 0 (wl_to (by decide) (MO_at)) rfl 11 (by decide) (hts _ fl_Model_32) (fun _ h => h) rfl d_Model_come_8 ?_
  refine lv_iload_n hx hb d_Model_come_11 rfl (lv_at hl 2 rfl) ?_
  obtain ⟨j12, hj12, hf⟩ := ob hf
  refine k_iald hx hb hK hP 8 0 (by decide) (TOO_at) rfl hj12 d_Model_come_12 ?_
  refine lv_istore_n (lv' := [(3, .int (M 8 0 0 j12)), (2, .int (M 7 0 0 j5)), (0, .ref (ad 0)), (1, .int a)]) hx hb d_Model_come_13 rfl hl (by decide) rfl (fun ls hl => ?_)
  refine lv_aload_n hx hb d_Model_come_14 rfl (lv_at hl 2 rfl) ?_
  refine va_get (D := D) (ci := 5) (v := .ref (ad 9)) (C := R_Model) (T := F_Model) (N := 24) hx hb hts in_Model hown hK hP 0 (wl_to (by decide) (MO_at)) rfl 12 (by decide) (hts _ fl_Model_35) (fun _ h => h) rfl d_Model_come_15 ?_
  refine lv_iload_n hx hb d_Model_come_18 rfl (lv_at hl 3 rfl) ?_
  obtain ⟨j19, hj19, hf⟩ := ob hf
  refine k_iald hx hb hK hP 9 0 (by decide) (KIND_at) rfl hj19 d_Model_come_19 ?_
  refine lv_istore (lv' := [(4, .int (M 9 0 0 j19)), (3, .int (M 8 0 0 j12)), (2, .int (M 7 0 0 j5)), (0, .ref (ad 0)), (1, .int a)]) hx hb d_Model_come_20 hl (by decide) rfl (fun ls hl => ?_)
  refine lv_aload_n hx hb d_Model_come_22 rfl (lv_at hl 3 rfl) ?_
  refine va_get (D := D) (ci := 5) (v := .ref (ad 10)) (C := R_Model) (T := F_Model) (N := 24) hx hb hts in_Model hown hK hP 0 (wl_to (by decide) (MO_at)) rfl 13 (by decide) (hts _ fl_Model_38) (fun _ h => h) rfl d_Model_come_23 ?_
  refine lv_iload_n hx hb d_Model_come_26 rfl (lv_at hl 4 rfl) ?_
  obtain ⟨j27, hj27, hf⟩ := ob hf
  refine k_iald hx hb hK hP 10 0 (by decide) (ABO_at) rfl hj27 d_Model_come_27 ?_
  refine lv_istore (lv' := [(5, .int (M 10 0 0 j27)), (4, .int (M 9 0 0 j19)), (3, .int (M 8 0 0 j12)), (2, .int (M 7 0 0 j5)), (0, .ref (ad 0)), (1, .int a)]) hx hb d_Model_come_28 hl (by decide) rfl (fun ls hl => ?_)
  refine lv_aload_n hx hb d_Model_come_30 rfl (lv_at hl 4 rfl) ?_
  refine va_get (D := D) (ci := 5) (v := .ref (ad 11)) (C := R_Model) (T := F_Model) (N := 24) hx hb hts in_Model hown hK hP 0 (wl_to (by decide) (MO_at)) rfl 14 (by decide) (hts _ fl_Model_41) (fun _ h => h) rfl d_Model_come_31 ?_
  refine lv_iload_n hx hb d_Model_come_34 rfl (lv_at hl 5 rfl) ?_
  obtain ⟨j35, hj35, hf⟩ := ob hf
  refine k_iald hx hb hK hP 11 0 (by decide) (WHI_at) rfl hj35 d_Model_come_35 ?_
  refine lv_istore (lv' := [(6, .int (M 11 0 0 j35)), (5, .int (M 10 0 0 j27)), (4, .int (M 9 0 0 j19)), (3, .int (M 8 0 0 j12)), (2, .int (M 7 0 0 j5)), (0, .ref (ad 0)), (1, .int a)]) hx hb d_Model_come_36 hl (by decide) rfl (fun ls hl => ?_)
  refine lv_aload_n hx hb d_Model_come_38 rfl (lv_at hl 5 rfl) ?_
  refine lv_iload_n hx hb d_Model_come_39 rfl (lv_at hl 6 rfl) ?_
  obtain ⟨r40, hc40, hf⟩ := ob hf
  refine k_wrv (k_vir S (c_Model_dropMessage (l := l) (D := D) (ad := ad) (G := G) hc40) g_Model_103 hd_Model_dropMessage ⟨rfl, rfl⟩ ⟨Nat.le_of_ble_eq_true rfl, Nat.le_of_ble_eq_true rfl⟩ wl_blind (va_recv hK hP rfl (wl_to (by decide) (MO_at))) (wl_pre hP hK hA) rfl hl.1 rfl (Nat.le_of_ble_eq_true rfl) d_Model_come_40 (Nat.zero_le _) (Nat.zero_le _)) hS (fun _ h => h) (fun H locs hP _ _ hS => ?_)
  refine lv_bipush (v := 24) hx hb d_Model_come_43 (by decide) ?_
  refine lv_iload_n hx hb d_Model_come_45 rfl (lv_at hl 3 rfl) ?_
  refine lv_imul hx hb d_Model_come_46 ?_
  refine lv_iconst (v := 4) hx hb d_Model_come_47 (by decide) ?_
  refine lv_iload_n hx hb d_Model_come_48 rfl (lv_at hl 4 rfl) ?_
  refine lv_imul hx hb d_Model_come_49 ?_
  refine lv_iadd hx hb d_Model_come_50 ?_
  refine lv_iload hx hb d_Model_come_51 (lv_at hl 1 rfl) ?_
  refine lv_iadd hx hb d_Model_come_53 ?_
  refine lv_istore (lv' := [(7, .int (((24 * (M 8 0 0 j12)) + (4 * (M 7 0 0 j5))) + (M 10 0 0 j27))), (6, .int (M 11 0 0 j35)), (5, .int (M 10 0 0 j27)), (4, .int (M 9 0 0 j19)), (3, .int (M 8 0 0 j12)), (2, .int (M 7 0 0 j5)), (0, .ref (ad 0)), (1, .int a)]) hx hb d_Model_come_54 hl (by decide) rfl (fun ls hl => ?_)
  refine lv_iload hx hb d_Model_come_56 (lv_at hl 3 rfl) ?_
  refine lv_iconst (v := 3) hx hb d_Model_come_58 (by decide) ?_
  refine lv_icmp_ne (tgt := 91) hx hb d_Model_come_59 (by decide) (fun h59 => ?_) (fun h59 => ?_)
  · rw [if_neg h59] at hf
    refine lv_iload hx hb d_Model_come_91 (lv_at hl 3 rfl) ?_
    refine lv_iconst (v := 1) hx hb d_Model_come_93 (by decide) ?_
    have J150 : ∀ (N150 : Mem) (H : Heap) (locs : List Loc) (ls : Array Slot), lv_has ls 8 [(7, .int (((24 * (M 8 0 0 j12)) + (4 * (M 7 0 0 j5))) + (M 10 0 0 j27))), (6, .int (M 11 0 0 j35)), (5, .int (M 10 0 0 j27)), (4, .int (M 9 0 0 j19)), (3, .int (M 8 0 0 j12)), (2, .int (M 7 0 0 j5)), (0, .ref (ad 0)), (1, .int a)] → va_P D cls (tW ad G N150) H → va_S (wl_A 15 ad) s.heap H locs → f_Model_come_j150 M j12 j19 j27 N150 = some x → W p l e rm_Model_come s m args below meth c H locs 0 0 (MQ below (wr_Q (some (.int x.1)) D cls 15 ad (tE ad G x.2)) args s 0 0 (wl_A 15 ad)) (F0 m 150 ls []) := by
      intro N150 H locs ls hl hP hS hf
      unfold f_Model_come_j150 at hf
      refine lv_aload_n hx hb d_Model_come_150 rfl (lv_at hl 6 rfl) ?_
      refine lv_iload_n hx hb d_Model_come_151 rfl (lv_at hl 4 rfl) ?_
      refine lv_iload hx hb d_Model_come_152 (lv_at hl 2 rfl) ?_
      obtain ⟨r154, hc154, hf⟩ := ob hf
      refine k_wrv (k_vir S (c_Model_settle (l := l) (D := D) (ad := ad) (G := G) hc154) g_Model_97 hd_Model_settle ⟨rfl, rfl⟩ ⟨Nat.le_of_ble_eq_true rfl, Nat.le_of_ble_eq_true rfl⟩ wl_blind (va_recv hK hP rfl (wl_to (by decide) (MO_at))) (wl_pre hP hK hA) rfl hl.1 rfl (Nat.le_of_ble_eq_true rfl) d_Model_come_154 (Nat.zero_le _) (Nat.zero_le _)) hS (fun _ h => h) (fun H locs hP _ _ hS => ?_)
      refine lv_iload hx hb d_Model_come_157 (lv_at hl 3 rfl) ?_
      cases hf
      exact w_iret hx hb hr hlk hP hS d_Model_come_159
    refine lv_icmp_ne (tgt := 109) hx hb d_Model_come_94 (by decide) (fun h94 => ?_) (fun h94 => ?_)
    · rw [if_neg h94] at hf
      refine lv_aload_n hx hb d_Model_come_109 rfl (lv_at hl 6 rfl) ?_
      refine va_get (D := D) (ci := 5) (v := .ref (ad 5)) (C := R_Model) (T := F_Model) (N := 24) hx hb hts in_Model hown hK hP 0 (wl_to (by decide) (MO_at)) rfl 6 (by decide) (hts _ fl_Model_22) (fun _ h => h) rfl d_Model_come_110 ?_
      refine lv_iload hx hb d_Model_come_113 (lv_at hl 0 rfl) ?_
      refine lv_aload_n hx hb d_Model_come_115 rfl (lv_at hl 6 rfl) ?_
      refine va_get (D := D) (ci := 5) (v := .ref (ad 5)) (C := R_Model) (T := F_Model) (N := 24) hx hb hts in_Model hown hK hP 0 (wl_to (by decide) (MO_at)) rfl 6 (by decide) (hts _ fl_Model_22) (fun _ h => h) rfl d_Model_come_116 ?_
      refine lv_iload hx hb d_Model_come_119 (lv_at hl 0 rfl) ?_
      obtain ⟨j121, hj121, hf⟩ := ob hf
      refine k_iald hx hb hK hP 5 0 (by decide) (TLD_at) rfl hj121 d_Model_come_121 ?_
      refine lv_iload hx hb d_Model_come_122 (lv_at hl 1 rfl) ?_
      have J138 : ∀ (s0_138 : Int32) (ls : Array Slot), lv_has ls 8 [(7, .int (((24 * (M 8 0 0 j12)) + (4 * (M 7 0 0 j5))) + (M 10 0 0 j27))), (6, .int (M 11 0 0 j35)), (5, .int (M 10 0 0 j27)), (4, .int (M 9 0 0 j19)), (3, .int (M 8 0 0 j12)), (2, .int (M 7 0 0 j5)), (0, .ref (ad 0)), (1, .int a)] → f_Model_come_j138 M j5 j12 j19 j27 j35 r40 s0_138 = some x → W p l e rm_Model_come s m args below meth c H locs 0 0 (MQ below (wr_Q (some (.int x.1)) D cls 15 ad (tE ad G x.2)) args s 0 0 (wl_A 15 ad)) (F0 m 138 ls [.int s0_138, .int (((24 * (M 8 0 0 j12)) + (4 * (M 7 0 0 j5))) + (M 10 0 0 j27)), .ref (ad 5)]) := by
        intro s0_138 ls hl hf
        unfold f_Model_come_j138 at hf
        obtain ⟨j138, hj138, hf⟩ := ob hf
        refine m_iast (t := 5) (a := 0) (b := 0) (x := s0_138) hx hb hK hP hA hS tJ 5 0 (by decide) ⟨rfl, rfl, rfl⟩ (fun f => TLD_row f) rfl hj138 d_Model_come_138 (fun H locs hP hS => ?_)
        refine lv_aload_n hx hb d_Model_come_139 rfl (lv_at hl 6 rfl) ?_
        refine lv_iload_n hx hb d_Model_come_140 rfl (lv_at hl 4 rfl) ?_
        refine lv_iload_n hx hb d_Model_come_141 rfl (lv_at hl 5 rfl) ?_
        refine lv_iconst (v := 3) hx hb d_Model_come_142 (by decide) ?_
        refine lv_iload hx hb d_Model_come_143 (lv_at hl 2 rfl) ?_
        refine lv_iload hx hb d_Model_come_145 (lv_at hl 1 rfl) ?_
        obtain ⟨r147, hc147, hf⟩ := ob hf
        refine k_wrv (k_vir S (c_Model_post (l := l) (D := D) (ad := ad) (G := G) hc147) g_Model_82 hd_Model_post ⟨rfl, rfl⟩ ⟨Nat.le_of_ble_eq_true rfl, Nat.le_of_ble_eq_true rfl⟩ wl_blind (va_recv hK hP rfl (wl_to (by decide) (MO_at))) (wl_pre hP hK hA) rfl hl.1 rfl (Nat.le_of_ble_eq_true rfl) d_Model_come_147 (Nat.zero_le _) (Nat.zero_le _)) hS (fun _ h => h) (fun H locs hP _ _ hS => ?_)
        exact J150 _ _ _ _ (lv_sub hl [0, 1, 2, 3, 4, 5, 6, 7] rfl) hP hS hf
      refine lv_icmp_ne (tgt := 131) hx hb d_Model_come_124 (by decide) (fun h124 => ?_) (fun h124 => ?_)
      · rw [if_neg h124] at hf
        refine lv_aload_n hx hb d_Model_come_131 rfl (lv_at hl 6 rfl) ?_
        refine va_get (D := D) (ci := 5) (v := .ref (ad 5)) (C := R_Model) (T := F_Model) (N := 24) hx hb hts in_Model hown hK hP 0 (wl_to (by decide) (MO_at)) rfl 6 (by decide) (hts _ fl_Model_22) (fun _ h => h) rfl d_Model_come_132 ?_
        refine lv_iload hx hb d_Model_come_135 (lv_at hl 0 rfl) ?_
        obtain ⟨j137, hj137, hf⟩ := ob hf
        refine k_iald hx hb hK hP 5 0 (by decide) (TLD_at) rfl hj137 d_Model_come_137 ?_
        exact J138 _ _ (lv_sub hl [0, 1, 2, 3, 4, 5, 6, 7] rfl) hf
      · rw [if_pos h124] at hf
        refine lv_iconst (v := 0) hx hb d_Model_come_127 (by decide) ?_
        refine lv_goto (tgt := 138) hx hb d_Model_come_128 (by decide) ?_
        exact J138 _ _ (lv_sub hl [0, 1, 2, 3, 4, 5, 6, 7] rfl) hf
    · rw [if_pos h94] at hf
      refine lv_aload_n hx hb d_Model_come_97 rfl (lv_at hl 6 rfl) ?_
      refine va_get (D := D) (ci := 5) (v := .ref (ad 5)) (C := R_Model) (T := F_Model) (N := 24) hx hb hts in_Model hown hK hP 0 (wl_to (by decide) (MO_at)) rfl 6 (by decide) (hts _ fl_Model_22) (fun _ h => h) rfl d_Model_come_98 ?_
      refine lv_iload hx hb d_Model_come_101 (lv_at hl 0 rfl) ?_
      refine lv_iload hx hb d_Model_come_103 (lv_at hl 1 rfl) ?_
      obtain ⟨j105, hj105, hf⟩ := ob hf
      refine m_iast (t := 5) (a := 0) (b := 0) (x := (M 11 0 0 j35)) hx hb hK hP hA hS tJ 5 0 (by decide) ⟨rfl, rfl, rfl⟩ (fun f => TLD_row f) rfl hj105 d_Model_come_105 (fun H locs hP hS => ?_)
      refine lv_goto (tgt := 150) hx hb d_Model_come_106 (by decide) ?_
      exact J150 _ _ _ _ (lv_sub hl [0, 1, 2, 3, 4, 5, 6, 7] rfl) hP hS hf
  · rw [if_pos h59] at hf
    refine lv_aload_n hx hb d_Model_come_62 rfl (lv_at hl 6 rfl) ?_
    refine va_get (D := D) (ci := 5) (v := .ref (ad 6)) (C := R_Model) (T := F_Model) (N := 24) hx hb hts in_Model hown hK hP 0 (wl_to (by decide) (MO_at)) rfl 7 (by decide) (hts _ fl_Model_25) (fun _ h => h) rfl d_Model_come_63 ?_
    refine lv_bipush (v := 48) hx hb d_Model_come_66 (by decide) ?_
    refine lv_iload_n hx hb d_Model_come_68 rfl (lv_at hl 4 rfl) ?_
    refine lv_imul hx hb d_Model_come_69 ?_
    refine lv_bipush (v := 8) hx hb d_Model_come_70 (by decide) ?_
    refine lv_iload_n hx hb d_Model_come_72 rfl (lv_at hl 5 rfl) ?_
    refine lv_imul hx hb d_Model_come_73 ?_
    refine lv_iadd hx hb d_Model_come_74 ?_
    refine lv_iload hx hb d_Model_come_75 (lv_at hl 1 rfl) ?_
    refine lv_iadd hx hb d_Model_come_77 ?_
    refine lv_bipush (v := 16) hx hb d_Model_come_78 (by decide) ?_
    refine lv_isub hx hb d_Model_come_80 ?_
    refine lv_iconst (v := 0) hx hb d_Model_come_81 (by decide) ?_
    obtain ⟨j82, hj82, hf⟩ := ob hf
    refine m_zast (t := 6) (a := 0) (b := 0) (x := 0) hx hb hK hP hA hS tJ 6 3 (by decide) ⟨rfl, rfl, rfl⟩ (fun f => OWE_row f) rfl hj82 (by decide +kernel) d_Model_come_82 (fun H locs hP hS => ?_)
    refine lv_aload_n hx hb d_Model_come_83 rfl (lv_at hl 6 rfl) ?_
    refine lv_iload_n hx hb d_Model_come_84 rfl (lv_at hl 4 rfl) ?_
    obtain ⟨r85, hc85, hf⟩ := ob hf
    refine k_wrv (k_vir S (c_Model_settleAll (l := l) (D := D) (ad := ad) (G := G) hc85) g_Model_100 hd_Model_settleAll ⟨rfl, rfl⟩ ⟨Nat.le_of_ble_eq_true rfl, Nat.le_of_ble_eq_true rfl⟩ wl_blind (va_recv hK hP rfl (wl_to (by decide) (MO_at))) (wl_pre hP hK hA) rfl hl.1 rfl (Nat.le_of_ble_eq_true rfl) d_Model_come_85 (Nat.zero_le _) (Nat.zero_le _)) hS (fun _ h => h) (fun H locs hP _ _ hS => ?_)
    refine lv_iload hx hb d_Model_come_88 (lv_at hl 3 rfl) ?_
    cases hf
    exact w_iret hx hb hr hlk hP hS d_Model_come_90
def f_Model_step_17 (a : Int32) (b : Int32) : Nat → Int32 → Mem → Option (Int32 × Mem)
  | 0, _, _ => none
  | k17 + 1, v3_17, N17 =>
    if (N17 0 0 0 8) ≤ v3_17 then (some (0, N17)) else ((ix v3_17 240).bind fun j30 => if (N17 7 0 0 j30) = a then ((ix v3_17 240).bind fun j40 => if (N17 8 0 0 j40) = b then ((f_Model_come v3_17 N17).bind fun r47 => some (r47.1, r47.2)) else (f_Model_step_17 a b k17 (v3_17 + 1) N17)) else (f_Model_step_17 a b k17 (v3_17 + 1) N17))
def f_Model_step (a : Int32) (b : Int32) (M : Mem) : Option (Int32 × Mem) :=
  (f_Model_isPair a b M).bind fun r4 => (f_Model_good r4 M).bind fun r7 => if r7.1 = 0 then (some (0, r7.2)) else (f_Model_step_17 a b 1000 0 r7.2)
abbrev rm_Model_step : Room := { frames := 5, cells := 0, slots := 0, locals := 125 }
set_option maxHeartbeats 4000000 in
set_option maxRecDepth 100000 in
theorem c_Model_step {l : Launch} {D : va_G} {ad : Nat → Nat} {G : Nat → ClassId} {a : Int32} {b : Int32}  {M : Mem} {x : Int32 × Mem} (hf : f_Model_step a b M = some x) : Met l y_Model_step (wc y_Model_step b_Model_step 4 (some .int)) rm_Model_step (va_Pc [.ref (ad 0), .int a, .int b] (tB D ad G M)) (wr_Q (some (.int x.1)) D cls 15 ad (tE ad G x.2)) 0 0 (wl_A 15 ad) := by
  refine k_met (by decide) (Nat.le_of_ble_eq_true rfl) ?_
  intro p e s m args below meth c S hr hlk hB ls hl
  obtain ⟨hx, hb, hml, hown, hts⟩ := id S
  obtain ⟨hP, hK, hA0⟩ := hB
  have hA := wl_own hA0
  have hl : lv_has ls 4 [(0, .ref (ad 0)), (1, .int a), (2, .int b)] := hl
  have hS : va_S (wl_A 15 ad) s.heap s.heap [] := va_S.rf
  unfold f_Model_step at hf
  refine lv_aload_n hx hb d_Model_step_0 rfl (lv_at hl 0 rfl) ?_
  refine lv_aload_n hx hb d_Model_step_1 rfl (lv_at hl 0 rfl) ?_
  refine lv_iload_n hx hb d_Model_step_2 rfl (lv_at hl 1 rfl) ?_
  refine lv_iload_n hx hb d_Model_step_3 rfl (lv_at hl 2 rfl) ?_
  obtain ⟨r4, hc4, hf⟩ := ob hf
  refine k_rdi (k_vir S (c_Model_isPair (l := l) (D := D) (ad := ad) (G := G) hc4) g_Model_106 hd_Model_isPair ⟨rfl, rfl⟩ ⟨Nat.le_of_ble_eq_true rfl, Nat.le_of_ble_eq_true rfl⟩ wl_blind (va_recv hK hP rfl (wl_to (by decide) (MO_at))) (wl_pre hP hK hA) rfl hl.1 rfl (Nat.le_of_ble_eq_true rfl) d_Model_step_4 (Nat.zero_le _) (Nat.zero_le _)) ?_
  obtain ⟨r7, hc7, hf⟩ := ob hf
  refine k_wri (k_vir S (c_Model_good (l := l) (D := D) (ad := ad) (G := G) hc7) g_Model_109 hd_Model_good ⟨rfl, rfl⟩ ⟨Nat.le_of_ble_eq_true rfl, Nat.le_of_ble_eq_true rfl⟩ wl_blind (va_recv hK hP rfl (wl_to (by decide) (MO_at))) (wl_pre hP hK hA) rfl hl.1 rfl (Nat.le_of_ble_eq_true rfl) d_Model_step_7 (Nat.zero_le _) (Nat.zero_le _)) hS (fun _ h => h) (fun H locs hP _ _ hS => ?_)
  refine lv_if_ne (tgt := 15) hx hb d_Model_step_10 (by decide) (fun h10 => ?_) (fun h10 => ?_)
  · rw [if_neg h10] at hf
    refine lv_iconst (v := 0) hx hb d_Model_step_15 (by decide) ?_
    refine lv_istore_n (lv' := [(3, .int 0), (0, .ref (ad 0)), (1, .int a), (2, .int b)]) hx hb d_Model_step_16 rfl hl (by decide) rfl (fun ls hl => ?_)
    have L17 : ∀ (k17 : Nat) (v3_17 : Int32) (N17 : Mem) (H : Heap) (locs : List Loc) (ls : Array Slot), lv_has ls 4 [(3, .int v3_17), (0, .ref (ad 0)), (1, .int a), (2, .int b)] → va_P D cls (tW ad G N17) H → va_S (wl_A 15 ad) s.heap H locs → f_Model_step_17 a b k17 v3_17 N17 = some x → W p l e rm_Model_step s m args below meth c H locs 0 0 (MQ below (wr_Q (some (.int x.1)) D cls 15 ad (tE ad G x.2)) args s 0 0 (wl_A 15 ad)) (F0 m 17 ls []) := by
      intro k17
      induction k17 with
      | zero =>
        intro v3_17 N17 H locs ls hl hP hS hf
        simp [f_Model_step_17] at hf
      | succ k17 ih17 =>
        intro v3_17 N17 H locs ls hl hP hS hf
        rw [f_Model_step_17] at hf
        refine lv_iload_n hx hb d_Model_step_17 rfl (lv_at hl 0 rfl) ?_
        refine lv_aload_n hx hb d_Model_step_18 rfl (lv_at hl 1 rfl) ?_
        refine va_get (D := D) (ci := 5) (v := .int (N17 0 0 0 8)) (C := R_Model) (T := F_Model) (N := 24) hx hb hts in_Model hown hK hP 0 (wl_to (by decide) (MO_at)) rfl 8 (by decide) (hts _ fl_Model_76) (fun _ h => h) rfl d_Model_step_19 ?_
        refine lv_icmp_ge (tgt := 57) hx hb d_Model_step_22 (by decide) (fun h22 => ?_) (fun h22 => ?_)
        · rw [if_pos h22] at hf
          refine lv_iconst (v := 0) hx hb d_Model_step_57 (by decide) ?_
          cases hf
          exact w_iret hx hb hr hlk hP hS d_Model_step_58
        · rw [if_neg h22] at hf
          refine lv_aload_n hx hb d_Model_step_25 rfl (lv_at hl 1 rfl) ?_
          refine va_get (D := D) (ci := 5) (v := .ref (ad 7)) (C := R_Model) (T := F_Model) (N := 24) hx hb hts in_Model hown hK hP 0 (wl_to (by decide) (MO_at)) rfl 10 (by decide) (hts _ fl_Model_29) (fun _ h => h) rfl d_Model_step_26 ?_
          refine lv_iload_n hx hb d_Model_step_29 rfl (lv_at hl 0 rfl) ?_
          obtain ⟨j30, hj30, hf⟩ := ob hf
          refine k_iald hx hb hK hP 7 0 (by decide) (FROM_at) rfl hj30 d_Model_step_30 ?_
          refine lv_iload_n hx hb d_Model_step_31 rfl (lv_at hl 2 rfl) ?_
          refine lv_icmp_ne (tgt := 51) hx hb d_Model_step_32 (by decide) (fun h32 => ?_) (fun h32 => ?_)
          · rw [if_neg h32] at hf
            refine lv_iinc (v := (v3_17 + 1)) (lv' := [(3, .int (v3_17 + 1)), (0, .ref (ad 0)), (1, .int a), (2, .int b)]) hx hb d_Model_step_51 hl (k := 0) rfl rfl (by decide) rfl (fun ls hl => ?_)
            refine lv_goto (tgt := 17) hx hb d_Model_step_54 (by decide) ?_
            exact ih17 _ _ _ _ _ (lv_sub hl [0, 1, 2, 3] rfl) hP hS hf
          · rw [if_pos h32] at hf
            refine lv_aload_n hx hb d_Model_step_35 rfl (lv_at hl 1 rfl) ?_
            refine va_get (D := D) (ci := 5) (v := .ref (ad 8)) (C := R_Model) (T := F_Model) (N := 24) hx hb hts in_Model hown hK hP 0 (wl_to (by decide) (MO_at)) rfl 11 (by decide) (hts _ fl_Model_32) (fun _ h => h) rfl d_Model_step_36 ?_
            refine lv_iload_n hx hb d_Model_step_39 rfl (lv_at hl 0 rfl) ?_
            obtain ⟨j40, hj40, hf⟩ := ob hf
            refine k_iald hx hb hK hP 8 0 (by decide) (TOO_at) rfl hj40 d_Model_step_40 ?_
            refine lv_iload_n hx hb d_Model_step_41 rfl (lv_at hl 3 rfl) ?_
            refine lv_icmp_ne (tgt := 51) hx hb d_Model_step_42 (by decide) (fun h42 => ?_) (fun h42 => ?_)
            · rw [if_neg h42] at hf
              refine lv_iinc (v := (v3_17 + 1)) (lv' := [(3, .int (v3_17 + 1)), (0, .ref (ad 0)), (1, .int a), (2, .int b)]) hx hb d_Model_step_51 hl (k := 0) rfl rfl (by decide) rfl (fun ls hl => ?_)
              refine lv_goto (tgt := 17) hx hb d_Model_step_54 (by decide) ?_
              exact ih17 _ _ _ _ _ (lv_sub hl [0, 1, 2, 3] rfl) hP hS hf
            · rw [if_pos h42] at hf
              refine lv_aload_n hx hb d_Model_step_45 rfl (lv_at hl 1 rfl) ?_
              refine lv_iload_n hx hb d_Model_step_46 rfl (lv_at hl 0 rfl) ?_
              obtain ⟨r47, hc47, hf⟩ := ob hf
              refine k_wri (k_vir S (c_Model_come (l := l) (D := D) (ad := ad) (G := G) hc47) g_Model_113 hd_Model_come ⟨rfl, rfl⟩ ⟨Nat.le_of_ble_eq_true rfl, Nat.le_of_ble_eq_true rfl⟩ wl_blind (va_recv hK hP rfl (wl_to (by decide) (MO_at))) (wl_pre hP hK hA) rfl hl.1 rfl (Nat.le_of_ble_eq_true rfl) d_Model_step_47 (Nat.zero_le _) (Nat.zero_le _)) hS (fun _ h => h) (fun H locs hP _ _ hS => ?_)
              cases hf
              exact w_iret hx hb hr hlk hP hS d_Model_step_50
    exact L17 _ _ _ _ _ _ (lv_sub hl [0, 1, 2, 3] rfl) hP hS hf
  · rw [if_pos h10] at hf
    refine lv_iconst (v := 0) hx hb d_Model_step_13 (by decide) ?_
    cases hf
    exact w_iret hx hb hr hlk hP hS d_Model_step_14
def f_Model_run_j46 (r31 : Int32 × Mem) (kk17 : Int32 → Mem → Option (Int32 × Mem)) (s0_46 : Int32) : Option (Int32 × Mem) :=
    kk17 s0_46 r31.2
def f_Model_run_17 (a : Int32) : Nat → Int32 → Mem → Option (Int32 × Mem)
  | 0, _, _ => none
  | k17 + 1, v2_17, N17 =>
    if a ≤ v2_17 then (some (v2_17, N17)) else (if (N17 0 0 0 8) ≤ 0 then (some (v2_17, N17)) else ((f_Model_come 0 N17).bind fun r31 => if r31.1 ≤ 0 then (f_Model_run_j46 r31 (fun u0 u1 => f_Model_run_17 a k17 u0 u1) v2_17) else (f_Model_run_j46 r31 (fun u0 u1 => f_Model_run_17 a k17 u0 u1) (v2_17 + 1))))
def f_Model_run (a : Int32) (M : Mem) : Option (Int32 × Mem) :=
  (f_Model_within a 0 400).bind fun r8 => (f_Model_good r8 M).bind fun r11 => if r11.1 = 0 then (some (0, r11.2)) else (f_Model_run_17 a 1000 0 r11.2)
abbrev rm_Model_run : Room := { frames := 5, cells := 0, slots := 0, locals := 125 }
set_option maxHeartbeats 4000000 in
set_option maxRecDepth 100000 in
theorem c_Model_run {l : Launch} {D : va_G} {ad : Nat → Nat} {G : Nat → ClassId} {a : Int32}  {M : Mem} {x : Int32 × Mem} (hf : f_Model_run a M = some x) : Met l y_Model_run (wc y_Model_run b_Model_run 4 (some .int)) rm_Model_run (va_Pc [.ref (ad 0), .int a] (tB D ad G M)) (wr_Q (some (.int x.1)) D cls 15 ad (tE ad G x.2)) 0 0 (wl_A 15 ad) := by
  refine k_met (by decide) (Nat.le_of_ble_eq_true rfl) ?_
  intro p e s m args below meth c S hr hlk hB ls hl
  obtain ⟨hx, hb, hml, hown, hts⟩ := id S
  obtain ⟨hP, hK, hA0⟩ := hB
  have hA := wl_own hA0
  have hl : lv_has ls 4 [(0, .ref (ad 0)), (1, .int a)] := hl
  have hS : va_S (wl_A 15 ad) s.heap s.heap [] := va_S.rf
  unfold f_Model_run at hf
  refine lv_iconst (v := 0) hx hb d_Model_run_0 (by decide) ?_
  refine lv_istore_n (lv' := [(2, .int 0), (0, .ref (ad 0)), (1, .int a)]) hx hb d_Model_run_1 rfl hl (by decide) rfl (fun ls hl => ?_)
  refine lv_aload_n hx hb d_Model_run_2 rfl (lv_at hl 1 rfl) ?_
  refine lv_iload_n hx hb d_Model_run_3 rfl (lv_at hl 2 rfl) ?_
  refine lv_iconst (v := 0) hx hb d_Model_run_4 (by decide) ?_
  refine lv_sipush (v := 400) hx hb d_Model_run_5 (by decide) ?_
  obtain ⟨r8, hc8, hf⟩ := ob hf
  refine k_rdi (k_sta S (c_Model_within (l := l) (D := D) (ad := ad) (G := G) hc8) g_Model_60 hd_Model_within ⟨rfl, rfl⟩ ⟨Nat.le_of_ble_eq_true rfl, Nat.le_of_ble_eq_true rfl⟩ wl_blind (wl_pre hP hK hA) rfl hl.1 rfl (Nat.le_of_ble_eq_true rfl) d_Model_run_8 (Nat.zero_le _) (Nat.zero_le _)) ?_
  obtain ⟨r11, hc11, hf⟩ := ob hf
  refine k_wri (k_vir S (c_Model_good (l := l) (D := D) (ad := ad) (G := G) hc11) g_Model_109 hd_Model_good ⟨rfl, rfl⟩ ⟨Nat.le_of_ble_eq_true rfl, Nat.le_of_ble_eq_true rfl⟩ wl_blind (va_recv hK hP rfl (wl_to (by decide) (MO_at))) (wl_pre hP hK hA) rfl hl.1 rfl (Nat.le_of_ble_eq_true rfl) d_Model_run_11 (Nat.zero_le _) (Nat.zero_le _)) hS (fun _ h => h) (fun H locs hP _ _ hS => ?_)
  refine lv_if_eq (tgt := 50) hx hb d_Model_run_14 (by decide) (fun h14 => ?_) (fun h14 => ?_)
  · rw [if_pos h14] at hf
    refine lv_iload_n hx hb d_Model_run_50 rfl (lv_at hl 0 rfl) ?_
    cases hf
    exact w_iret hx hb hr hlk hP hS d_Model_run_51
  · rw [if_neg h14] at hf
    have L17 : ∀ (k17 : Nat) (v2_17 : Int32) (N17 : Mem) (H : Heap) (locs : List Loc) (ls : Array Slot), lv_has ls 4 [(2, .int v2_17), (0, .ref (ad 0)), (1, .int a)] → va_P D cls (tW ad G N17) H → va_S (wl_A 15 ad) s.heap H locs → f_Model_run_17 a k17 v2_17 N17 = some x → W p l e rm_Model_run s m args below meth c H locs 0 0 (MQ below (wr_Q (some (.int x.1)) D cls 15 ad (tE ad G x.2)) args s 0 0 (wl_A 15 ad)) (F0 m 17 ls []) := by
      intro k17
      induction k17 with
      | zero =>
        intro v2_17 N17 H locs ls hl hP hS hf
        simp [f_Model_run_17] at hf
      | succ k17 ih17 =>
        intro v2_17 N17 H locs ls hl hP hS hf
        rw [f_Model_run_17] at hf
        refine lv_iload_n hx hb d_Model_run_17 rfl (lv_at hl 0 rfl) ?_
        refine lv_iload_n hx hb d_Model_run_18 rfl (lv_at hl 2 rfl) ?_
        refine lv_icmp_ge (tgt := 50) hx hb d_Model_run_19 (by decide) (fun h19 => ?_) (fun h19 => ?_)
        · rw [if_pos h19] at hf
          refine lv_iload_n hx hb d_Model_run_50 rfl (lv_at hl 0 rfl) ?_
          cases hf
          exact w_iret hx hb hr hlk hP hS d_Model_run_51
        · rw [if_neg h19] at hf
          refine lv_aload_n hx hb d_Model_run_22 rfl (lv_at hl 1 rfl) ?_
          refine va_get (D := D) (ci := 5) (v := .int (N17 0 0 0 8)) (C := R_Model) (T := F_Model) (N := 24) hx hb hts in_Model hown hK hP 0 (wl_to (by decide) (MO_at)) rfl 8 (by decide) (hts _ fl_Model_76) (fun _ h => h) rfl d_Model_run_23 ?_
          refine lv_if_le (tgt := 50) hx hb d_Model_run_26 (by decide) (fun h26 => ?_) (fun h26 => ?_)
          · rw [if_pos h26] at hf
            refine lv_iload_n hx hb d_Model_run_50 rfl (lv_at hl 0 rfl) ?_
            cases hf
            exact w_iret hx hb hr hlk hP hS d_Model_run_51
          · rw [if_neg h26] at hf
            refine lv_aload_n hx hb d_Model_run_29 rfl (lv_at hl 1 rfl) ?_
            refine lv_iconst (v := 0) hx hb d_Model_run_30 (by decide) ?_
            obtain ⟨r31, hc31, hf⟩ := ob hf
            refine k_wri (k_vir S (c_Model_come (l := l) (D := D) (ad := ad) (G := G) hc31) g_Model_113 hd_Model_come ⟨rfl, rfl⟩ ⟨Nat.le_of_ble_eq_true rfl, Nat.le_of_ble_eq_true rfl⟩ wl_blind (va_recv hK hP rfl (wl_to (by decide) (MO_at))) (wl_pre hP hK hA) rfl hl.1 rfl (Nat.le_of_ble_eq_true rfl) d_Model_run_31 (Nat.zero_le _) (Nat.zero_le _)) hS (fun _ h => h) (fun H locs hP _ _ hS => ?_)
            refine lv_istore_n (lv' := [(3, .int r31.1), (2, .int v2_17), (0, .ref (ad 0)), (1, .int a)]) hx hb d_Model_run_34 rfl hl (by decide) rfl (fun ls hl => ?_)
            refine lv_iload_n hx hb d_Model_run_35 rfl (lv_at hl 0 rfl) ?_
            have J46 : ∀ (s0_46 : Int32) (ls : Array Slot), lv_has ls 4 [(3, .int r31.1), (2, .int v2_17), (0, .ref (ad 0)), (1, .int a)] → f_Model_run_j46 r31 (fun u0 u1 => f_Model_run_17 a k17 u0 u1) s0_46 = some x → W p l e rm_Model_run s m args below meth c H locs 0 0 (MQ below (wr_Q (some (.int x.1)) D cls 15 ad (tE ad G x.2)) args s 0 0 (wl_A 15 ad)) (F0 m 46 ls [.int s0_46]) := by
              intro s0_46 ls hl hf
              unfold f_Model_run_j46 at hf
              refine lv_istore_n (lv' := [(2, .int s0_46), (3, .int r31.1), (0, .ref (ad 0)), (1, .int a)]) hx hb d_Model_run_46 rfl hl (by decide) rfl (fun ls hl => ?_)
              refine lv_goto (tgt := 17) hx hb d_Model_run_47 (by decide) ?_
              exact ih17 _ _ _ _ _ (lv_sub hl [0, 2, 3] rfl) hP hS hf
            refine lv_if_le (tgt := 45) hx hb d_Model_run_36 (by decide) (fun h36 => ?_) (fun h36 => ?_)
            · rw [if_pos h36] at hf
              refine lv_iload_n hx hb d_Model_run_45 rfl (lv_at hl 1 rfl) ?_
              exact J46 _ _ (lv_sub hl [0, 1, 2, 3] rfl) hf
            · rw [if_neg h36] at hf
              refine lv_iload_n hx hb d_Model_run_39 rfl (lv_at hl 1 rfl) ?_
              refine lv_iconst (v := 1) hx hb d_Model_run_40 (by decide) ?_
              refine lv_iadd hx hb d_Model_run_41 ?_
              refine lv_goto (tgt := 46) hx hb d_Model_run_42 (by decide) ?_
              exact J46 _ _ (lv_sub hl [0, 1, 2, 3] rfl) hf
    exact L17 _ _ _ _ _ _ (lv_sub hl [0, 1, 2] rfl) hP hS hf
def f_Model_waiting (M : Mem) : Option (Int32 × Mem) :=
  some (((mset M 0 0 0 0 0) 0 0 0 8), (mset M 0 0 0 0 0))
abbrev rm_Model_waiting : Room := { frames := 0, cells := 0, slots := 0, locals := 0 }
set_option maxHeartbeats 4000000 in
set_option maxRecDepth 100000 in
theorem c_Model_waiting {l : Launch} {D : va_G} {ad : Nat → Nat} {G : Nat → ClassId}  {M : Mem} {x : Int32 × Mem} (hf : f_Model_waiting M = some x) : Met l y_Model_waiting (wc y_Model_waiting b_Model_waiting 1 (some .int)) rm_Model_waiting (va_Pc [.ref (ad 0)] (tB D ad G M)) (wr_Q (some (.int x.1)) D cls 15 ad (tE ad G x.2)) 0 0 (wl_A 15 ad) := by
  refine k_met (by decide) (Nat.le_of_ble_eq_true rfl) ?_
  intro p e s m args below meth c S hr hlk hB ls hl
  obtain ⟨hx, hb, hml, hown, hts⟩ := id S
  obtain ⟨hP, hK, hA0⟩ := hB
  have hA := wl_own hA0
  have hl : lv_has ls 1 [(0, .ref (ad 0))] := hl
  have hS : va_S (wl_A 15 ad) s.heap s.heap [] := va_S.rf
  unfold f_Model_waiting at hf
  refine lv_aload_n hx hb d_Model_waiting_0 rfl (lv_at hl 0 rfl) ?_
  refine lv_iconst (v := 0) hx hb d_Model_waiting_1 (by decide) ?_
  refine m_put (t := 0) (a := 0) (b := 0) (x := 0) (ci := 5) (C := R_Model) (T := F_Model) (N := 24) hx hb hts in_Model t_Model ty_Model nm_Model hown hK hP hA hS tJ 0 (by decide) (Model_fs ad) (fun _ => rfl) ⟨rfl, rfl, rfl⟩ rfl 0 (by decide) (hts _ fl_Model_57) rfl (by decide +kernel) (fun _ => ⟨Nat.le_of_ble_eq_true rfl, rfl⟩) d_Model_waiting_2 (fun H locs hP hS => ?_)
  refine lv_aload_n hx hb d_Model_waiting_5 rfl (lv_at hl 0 rfl) ?_
  refine va_get (D := D) (ci := 5) (v := .int ((mset M 0 0 0 0 0) 0 0 0 8)) (C := R_Model) (T := F_Model) (N := 24) hx hb hts in_Model hown hK hP 0 (wl_to (by decide) (MO_at)) rfl 8 (by decide) (hts _ fl_Model_76) (fun _ h => h) rfl d_Model_waiting_6 ?_
  cases hf
  exact w_iret hx hb hr hlk hP hS d_Model_waiting_9
def f_Model_lost (M : Mem) : Option (Int32 × Mem) :=
  some (((mset M 0 0 0 0 0) 0 0 0 9), (mset M 0 0 0 0 0))
abbrev rm_Model_lost : Room := { frames := 0, cells := 0, slots := 0, locals := 0 }
set_option maxHeartbeats 4000000 in
set_option maxRecDepth 100000 in
theorem c_Model_lost {l : Launch} {D : va_G} {ad : Nat → Nat} {G : Nat → ClassId}  {M : Mem} {x : Int32 × Mem} (hf : f_Model_lost M = some x) : Met l y_Model_lost (wc y_Model_lost b_Model_lost 1 (some .int)) rm_Model_lost (va_Pc [.ref (ad 0)] (tB D ad G M)) (wr_Q (some (.int x.1)) D cls 15 ad (tE ad G x.2)) 0 0 (wl_A 15 ad) := by
  refine k_met (by decide) (Nat.le_of_ble_eq_true rfl) ?_
  intro p e s m args below meth c S hr hlk hB ls hl
  obtain ⟨hx, hb, hml, hown, hts⟩ := id S
  obtain ⟨hP, hK, hA0⟩ := hB
  have hA := wl_own hA0
  have hl : lv_has ls 1 [(0, .ref (ad 0))] := hl
  have hS : va_S (wl_A 15 ad) s.heap s.heap [] := va_S.rf
  unfold f_Model_lost at hf
  refine lv_aload_n hx hb d_Model_lost_0 rfl (lv_at hl 0 rfl) ?_
  refine lv_iconst (v := 0) hx hb d_Model_lost_1 (by decide) ?_
  refine m_put (t := 0) (a := 0) (b := 0) (x := 0) (ci := 5) (C := R_Model) (T := F_Model) (N := 24) hx hb hts in_Model t_Model ty_Model nm_Model hown hK hP hA hS tJ 0 (by decide) (Model_fs ad) (fun _ => rfl) ⟨rfl, rfl, rfl⟩ rfl 0 (by decide) (hts _ fl_Model_57) rfl (by decide +kernel) (fun _ => ⟨Nat.le_of_ble_eq_true rfl, rfl⟩) d_Model_lost_2 (fun H locs hP hS => ?_)
  refine lv_aload_n hx hb d_Model_lost_5 rfl (lv_at hl 0 rfl) ?_
  refine va_get (D := D) (ci := 5) (v := .int ((mset M 0 0 0 0 0) 0 0 0 9)) (C := R_Model) (T := F_Model) (N := 24) hx hb hts in_Model hown hK hP 0 (wl_to (by decide) (MO_at)) rfl 9 (by decide) (hts _ fl_Model_79) (fun _ h => h) rfl d_Model_lost_6 ?_
  cases hf
  exact w_iret hx hb hr hlk hP hS d_Model_lost_9
def f_Model_forget_109 (a : Int32) (b : Int32) : Nat → Int32 → Mem → Option (Mem)
  | 0, _, _ => none
  | k109 + 1, v3_109, N109 =>
    if 8 ≤ v3_109 then (some N109) else ((ix (((48 * a) + (8 * b)) + v3_109) 288).bind fun j131 => (ix (((48 * b) + (8 * a)) + v3_109) 288).bind fun j148 => f_Model_forget_109 a b k109 (v3_109 + 1) (mset (mset N109 6 0 0 j131 0) 6 0 0 j148 0))
def f_Model_forget_64 (a : Int32) (b : Int32) : Nat → Int32 → Mem → Option (Mem)
  | 0, _, _ => none
  | k64 + 1, v3_64, N64 =>
    if 4 ≤ v3_64 then (f_Model_forget_109 a b 1000 0 N64) else ((ix (((24 * a) + (4 * b)) + v3_64) 144).bind fun j84 => (ix (((24 * b) + (4 * a)) + v3_64) 144).bind fun j100 => f_Model_forget_64 a b k64 (v3_64 + 1) (mset (mset N64 5 0 0 j84 0) 5 0 0 j100 0))
def f_Model_forget_j56 (v3_7 : Int32) (kk7 : Int32 → Mem → Option (Mem)) (N56 : Mem) : Option (Mem) :=
    kk7 (v3_7 + (-1)) N56
def f_Model_forget_7 (a : Int32) (b : Int32) : Nat → Int32 → Mem → Option (Mem)
  | 0, _, _ => none
  | k7 + 1, v3_7, N7 =>
    if v3_7 < 0 then (f_Model_forget_64 a b 1000 0 N7) else ((ix v3_7 240).bind fun j16 => if (N7 7 0 0 j16) = a then ((ix v3_7 240).bind fun j26 => if (N7 8 0 0 j26) = b then ((f_Model_dropMessage v3_7 N7).bind fun r53 => f_Model_forget_j56 v3_7 (fun u0 u1 => f_Model_forget_7 a b k7 u0 u1) r53) else ((ix v3_7 240).bind fun j36 => if (N7 7 0 0 j36) = b then ((ix v3_7 240).bind fun j46 => if (N7 8 0 0 j46) = a then ((f_Model_dropMessage v3_7 N7).bind fun r53 => f_Model_forget_j56 v3_7 (fun u0 u1 => f_Model_forget_7 a b k7 u0 u1) r53) else (f_Model_forget_j56 v3_7 (fun u0 u1 => f_Model_forget_7 a b k7 u0 u1) N7)) else (f_Model_forget_j56 v3_7 (fun u0 u1 => f_Model_forget_7 a b k7 u0 u1) N7))) else ((ix v3_7 240).bind fun j36 => if (N7 7 0 0 j36) = b then ((ix v3_7 240).bind fun j46 => if (N7 8 0 0 j46) = a then ((f_Model_dropMessage v3_7 N7).bind fun r53 => f_Model_forget_j56 v3_7 (fun u0 u1 => f_Model_forget_7 a b k7 u0 u1) r53) else (f_Model_forget_j56 v3_7 (fun u0 u1 => f_Model_forget_7 a b k7 u0 u1) N7)) else (f_Model_forget_j56 v3_7 (fun u0 u1 => f_Model_forget_7 a b k7 u0 u1) N7)))
def f_Model_forget (a : Int32) (b : Int32) (M : Mem) : Option (Mem) :=
  f_Model_forget_7 a b 1000 ((M 0 0 0 8) - 1) M
abbrev rm_Model_forget : Room := { frames := 1, cells := 0, slots := 0, locals := 22 }
set_option maxHeartbeats 4000000 in
set_option maxRecDepth 100000 in
theorem c_Model_forget {l : Launch} {D : va_G} {ad : Nat → Nat} {G : Nat → ClassId} {a : Int32} {b : Int32}  {M : Mem} {x : Mem} (hf : f_Model_forget a b M = some x) : Met l y_Model_forget (wc y_Model_forget b_Model_forget 4 (none)) rm_Model_forget (va_Pc [.ref (ad 0), .int a, .int b] (tB D ad G M)) (wr_Q (none) D cls 15 ad (tE ad G x)) 0 0 (wl_A 15 ad) := by
  refine k_met (by decide) (Nat.le_of_ble_eq_true rfl) ?_
  intro p e s m args below meth c S hr hlk hB ls hl
  obtain ⟨hx, hb, hml, hown, hts⟩ := id S
  obtain ⟨hP, hK, hA0⟩ := hB
  have hA := wl_own hA0
  have hl : lv_has ls 4 [(0, .ref (ad 0)), (1, .int a), (2, .int b)] := hl
  have hS : va_S (wl_A 15 ad) s.heap s.heap [] := va_S.rf
  unfold f_Model_forget at hf
  refine lv_aload_n hx hb d_Model_forget_0 rfl (lv_at hl 0 rfl) ?_
  refine va_get (D := D) (ci := 5) (v := .int (M 0 0 0 8)) (C := R_Model) (T := F_Model) (N := 24) hx hb hts in_Model hown hK hP 0 (wl_to (by decide) (MO_at)) rfl 8 (by decide) (hts _ fl_Model_76) (fun _ h => h) rfl d_Model_forget_1 ?_
  refine lv_iconst (v := 1) hx hb d_Model_forget_4 (by decide) ?_
  refine lv_isub hx hb d_Model_forget_5 ?_
  refine lv_istore_n (lv' := [(3, .int ((M 0 0 0 8) - 1)), (0, .ref (ad 0)), (1, .int a), (2, .int b)]) hx hb d_Model_forget_6 rfl hl (by decide) rfl (fun ls hl => ?_)
  have L7 : ∀ (k7 : Nat) (v3_7 : Int32) (N7 : Mem) (H : Heap) (locs : List Loc) (ls : Array Slot), lv_has ls 4 [(3, .int v3_7), (0, .ref (ad 0)), (1, .int a), (2, .int b)] → va_P D cls (tW ad G N7) H → va_S (wl_A 15 ad) s.heap H locs → f_Model_forget_7 a b k7 v3_7 N7 = some x → W p l e rm_Model_forget s m args below meth c H locs 0 0 (MQ below (wr_Q (none) D cls 15 ad (tE ad G x)) args s 0 0 (wl_A 15 ad)) (F0 m 7 ls []) := by
    intro k7
    induction k7 with
    | zero =>
      intro v3_7 N7 H locs ls hl hP hS hf
      simp [f_Model_forget_7] at hf
    | succ k7 ih7 =>
      intro v3_7 N7 H locs ls hl hP hS hf
      rw [f_Model_forget_7] at hf
      refine lv_iload_n hx hb d_Model_forget_7 rfl (lv_at hl 0 rfl) ?_
      refine lv_if_lt (tgt := 62) hx hb d_Model_forget_8 (by decide) (fun h8 => ?_) (fun h8 => ?_)
      · rw [if_pos h8] at hf
        refine lv_iconst (v := 0) hx hb d_Model_forget_62 (by decide) ?_
        refine lv_istore_n (lv' := [(3, .int 0), (0, .ref (ad 0)), (1, .int a), (2, .int b)]) hx hb d_Model_forget_63 rfl hl (by decide) rfl (fun ls hl => ?_)
        have L64 : ∀ (k64 : Nat) (v3_64 : Int32) (N64 : Mem) (H : Heap) (locs : List Loc) (ls : Array Slot), lv_has ls 4 [(3, .int v3_64), (0, .ref (ad 0)), (1, .int a), (2, .int b)] → va_P D cls (tW ad G N64) H → va_S (wl_A 15 ad) s.heap H locs → f_Model_forget_64 a b k64 v3_64 N64 = some x → W p l e rm_Model_forget s m args below meth c H locs 0 0 (MQ below (wr_Q (none) D cls 15 ad (tE ad G x)) args s 0 0 (wl_A 15 ad)) (F0 m 64 ls []) := by
          intro k64
          induction k64 with
          | zero =>
            intro v3_64 N64 H locs ls hl hP hS hf
            simp [f_Model_forget_64] at hf
          | succ k64 ih64 =>
            intro v3_64 N64 H locs ls hl hP hS hf
            rw [f_Model_forget_64] at hf
            refine lv_iload_n hx hb d_Model_forget_64 rfl (lv_at hl 0 rfl) ?_
            refine lv_iconst (v := 4) hx hb d_Model_forget_65 (by decide) ?_
            refine lv_icmp_ge (tgt := 107) hx hb d_Model_forget_66 (by decide) (fun h66 => ?_) (fun h66 => ?_)
            · rw [if_pos h66] at hf
              refine lv_iconst (v := 0) hx hb d_Model_forget_107 (by decide) ?_
              refine lv_istore_n (lv' := [(3, .int 0), (0, .ref (ad 0)), (1, .int a), (2, .int b)]) hx hb d_Model_forget_108 rfl hl (by decide) rfl (fun ls hl => ?_)
              have L109 : ∀ (k109 : Nat) (v3_109 : Int32) (N109 : Mem) (H : Heap) (locs : List Loc) (ls : Array Slot), lv_has ls 4 [(3, .int v3_109), (0, .ref (ad 0)), (1, .int a), (2, .int b)] → va_P D cls (tW ad G N109) H → va_S (wl_A 15 ad) s.heap H locs → f_Model_forget_109 a b k109 v3_109 N109 = some x → W p l e rm_Model_forget s m args below meth c H locs 0 0 (MQ below (wr_Q (none) D cls 15 ad (tE ad G x)) args s 0 0 (wl_A 15 ad)) (F0 m 109 ls []) := by
                intro k109
                induction k109 with
                | zero =>
                  intro v3_109 N109 H locs ls hl hP hS hf
                  simp [f_Model_forget_109] at hf
                | succ k109 ih109 =>
                  intro v3_109 N109 H locs ls hl hP hS hf
                  rw [f_Model_forget_109] at hf
                  refine lv_iload_n hx hb d_Model_forget_109 rfl (lv_at hl 0 rfl) ?_
                  refine lv_bipush (v := 8) hx hb d_Model_forget_110 (by decide) ?_
                  refine lv_icmp_ge (tgt := 155) hx hb d_Model_forget_112 (by decide) (fun h112 => ?_) (fun h112 => ?_)
                  · rw [if_pos h112] at hf
                    cases hf
                    exact w_vret hx hb hr hlk hP hS d_Model_forget_155
                  · rw [if_neg h112] at hf
                    refine lv_aload_n hx hb d_Model_forget_115 rfl (lv_at hl 1 rfl) ?_
                    refine va_get (D := D) (ci := 5) (v := .ref (ad 6)) (C := R_Model) (T := F_Model) (N := 24) hx hb hts in_Model hown hK hP 0 (wl_to (by decide) (MO_at)) rfl 7 (by decide) (hts _ fl_Model_25) (fun _ h => h) rfl d_Model_forget_116 ?_
                    refine lv_bipush (v := 48) hx hb d_Model_forget_119 (by decide) ?_
                    refine lv_iload_n hx hb d_Model_forget_121 rfl (lv_at hl 2 rfl) ?_
                    refine lv_imul hx hb d_Model_forget_122 ?_
                    refine lv_bipush (v := 8) hx hb d_Model_forget_123 (by decide) ?_
                    refine lv_iload_n hx hb d_Model_forget_125 rfl (lv_at hl 3 rfl) ?_
                    refine lv_imul hx hb d_Model_forget_126 ?_
                    refine lv_iadd hx hb d_Model_forget_127 ?_
                    refine lv_iload_n hx hb d_Model_forget_128 rfl (lv_at hl 0 rfl) ?_
                    refine lv_iadd hx hb d_Model_forget_129 ?_
                    refine lv_iconst (v := 0) hx hb d_Model_forget_130 (by decide) ?_
                    obtain ⟨j131, hj131, hf⟩ := ob hf
                    refine m_zast (t := 6) (a := 0) (b := 0) (x := 0) hx hb hK hP hA hS tJ 6 3 (by decide) ⟨rfl, rfl, rfl⟩ (fun f => OWE_row f) rfl hj131 (by decide +kernel) d_Model_forget_131 (fun H locs hP hS => ?_)
                    refine lv_aload_n hx hb d_Model_forget_132 rfl (lv_at hl 1 rfl) ?_
                    refine va_get (D := D) (ci := 5) (v := .ref (ad 6)) (C := R_Model) (T := F_Model) (N := 24) hx hb hts in_Model hown hK hP 0 (wl_to (by decide) (MO_at)) rfl 7 (by decide) (hts _ fl_Model_25) (fun _ h => h) rfl d_Model_forget_133 ?_
                    refine lv_bipush (v := 48) hx hb d_Model_forget_136 (by decide) ?_
                    refine lv_iload_n hx hb d_Model_forget_138 rfl (lv_at hl 3 rfl) ?_
                    refine lv_imul hx hb d_Model_forget_139 ?_
                    refine lv_bipush (v := 8) hx hb d_Model_forget_140 (by decide) ?_
                    refine lv_iload_n hx hb d_Model_forget_142 rfl (lv_at hl 2 rfl) ?_
                    refine lv_imul hx hb d_Model_forget_143 ?_
                    refine lv_iadd hx hb d_Model_forget_144 ?_
                    refine lv_iload_n hx hb d_Model_forget_145 rfl (lv_at hl 0 rfl) ?_
                    refine lv_iadd hx hb d_Model_forget_146 ?_
                    refine lv_iconst (v := 0) hx hb d_Model_forget_147 (by decide) ?_
                    obtain ⟨j148, hj148, hf⟩ := ob hf
                    refine m_zast (t := 6) (a := 0) (b := 0) (x := 0) hx hb hK hP hA hS tJ 6 3 (by decide) ⟨rfl, rfl, rfl⟩ (fun f => OWE_row f) rfl hj148 (by decide +kernel) d_Model_forget_148 (fun H locs hP hS => ?_)
                    refine lv_iinc (v := (v3_109 + 1)) (lv' := [(3, .int (v3_109 + 1)), (0, .ref (ad 0)), (1, .int a), (2, .int b)]) hx hb d_Model_forget_149 hl (k := 0) rfl rfl (by decide) rfl (fun ls hl => ?_)
                    refine lv_goto (tgt := 109) hx hb d_Model_forget_152 (by decide) ?_
                    exact ih109 _ _ _ _ _ (lv_sub hl [0, 1, 2, 3] rfl) hP hS hf
              exact L109 _ _ _ _ _ _ (lv_sub hl [0, 1, 2, 3] rfl) hP hS hf
            · rw [if_neg h66] at hf
              refine lv_aload_n hx hb d_Model_forget_69 rfl (lv_at hl 1 rfl) ?_
              refine va_get (D := D) (ci := 5) (v := .ref (ad 5)) (C := R_Model) (T := F_Model) (N := 24) hx hb hts in_Model hown hK hP 0 (wl_to (by decide) (MO_at)) rfl 6 (by decide) (hts _ fl_Model_22) (fun _ h => h) rfl d_Model_forget_70 ?_
              refine lv_bipush (v := 24) hx hb d_Model_forget_73 (by decide) ?_
              refine lv_iload_n hx hb d_Model_forget_75 rfl (lv_at hl 2 rfl) ?_
              refine lv_imul hx hb d_Model_forget_76 ?_
              refine lv_iconst (v := 4) hx hb d_Model_forget_77 (by decide) ?_
              refine lv_iload_n hx hb d_Model_forget_78 rfl (lv_at hl 3 rfl) ?_
              refine lv_imul hx hb d_Model_forget_79 ?_
              refine lv_iadd hx hb d_Model_forget_80 ?_
              refine lv_iload_n hx hb d_Model_forget_81 rfl (lv_at hl 0 rfl) ?_
              refine lv_iadd hx hb d_Model_forget_82 ?_
              refine lv_iconst (v := 0) hx hb d_Model_forget_83 (by decide) ?_
              obtain ⟨j84, hj84, hf⟩ := ob hf
              refine m_iast (t := 5) (a := 0) (b := 0) (x := 0) hx hb hK hP hA hS tJ 5 0 (by decide) ⟨rfl, rfl, rfl⟩ (fun f => TLD_row f) rfl hj84 d_Model_forget_84 (fun H locs hP hS => ?_)
              refine lv_aload_n hx hb d_Model_forget_85 rfl (lv_at hl 1 rfl) ?_
              refine va_get (D := D) (ci := 5) (v := .ref (ad 5)) (C := R_Model) (T := F_Model) (N := 24) hx hb hts in_Model hown hK hP 0 (wl_to (by decide) (MO_at)) rfl 6 (by decide) (hts _ fl_Model_22) (fun _ h => h) rfl d_Model_forget_86 ?_
              refine lv_bipush (v := 24) hx hb d_Model_forget_89 (by decide) ?_
              refine lv_iload_n hx hb d_Model_forget_91 rfl (lv_at hl 3 rfl) ?_
              refine lv_imul hx hb d_Model_forget_92 ?_
              refine lv_iconst (v := 4) hx hb d_Model_forget_93 (by decide) ?_
              refine lv_iload_n hx hb d_Model_forget_94 rfl (lv_at hl 2 rfl) ?_
              refine lv_imul hx hb d_Model_forget_95 ?_
              refine lv_iadd hx hb d_Model_forget_96 ?_
              refine lv_iload_n hx hb d_Model_forget_97 rfl (lv_at hl 0 rfl) ?_
              refine lv_iadd hx hb d_Model_forget_98 ?_
              refine lv_iconst (v := 0) hx hb d_Model_forget_99 (by decide) ?_
              obtain ⟨j100, hj100, hf⟩ := ob hf
              refine m_iast (t := 5) (a := 0) (b := 0) (x := 0) hx hb hK hP hA hS tJ 5 0 (by decide) ⟨rfl, rfl, rfl⟩ (fun f => TLD_row f) rfl hj100 d_Model_forget_100 (fun H locs hP hS => ?_)
              refine lv_iinc (v := (v3_64 + 1)) (lv' := [(3, .int (v3_64 + 1)), (0, .ref (ad 0)), (1, .int a), (2, .int b)]) hx hb d_Model_forget_101 hl (k := 0) rfl rfl (by decide) rfl (fun ls hl => ?_)
              refine lv_goto (tgt := 64) hx hb d_Model_forget_104 (by decide) ?_
              exact ih64 _ _ _ _ _ (lv_sub hl [0, 1, 2, 3] rfl) hP hS hf
        exact L64 _ _ _ _ _ _ (lv_sub hl [0, 1, 2, 3] rfl) hP hS hf
      · rw [if_neg h8] at hf
        refine lv_aload_n hx hb d_Model_forget_11 rfl (lv_at hl 1 rfl) ?_
        refine va_get (D := D) (ci := 5) (v := .ref (ad 7)) (C := R_Model) (T := F_Model) (N := 24) hx hb hts in_Model hown hK hP 0 (wl_to (by decide) (MO_at)) rfl 10 (by decide) (hts _ fl_Model_29) (fun _ h => h) rfl d_Model_forget_12 ?_
        refine lv_iload_n hx hb d_Model_forget_15 rfl (lv_at hl 0 rfl) ?_
        obtain ⟨j16, hj16, hf⟩ := ob hf
        refine k_iald hx hb hK hP 7 0 (by decide) (FROM_at) rfl hj16 d_Model_forget_16 ?_
        refine lv_iload_n hx hb d_Model_forget_17 rfl (lv_at hl 2 rfl) ?_
        have J56 : ∀ (N56 : Mem) (H : Heap) (locs : List Loc) (ls : Array Slot), lv_has ls 4 [(3, .int v3_7), (0, .ref (ad 0)), (1, .int a), (2, .int b)] → va_P D cls (tW ad G N56) H → va_S (wl_A 15 ad) s.heap H locs → f_Model_forget_j56 v3_7 (fun u0 u1 => f_Model_forget_7 a b k7 u0 u1) N56 = some x → W p l e rm_Model_forget s m args below meth c H locs 0 0 (MQ below (wr_Q (none) D cls 15 ad (tE ad G x)) args s 0 0 (wl_A 15 ad)) (F0 m 56 ls []) := by
          intro N56 H locs ls hl hP hS hf
          unfold f_Model_forget_j56 at hf
          refine lv_iinc (v := (v3_7 + (-1))) (lv' := [(3, .int (v3_7 + (-1))), (0, .ref (ad 0)), (1, .int a), (2, .int b)]) hx hb d_Model_forget_56 hl (k := 0) rfl rfl (by decide) rfl (fun ls hl => ?_)
          refine lv_goto (tgt := 7) hx hb d_Model_forget_59 (by decide) ?_
          exact ih7 _ _ _ _ _ (lv_sub hl [0, 1, 2, 3] rfl) hP hS hf
        refine lv_icmp_ne (tgt := 31) hx hb d_Model_forget_18 (by decide) (fun h18 => ?_) (fun h18 => ?_)
        · rw [if_neg h18] at hf
          refine lv_aload_n hx hb d_Model_forget_31 rfl (lv_at hl 1 rfl) ?_
          refine va_get (D := D) (ci := 5) (v := .ref (ad 7)) (C := R_Model) (T := F_Model) (N := 24) hx hb hts in_Model hown hK hP 0 (wl_to (by decide) (MO_at)) rfl 10 (by decide) (hts _ fl_Model_29) (fun _ h => h) rfl d_Model_forget_32 ?_
          refine lv_iload_n hx hb d_Model_forget_35 rfl (lv_at hl 0 rfl) ?_
          obtain ⟨j36, hj36, hf⟩ := ob hf
          refine k_iald hx hb hK hP 7 0 (by decide) (FROM_at) rfl hj36 d_Model_forget_36 ?_
          refine lv_iload_n hx hb d_Model_forget_37 rfl (lv_at hl 3 rfl) ?_
          refine lv_icmp_ne (tgt := 56) hx hb d_Model_forget_38 (by decide) (fun h38 => ?_) (fun h38 => ?_)
          · rw [if_neg h38] at hf
            exact J56 _ _ _ _ (lv_sub hl [0, 1, 2, 3] rfl) hP hS hf
          · rw [if_pos h38] at hf
            refine lv_aload_n hx hb d_Model_forget_41 rfl (lv_at hl 1 rfl) ?_
            refine va_get (D := D) (ci := 5) (v := .ref (ad 8)) (C := R_Model) (T := F_Model) (N := 24) hx hb hts in_Model hown hK hP 0 (wl_to (by decide) (MO_at)) rfl 11 (by decide) (hts _ fl_Model_32) (fun _ h => h) rfl d_Model_forget_42 ?_
            refine lv_iload_n hx hb d_Model_forget_45 rfl (lv_at hl 0 rfl) ?_
            obtain ⟨j46, hj46, hf⟩ := ob hf
            refine k_iald hx hb hK hP 8 0 (by decide) (TOO_at) rfl hj46 d_Model_forget_46 ?_
            refine lv_iload_n hx hb d_Model_forget_47 rfl (lv_at hl 2 rfl) ?_
            refine lv_icmp_ne (tgt := 56) hx hb d_Model_forget_48 (by decide) (fun h48 => ?_) (fun h48 => ?_)
            · rw [if_neg h48] at hf
              exact J56 _ _ _ _ (lv_sub hl [0, 1, 2, 3] rfl) hP hS hf
            · rw [if_pos h48] at hf
              refine lv_aload_n hx hb d_Model_forget_51 rfl (lv_at hl 1 rfl) ?_
              refine lv_iload_n hx hb d_Model_forget_52 rfl (lv_at hl 0 rfl) ?_
              obtain ⟨r53, hc53, hf⟩ := ob hf
              refine k_wrv (k_vir S (c_Model_dropMessage (l := l) (D := D) (ad := ad) (G := G) hc53) g_Model_103 hd_Model_dropMessage ⟨rfl, rfl⟩ ⟨Nat.le_of_ble_eq_true rfl, Nat.le_of_ble_eq_true rfl⟩ wl_blind (va_recv hK hP rfl (wl_to (by decide) (MO_at))) (wl_pre hP hK hA) rfl hl.1 rfl (Nat.le_of_ble_eq_true rfl) d_Model_forget_53 (Nat.zero_le _) (Nat.zero_le _)) hS (fun _ h => h) (fun H locs hP _ _ hS => ?_)
              exact J56 _ _ _ _ (lv_sub hl [0, 1, 2, 3] rfl) hP hS hf
        · rw [if_pos h18] at hf
          refine lv_aload_n hx hb d_Model_forget_21 rfl (lv_at hl 1 rfl) ?_
          refine va_get (D := D) (ci := 5) (v := .ref (ad 8)) (C := R_Model) (T := F_Model) (N := 24) hx hb hts in_Model hown hK hP 0 (wl_to (by decide) (MO_at)) rfl 11 (by decide) (hts _ fl_Model_32) (fun _ h => h) rfl d_Model_forget_22 ?_
          refine lv_iload_n hx hb d_Model_forget_25 rfl (lv_at hl 0 rfl) ?_
          obtain ⟨j26, hj26, hf⟩ := ob hf
          refine k_iald hx hb hK hP 8 0 (by decide) (TOO_at) rfl hj26 d_Model_forget_26 ?_
          refine lv_iload_n hx hb d_Model_forget_27 rfl (lv_at hl 3 rfl) ?_
          refine lv_icmp_eq (tgt := 51) hx hb d_Model_forget_28 (by decide) (fun h28 => ?_) (fun h28 => ?_)
          · rw [if_pos h28] at hf
            refine lv_aload_n hx hb d_Model_forget_51 rfl (lv_at hl 1 rfl) ?_
            refine lv_iload_n hx hb d_Model_forget_52 rfl (lv_at hl 0 rfl) ?_
            obtain ⟨r53, hc53, hf⟩ := ob hf
            refine k_wrv (k_vir S (c_Model_dropMessage (l := l) (D := D) (ad := ad) (G := G) hc53) g_Model_103 hd_Model_dropMessage ⟨rfl, rfl⟩ ⟨Nat.le_of_ble_eq_true rfl, Nat.le_of_ble_eq_true rfl⟩ wl_blind (va_recv hK hP rfl (wl_to (by decide) (MO_at))) (wl_pre hP hK hA) rfl hl.1 rfl (Nat.le_of_ble_eq_true rfl) d_Model_forget_53 (Nat.zero_le _) (Nat.zero_le _)) hS (fun _ h => h) (fun H locs hP _ _ hS => ?_)
            exact J56 _ _ _ _ (lv_sub hl [0, 1, 2, 3] rfl) hP hS hf
          · rw [if_neg h28] at hf
            refine lv_aload_n hx hb d_Model_forget_31 rfl (lv_at hl 1 rfl) ?_
            refine va_get (D := D) (ci := 5) (v := .ref (ad 7)) (C := R_Model) (T := F_Model) (N := 24) hx hb hts in_Model hown hK hP 0 (wl_to (by decide) (MO_at)) rfl 10 (by decide) (hts _ fl_Model_29) (fun _ h => h) rfl d_Model_forget_32 ?_
            refine lv_iload_n hx hb d_Model_forget_35 rfl (lv_at hl 0 rfl) ?_
            obtain ⟨j36, hj36, hf⟩ := ob hf
            refine k_iald hx hb hK hP 7 0 (by decide) (FROM_at) rfl hj36 d_Model_forget_36 ?_
            refine lv_iload_n hx hb d_Model_forget_37 rfl (lv_at hl 3 rfl) ?_
            refine lv_icmp_ne (tgt := 56) hx hb d_Model_forget_38 (by decide) (fun h38 => ?_) (fun h38 => ?_)
            · rw [if_neg h38] at hf
              exact J56 _ _ _ _ (lv_sub hl [0, 1, 2, 3] rfl) hP hS hf
            · rw [if_pos h38] at hf
              refine lv_aload_n hx hb d_Model_forget_41 rfl (lv_at hl 1 rfl) ?_
              refine va_get (D := D) (ci := 5) (v := .ref (ad 8)) (C := R_Model) (T := F_Model) (N := 24) hx hb hts in_Model hown hK hP 0 (wl_to (by decide) (MO_at)) rfl 11 (by decide) (hts _ fl_Model_32) (fun _ h => h) rfl d_Model_forget_42 ?_
              refine lv_iload_n hx hb d_Model_forget_45 rfl (lv_at hl 0 rfl) ?_
              obtain ⟨j46, hj46, hf⟩ := ob hf
              refine k_iald hx hb hK hP 8 0 (by decide) (TOO_at) rfl hj46 d_Model_forget_46 ?_
              refine lv_iload_n hx hb d_Model_forget_47 rfl (lv_at hl 2 rfl) ?_
              refine lv_icmp_ne (tgt := 56) hx hb d_Model_forget_48 (by decide) (fun h48 => ?_) (fun h48 => ?_)
              · rw [if_neg h48] at hf
                exact J56 _ _ _ _ (lv_sub hl [0, 1, 2, 3] rfl) hP hS hf
              · rw [if_pos h48] at hf
                refine lv_aload_n hx hb d_Model_forget_51 rfl (lv_at hl 1 rfl) ?_
                refine lv_iload_n hx hb d_Model_forget_52 rfl (lv_at hl 0 rfl) ?_
                obtain ⟨r53, hc53, hf⟩ := ob hf
                refine k_wrv (k_vir S (c_Model_dropMessage (l := l) (D := D) (ad := ad) (G := G) hc53) g_Model_103 hd_Model_dropMessage ⟨rfl, rfl⟩ ⟨Nat.le_of_ble_eq_true rfl, Nat.le_of_ble_eq_true rfl⟩ wl_blind (va_recv hK hP rfl (wl_to (by decide) (MO_at))) (wl_pre hP hK hA) rfl hl.1 rfl (Nat.le_of_ble_eq_true rfl) d_Model_forget_53 (Nat.zero_le _) (Nat.zero_le _)) hS (fun _ h => h) (fun H locs hP _ _ hS => ?_)
                exact J56 _ _ _ _ (lv_sub hl [0, 1, 2, 3] rfl) hP hS hf
  exact L7 _ _ _ _ _ _ (lv_sub hl [0, 1, 2, 3] rfl) hP hS hf
def f_Model_tellLabels_j38 (v3_2 : Int32) (kk2 : Int32 → Mem → Option (Mem)) (N38 : Mem) : Option (Mem) :=
    kk2 (v3_2 + 1) N38
def f_Model_tellLabels_2 (a : Int32) (b : Int32) : Nat → Int32 → Mem → Option (Mem)
  | 0, _, _ => none
  | k2 + 1, v3_2, N2 =>
    if 4 ≤ v3_2 then (some N2) else ((ix ((4 * a) + v3_2) 24).bind fun j16 => if (N2 4 0 0 j16) ≤ 0 then (f_Model_tellLabels_j38 v3_2 (fun u0 u1 => f_Model_tellLabels_2 a b k2 u0 u1) N2) else ((ix ((4 * a) + v3_2) 24).bind fun j34 => (f_Model_post a b 1 v3_2 (N2 4 0 0 j34) N2).bind fun r35 => f_Model_tellLabels_j38 v3_2 (fun u0 u1 => f_Model_tellLabels_2 a b k2 u0 u1) r35))
def f_Model_tellLabels (a : Int32) (b : Int32) (M : Mem) : Option (Mem) :=
  f_Model_tellLabels_2 a b 1000 0 M
abbrev rm_Model_tellLabels : Room := { frames := 1, cells := 0, slots := 0, locals := 25 }
set_option maxHeartbeats 4000000 in
set_option maxRecDepth 100000 in
theorem c_Model_tellLabels {l : Launch} {D : va_G} {ad : Nat → Nat} {G : Nat → ClassId} {a : Int32} {b : Int32}  {M : Mem} {x : Mem} (hf : f_Model_tellLabels a b M = some x) : Met l y_Model_tellLabels (wc y_Model_tellLabels b_Model_tellLabels 4 (none)) rm_Model_tellLabels (va_Pc [.ref (ad 0), .int a, .int b] (tB D ad G M)) (wr_Q (none) D cls 15 ad (tE ad G x)) 0 0 (wl_A 15 ad) := by
  refine k_met (by decide) (Nat.le_of_ble_eq_true rfl) ?_
  intro p e s m args below meth c S hr hlk hB ls hl
  obtain ⟨hx, hb, hml, hown, hts⟩ := id S
  obtain ⟨hP, hK, hA0⟩ := hB
  have hA := wl_own hA0
  have hl : lv_has ls 4 [(0, .ref (ad 0)), (1, .int a), (2, .int b)] := hl
  have hS : va_S (wl_A 15 ad) s.heap s.heap [] := va_S.rf
  unfold f_Model_tellLabels at hf
  refine lv_iconst (v := 0) hx hb d_Model_tellLabels_0 (by decide) ?_
  refine lv_istore_n (lv' := [(3, .int 0), (0, .ref (ad 0)), (1, .int a), (2, .int b)]) hx hb d_Model_tellLabels_1 rfl hl (by decide) rfl (fun ls hl => ?_)
  have L2 : ∀ (k2 : Nat) (v3_2 : Int32) (N2 : Mem) (H : Heap) (locs : List Loc) (ls : Array Slot), lv_has ls 4 [(3, .int v3_2), (0, .ref (ad 0)), (1, .int a), (2, .int b)] → va_P D cls (tW ad G N2) H → va_S (wl_A 15 ad) s.heap H locs → f_Model_tellLabels_2 a b k2 v3_2 N2 = some x → W p l e rm_Model_tellLabels s m args below meth c H locs 0 0 (MQ below (wr_Q (none) D cls 15 ad (tE ad G x)) args s 0 0 (wl_A 15 ad)) (F0 m 2 ls []) := by
    intro k2
    induction k2 with
    | zero =>
      intro v3_2 N2 H locs ls hl hP hS hf
      simp [f_Model_tellLabels_2] at hf
    | succ k2 ih2 =>
      intro v3_2 N2 H locs ls hl hP hS hf
      rw [f_Model_tellLabels_2] at hf
      refine lv_iload_n hx hb d_Model_tellLabels_2 rfl (lv_at hl 0 rfl) ?_
      refine lv_iconst (v := 4) hx hb d_Model_tellLabels_3 (by decide) ?_
      refine lv_icmp_ge (tgt := 44) hx hb d_Model_tellLabels_4 (by decide) (fun h4 => ?_) (fun h4 => ?_)
      · rw [if_pos h4] at hf
        cases hf
        exact w_vret hx hb hr hlk hP hS d_Model_tellLabels_44
      · rw [if_neg h4] at hf
        refine lv_aload_n hx hb d_Model_tellLabels_7 rfl (lv_at hl 1 rfl) ?_
        refine va_get (D := D) (ci := 5) (v := .ref (ad 4)) (C := R_Model) (T := F_Model) (N := 24) hx hb hts in_Model hown hK hP 0 (wl_to (by decide) (MO_at)) rfl 5 (by decide) (hts _ fl_Model_19) (fun _ h => h) rfl d_Model_tellLabels_8 ?_
        refine lv_iconst (v := 4) hx hb d_Model_tellLabels_11 (by decide) ?_
        refine lv_iload_n hx hb d_Model_tellLabels_12 rfl (lv_at hl 2 rfl) ?_
        refine lv_imul hx hb d_Model_tellLabels_13 ?_
        refine lv_iload_n hx hb d_Model_tellLabels_14 rfl (lv_at hl 0 rfl) ?_
        refine lv_iadd hx hb d_Model_tellLabels_15 ?_
        obtain ⟨j16, hj16, hf⟩ := ob hf
        refine k_iald hx hb hK hP 4 0 (by decide) (LAB_at) rfl hj16 d_Model_tellLabels_16 ?_
        have J38 : ∀ (N38 : Mem) (H : Heap) (locs : List Loc) (ls : Array Slot), lv_has ls 4 [(3, .int v3_2), (0, .ref (ad 0)), (1, .int a), (2, .int b)] → va_P D cls (tW ad G N38) H → va_S (wl_A 15 ad) s.heap H locs → f_Model_tellLabels_j38 v3_2 (fun u0 u1 => f_Model_tellLabels_2 a b k2 u0 u1) N38 = some x → W p l e rm_Model_tellLabels s m args below meth c H locs 0 0 (MQ below (wr_Q (none) D cls 15 ad (tE ad G x)) args s 0 0 (wl_A 15 ad)) (F0 m 38 ls []) := by
          intro N38 H locs ls hl hP hS hf
          unfold f_Model_tellLabels_j38 at hf
          refine lv_iinc (v := (v3_2 + 1)) (lv' := [(3, .int (v3_2 + 1)), (0, .ref (ad 0)), (1, .int a), (2, .int b)]) hx hb d_Model_tellLabels_38 hl (k := 0) rfl rfl (by decide) rfl (fun ls hl => ?_)
          refine lv_goto (tgt := 2) hx hb d_Model_tellLabels_41 (by decide) ?_
          exact ih2 _ _ _ _ _ (lv_sub hl [0, 1, 2, 3] rfl) hP hS hf
        refine lv_if_le (tgt := 38) hx hb d_Model_tellLabels_17 (by decide) (fun h17 => ?_) (fun h17 => ?_)
        · rw [if_pos h17] at hf
          exact J38 _ _ _ _ (lv_sub hl [0, 1, 2, 3] rfl) hP hS hf
        · rw [if_neg h17] at hf
          refine lv_aload_n hx hb d_Model_tellLabels_20 rfl (lv_at hl 1 rfl) ?_
          refine lv_iload_n hx hb d_Model_tellLabels_21 rfl (lv_at hl 2 rfl) ?_
          refine lv_iload_n hx hb d_Model_tellLabels_22 rfl (lv_at hl 3 rfl) ?_
          refine lv_iconst (v := 1) hx hb d_Model_tellLabels_23 (by decide) ?_
          refine lv_iload_n hx hb d_Model_tellLabels_24 rfl (lv_at hl 0 rfl) ?_
          refine lv_aload_n hx hb d_Model_tellLabels_25 rfl (lv_at hl 1 rfl) ?_
          refine va_get (D := D) (ci := 5) (v := .ref (ad 4)) (C := R_Model) (T := F_Model) (N := 24) hx hb hts in_Model hown hK hP 0 (wl_to (by decide) (MO_at)) rfl 5 (by decide) (hts _ fl_Model_19) (fun _ h => h) rfl d_Model_tellLabels_26 ?_
          refine lv_iconst (v := 4) hx hb d_Model_tellLabels_29 (by decide) ?_
          refine lv_iload_n hx hb d_Model_tellLabels_30 rfl (lv_at hl 2 rfl) ?_
          refine lv_imul hx hb d_Model_tellLabels_31 ?_
          refine lv_iload_n hx hb d_Model_tellLabels_32 rfl (lv_at hl 0 rfl) ?_
          refine lv_iadd hx hb d_Model_tellLabels_33 ?_
          obtain ⟨j34, hj34, hf⟩ := ob hf
          refine k_iald hx hb hK hP 4 0 (by decide) (LAB_at) rfl hj34 d_Model_tellLabels_34 ?_
          obtain ⟨r35, hc35, hf⟩ := ob hf
          refine k_wrv (k_vir S (c_Model_post (l := l) (D := D) (ad := ad) (G := G) hc35) g_Model_82 hd_Model_post ⟨rfl, rfl⟩ ⟨Nat.le_of_ble_eq_true rfl, Nat.le_of_ble_eq_true rfl⟩ wl_blind (va_recv hK hP rfl (wl_to (by decide) (MO_at))) (wl_pre hP hK hA) rfl hl.1 rfl (Nat.le_of_ble_eq_true rfl) d_Model_tellLabels_35 (Nat.zero_le _) (Nat.zero_le _)) hS (fun _ h => h) (fun H locs hP _ _ hS => ?_)
          exact J38 _ _ _ _ (lv_sub hl [0, 1, 2, 3] rfl) hP hS hf
  exact L2 _ _ _ _ _ _ (lv_sub hl [0, 1, 2, 3] rfl) hP hS hf
def f_Model_link_j145 (r25 : Int32 × Mem) (j43 : Nat) (N145 : Mem) : Option (Int32 × Mem) :=
    (f_Model_changed N145).bind fun r146 => some ((r25.2 1 0 0 j43), r146)
def f_Model_link_j142 (r25 : Int32 × Mem) (j43 : Nat) (r118 : Mem) (s0_132 : Int32) (s0_142 : Int32) : Option (Int32 × Mem) :=
    (f_Model_tellLabels s0_132 s0_142 r118).bind fun r142 => f_Model_link_j145 r25 j43 r142
def f_Model_link_j132 (a : Int32) (b : Int32) (r25 : Int32 × Mem) (j43 : Nat) (r118 : Mem) (s0_132 : Int32) : Option (Int32 × Mem) :=
    if b ≤ a then (f_Model_link_j142 r25 j43 r118 s0_132 b) else (f_Model_link_j142 r25 j43 r118 s0_132 a)
def f_Model_link_j118 (a : Int32) (b : Int32) (z : Int32) (r25 : Int32 × Mem) (j43 : Nat) (j66 : Nat) (j78 : Nat) (s0_108 : Int32) (s0_118 : Int32) : Option (Int32 × Mem) :=
    (f_Model_tellLabels s0_108 s0_118 (mset (mset r25.2 1 0 0 j66 z) 1 0 0 j78 z)).bind fun r118 => if b ≤ a then (f_Model_link_j132 a b r25 j43 r118 a) else (f_Model_link_j132 a b r25 j43 r118 b)
def f_Model_link_j108 (a : Int32) (b : Int32) (z : Int32) (r25 : Int32 × Mem) (j43 : Nat) (j66 : Nat) (j78 : Nat) (s0_108 : Int32) : Option (Int32 × Mem) :=
    if b ≤ a then (f_Model_link_j118 a b z r25 j43 j66 j78 s0_108 a) else (f_Model_link_j118 a b z r25 j43 j66 j78 s0_108 b)
def f_Model_link_j25 (a : Int32) (b : Int32) (z : Int32) (M : Mem) (s0_25 : Int32) : Option (Int32 × Mem) :=
    (f_Model_good s0_25 M).bind fun r25 => if r25.1 = 0 then (some (0, r25.2)) else ((ix ((6 * a) + b) 36).bind fun j43 => if (r25.2 1 0 0 j43) = z then (some ((r25.2 1 0 0 j43), r25.2)) else ((ix ((6 * a) + b) 36).bind fun j66 => (ix ((6 * b) + a) 36).bind fun j78 => if z = 0 then ((f_Model_forget a b (mset (mset r25.2 1 0 0 j66 z) 1 0 0 j78 z)).bind fun r86 => f_Model_link_j145 r25 j43 r86) else (if (r25.2 1 0 0 j43) = 0 then (if b ≤ a then (f_Model_link_j108 a b z r25 j43 j66 j78 b) else (f_Model_link_j108 a b z r25 j43 j66 j78 a)) else (f_Model_link_j145 r25 j43 (mset (mset r25.2 1 0 0 j66 z) 1 0 0 j78 z)))))
def f_Model_link (a : Int32) (b : Int32) (z : Int32) (M : Mem) : Option (Int32 × Mem) :=
  (f_Model_isPair a b M).bind fun r4 => if r4 = 0 then (f_Model_link_j25 a b z M 0) else ((f_Model_within z 0 15).bind fun r14 => if r14 = 0 then (f_Model_link_j25 a b z M 0) else (f_Model_link_j25 a b z M 1))
abbrev rm_Model_link : Room := { frames := 5, cells := 0, slots := 0, locals := 119 }
set_option maxHeartbeats 4000000 in
set_option maxRecDepth 100000 in
theorem c_Model_link {l : Launch} {D : va_G} {ad : Nat → Nat} {G : Nat → ClassId} {a : Int32} {b : Int32} {z : Int32}  {M : Mem} {x : Int32 × Mem} (hf : f_Model_link a b z M = some x) : Met l y_Model_link (wc y_Model_link b_Model_link 5 (some .int)) rm_Model_link (va_Pc [.ref (ad 0), .int a, .int b, .int z] (tB D ad G M)) (wr_Q (some (.int x.1)) D cls 15 ad (tE ad G x.2)) 0 0 (wl_A 15 ad) := by
  refine k_met (by decide) (Nat.le_of_ble_eq_true rfl) ?_
  intro p e s m args below meth c S hr hlk hB ls hl
  obtain ⟨hx, hb, hml, hown, hts⟩ := id S
  obtain ⟨hP, hK, hA0⟩ := hB
  have hA := wl_own hA0
  have hl : lv_has ls 5 [(0, .ref (ad 0)), (1, .int a), (2, .int b), (3, .int z)] := hl
  have hS : va_S (wl_A 15 ad) s.heap s.heap [] := va_S.rf
  unfold f_Model_link at hf
  refine lv_aload_n hx hb d_Model_link_0 rfl (lv_at hl 0 rfl) ?_
  refine lv_aload_n hx hb d_Model_link_1 rfl (lv_at hl 0 rfl) ?_
  refine lv_iload_n hx hb d_Model_link_2 rfl (lv_at hl 1 rfl) ?_
  refine lv_iload_n hx hb d_Model_link_3 rfl (lv_at hl 2 rfl) ?_
  obtain ⟨r4, hc4, hf⟩ := ob hf
  refine k_rdi (k_vir S (c_Model_isPair (l := l) (D := D) (ad := ad) (G := G) hc4) g_Model_106 hd_Model_isPair ⟨rfl, rfl⟩ ⟨Nat.le_of_ble_eq_true rfl, Nat.le_of_ble_eq_true rfl⟩ wl_blind (va_recv hK hP rfl (wl_to (by decide) (MO_at))) (wl_pre hP hK hA) rfl hl.1 rfl (Nat.le_of_ble_eq_true rfl) d_Model_link_4 (Nat.zero_le _) (Nat.zero_le _)) ?_
  have J25 : ∀ (s0_25 : Int32) (ls : Array Slot), lv_has ls 5 [(0, .ref (ad 0)), (1, .int a), (2, .int b), (3, .int z)] → f_Model_link_j25 a b z M s0_25 = some x → W p l e rm_Model_link s m args below meth c s.heap [] 0 0 (MQ below (wr_Q (some (.int x.1)) D cls 15 ad (tE ad G x.2)) args s 0 0 (wl_A 15 ad)) (F0 m 25 ls [.int s0_25, .ref (ad 0)]) := by
    intro s0_25 ls hl hf
    unfold f_Model_link_j25 at hf
    obtain ⟨r25, hc25, hf⟩ := ob hf
    refine k_wri (k_vir S (c_Model_good (l := l) (D := D) (ad := ad) (G := G) hc25) g_Model_109 hd_Model_good ⟨rfl, rfl⟩ ⟨Nat.le_of_ble_eq_true rfl, Nat.le_of_ble_eq_true rfl⟩ wl_blind (va_recv hK hP rfl (wl_to (by decide) (MO_at))) (wl_pre hP hK hA) rfl hl.1 rfl (Nat.le_of_ble_eq_true rfl) d_Model_link_25 (Nat.zero_le _) (Nat.zero_le _)) hS (fun _ h => h) (fun H locs hP _ _ hS => ?_)
    refine lv_if_ne (tgt := 33) hx hb d_Model_link_28 (by decide) (fun h28 => ?_) (fun h28 => ?_)
    · rw [if_neg h28] at hf
      refine lv_aload_n hx hb d_Model_link_33 rfl (lv_at hl 0 rfl) ?_
      refine va_get (D := D) (ci := 5) (v := .ref (ad 1)) (C := R_Model) (T := F_Model) (N := 24) hx hb hts in_Model hown hK hP 0 (wl_to (by decide) (MO_at)) rfl 2 (by decide) (hts _ fl_Model_7) (fun _ h => h) rfl d_Model_link_34 ?_
      refine lv_bipush (v := 6) hx hb d_Model_link_37 (by decide) ?_
      refine lv_iload_n hx hb d_Model_link_39 rfl (lv_at hl 1 rfl) ?_
      refine lv_imul hx hb d_Model_link_40 ?_
      refine lv_iload_n hx hb d_Model_link_41 rfl (lv_at hl 2 rfl) ?_
      refine lv_iadd hx hb d_Model_link_42 ?_
      obtain ⟨j43, hj43, hf⟩ := ob hf
      refine k_iald hx hb hK hP 1 0 (by decide) (COST_at) rfl hj43 d_Model_link_43 ?_
      refine lv_istore (lv' := [(4, .int (r25.2 1 0 0 j43)), (0, .ref (ad 0)), (1, .int a), (2, .int b), (3, .int z)]) hx hb d_Model_link_44 hl (by decide) rfl (fun ls hl => ?_)
      refine lv_iload hx hb d_Model_link_46 (lv_at hl 0 rfl) ?_
      refine lv_iload_n hx hb d_Model_link_48 rfl (lv_at hl 4 rfl) ?_
      refine lv_icmp_ne (tgt := 55) hx hb d_Model_link_49 (by decide) (fun h49 => ?_) (fun h49 => ?_)
      · rw [if_neg h49] at hf
        refine lv_aload_n hx hb d_Model_link_55 rfl (lv_at hl 1 rfl) ?_
        refine va_get (D := D) (ci := 5) (v := .ref (ad 1)) (C := R_Model) (T := F_Model) (N := 24) hx hb hts in_Model hown hK hP 0 (wl_to (by decide) (MO_at)) rfl 2 (by decide) (hts _ fl_Model_7) (fun _ h => h) rfl d_Model_link_56 ?_
        refine lv_bipush (v := 6) hx hb d_Model_link_59 (by decide) ?_
        refine lv_iload_n hx hb d_Model_link_61 rfl (lv_at hl 2 rfl) ?_
        refine lv_imul hx hb d_Model_link_62 ?_
        refine lv_iload_n hx hb d_Model_link_63 rfl (lv_at hl 3 rfl) ?_
        refine lv_iadd hx hb d_Model_link_64 ?_
        refine lv_iload_n hx hb d_Model_link_65 rfl (lv_at hl 4 rfl) ?_
        obtain ⟨j66, hj66, hf⟩ := ob hf
        refine m_iast (t := 1) (a := 0) (b := 0) (x := z) hx hb hK hP hA hS tJ 1 0 (by decide) ⟨rfl, rfl, rfl⟩ (fun f => COST_row f) rfl hj66 d_Model_link_66 (fun H locs hP hS => ?_)
        refine lv_aload_n hx hb d_Model_link_67 rfl (lv_at hl 1 rfl) ?_
        refine va_get (D := D) (ci := 5) (v := .ref (ad 1)) (C := R_Model) (T := F_Model) (N := 24) hx hb hts in_Model hown hK hP 0 (wl_to (by decide) (MO_at)) rfl 2 (by decide) (hts _ fl_Model_7) (fun _ h => h) rfl d_Model_link_68 ?_
        refine lv_bipush (v := 6) hx hb d_Model_link_71 (by decide) ?_
        refine lv_iload_n hx hb d_Model_link_73 rfl (lv_at hl 3 rfl) ?_
        refine lv_imul hx hb d_Model_link_74 ?_
        refine lv_iload_n hx hb d_Model_link_75 rfl (lv_at hl 2 rfl) ?_
        refine lv_iadd hx hb d_Model_link_76 ?_
        refine lv_iload_n hx hb d_Model_link_77 rfl (lv_at hl 4 rfl) ?_
        obtain ⟨j78, hj78, hf⟩ := ob hf
        refine m_iast (t := 1) (a := 0) (b := 0) (x := z) hx hb hK hP hA hS tJ 1 0 (by decide) ⟨rfl, rfl, rfl⟩ (fun f => COST_row f) rfl hj78 d_Model_link_78 (fun H locs hP hS => ?_)
        refine lv_iload_n hx hb d_Model_link_79 rfl (lv_at hl 4 rfl) ?_
        have J145 : ∀ (N145 : Mem) (H : Heap) (locs : List Loc) (ls : Array Slot), lv_has ls 5 [(4, .int (r25.2 1 0 0 j43)), (0, .ref (ad 0)), (1, .int a), (2, .int b), (3, .int z)] → va_P D cls (tW ad G N145) H → va_S (wl_A 15 ad) s.heap H locs → f_Model_link_j145 r25 j43 N145 = some x → W p l e rm_Model_link s m args below meth c H locs 0 0 (MQ below (wr_Q (some (.int x.1)) D cls 15 ad (tE ad G x.2)) args s 0 0 (wl_A 15 ad)) (F0 m 145 ls []) := by
          intro N145 H locs ls hl hP hS hf
          unfold f_Model_link_j145 at hf
          refine lv_aload_n hx hb d_Model_link_145 rfl (lv_at hl 1 rfl) ?_
          obtain ⟨r146, hc146, hf⟩ := ob hf
          refine k_wrv (k_vir S (c_Model_changed (l := l) (D := D) (ad := ad) (G := G) hc146) g_Model_123 hd_Model_changed ⟨rfl, rfl⟩ ⟨Nat.le_of_ble_eq_true rfl, Nat.le_of_ble_eq_true rfl⟩ wl_blind (va_recv hK hP rfl (wl_to (by decide) (MO_at))) (wl_pre hP hK hA) rfl hl.1 rfl (Nat.le_of_ble_eq_true rfl) d_Model_link_146 (Nat.zero_le _) (Nat.zero_le _)) hS (fun _ h => h) (fun H locs hP _ _ hS => ?_)
          refine lv_iload hx hb d_Model_link_149 (lv_at hl 0 rfl) ?_
          cases hf
          exact w_iret hx hb hr hlk hP hS d_Model_link_151
        refine lv_if_ne (tgt := 92) hx hb d_Model_link_80 (by decide) (fun h80 => ?_) (fun h80 => ?_)
        · rw [if_neg h80] at hf
          refine lv_iload hx hb d_Model_link_92 (lv_at hl 0 rfl) ?_
          refine lv_if_ne (tgt := 145) hx hb d_Model_link_94 (by decide) (fun h94 => ?_) (fun h94 => ?_)
          · rw [if_neg h94] at hf
            exact J145 _ _ _ _ (lv_sub hl [0, 1, 2, 3, 4] rfl) hP hS hf
          · rw [if_pos h94] at hf
            refine lv_aload_n hx hb d_Model_link_97 rfl (lv_at hl 1 rfl) ?_
            refine lv_iload_n hx hb d_Model_link_98 rfl (lv_at hl 2 rfl) ?_
            refine lv_iload_n hx hb d_Model_link_99 rfl (lv_at hl 3 rfl) ?_
            have J108 : ∀ (s0_108 : Int32) (ls : Array Slot), lv_has ls 5 [(4, .int (r25.2 1 0 0 j43)), (0, .ref (ad 0)), (1, .int a), (2, .int b), (3, .int z)] → f_Model_link_j108 a b z r25 j43 j66 j78 s0_108 = some x → W p l e rm_Model_link s m args below meth c H locs 0 0 (MQ below (wr_Q (some (.int x.1)) D cls 15 ad (tE ad G x.2)) args s 0 0 (wl_A 15 ad)) (F0 m 108 ls [.int s0_108, .ref (ad 0)]) := by
              intro s0_108 ls hl hf
              unfold f_Model_link_j108 at hf
              refine lv_iload_n hx hb d_Model_link_108 rfl (lv_at hl 2 rfl) ?_
              refine lv_iload_n hx hb d_Model_link_109 rfl (lv_at hl 3 rfl) ?_
              have J118 : ∀ (s0_118 : Int32) (ls : Array Slot), lv_has ls 5 [(4, .int (r25.2 1 0 0 j43)), (0, .ref (ad 0)), (1, .int a), (2, .int b), (3, .int z)] → f_Model_link_j118 a b z r25 j43 j66 j78 s0_108 s0_118 = some x → W p l e rm_Model_link s m args below meth c H locs 0 0 (MQ below (wr_Q (some (.int x.1)) D cls 15 ad (tE ad G x.2)) args s 0 0 (wl_A 15 ad)) (F0 m 118 ls [.int s0_118, .int s0_108, .ref (ad 0)]) := by
                intro s0_118 ls hl hf
                unfold f_Model_link_j118 at hf
                obtain ⟨r118, hc118, hf⟩ := ob hf
                refine k_wrv (k_vir S (c_Model_tellLabels (l := l) (D := D) (ad := ad) (G := G) hc118) g_Model_120 hd_Model_tellLabels ⟨rfl, rfl⟩ ⟨Nat.le_of_ble_eq_true rfl, Nat.le_of_ble_eq_true rfl⟩ wl_blind (va_recv hK hP rfl (wl_to (by decide) (MO_at))) (wl_pre hP hK hA) rfl hl.1 rfl (Nat.le_of_ble_eq_true rfl) d_Model_link_118 (Nat.zero_le _) (Nat.zero_le _)) hS (fun _ h => h) (fun H locs hP _ _ hS => ?_)
                refine lv_aload_n hx hb d_Model_link_121 rfl (lv_at hl 1 rfl) ?_
                refine lv_iload_n hx hb d_Model_link_122 rfl (lv_at hl 2 rfl) ?_
                refine lv_iload_n hx hb d_Model_link_123 rfl (lv_at hl 3 rfl) ?_
                have J132 : ∀ (s0_132 : Int32) (ls : Array Slot), lv_has ls 5 [(4, .int (r25.2 1 0 0 j43)), (0, .ref (ad 0)), (1, .int a), (2, .int b), (3, .int z)] → f_Model_link_j132 a b r25 j43 r118 s0_132 = some x → W p l e rm_Model_link s m args below meth c H locs 0 0 (MQ below (wr_Q (some (.int x.1)) D cls 15 ad (tE ad G x.2)) args s 0 0 (wl_A 15 ad)) (F0 m 132 ls [.int s0_132, .ref (ad 0)]) := by
                  intro s0_132 ls hl hf
                  unfold f_Model_link_j132 at hf
                  refine lv_iload_n hx hb d_Model_link_132 rfl (lv_at hl 2 rfl) ?_
                  refine lv_iload_n hx hb d_Model_link_133 rfl (lv_at hl 3 rfl) ?_
                  have J142 : ∀ (s0_142 : Int32) (ls : Array Slot), lv_has ls 5 [(4, .int (r25.2 1 0 0 j43)), (0, .ref (ad 0)), (1, .int a), (2, .int b), (3, .int z)] → f_Model_link_j142 r25 j43 r118 s0_132 s0_142 = some x → W p l e rm_Model_link s m args below meth c H locs 0 0 (MQ below (wr_Q (some (.int x.1)) D cls 15 ad (tE ad G x.2)) args s 0 0 (wl_A 15 ad)) (F0 m 142 ls [.int s0_142, .int s0_132, .ref (ad 0)]) := by
                    intro s0_142 ls hl hf
                    unfold f_Model_link_j142 at hf
                    obtain ⟨r142, hc142, hf⟩ := ob hf
                    refine k_wrv (k_vir S (c_Model_tellLabels (l := l) (D := D) (ad := ad) (G := G) hc142) g_Model_120 hd_Model_tellLabels ⟨rfl, rfl⟩ ⟨Nat.le_of_ble_eq_true rfl, Nat.le_of_ble_eq_true rfl⟩ wl_blind (va_recv hK hP rfl (wl_to (by decide) (MO_at))) (wl_pre hP hK hA) rfl hl.1 rfl (Nat.le_of_ble_eq_true rfl) d_Model_link_142 (Nat.zero_le _) (Nat.zero_le _)) hS (fun _ h => h) (fun H locs hP _ _ hS => ?_)
                    exact J145 _ _ _ _ (lv_sub hl [0, 1, 2, 3, 4] rfl) hP hS hf
                  refine lv_icmp_ge (tgt := 141) hx hb d_Model_link_134 (by decide) (fun h134 => ?_) (fun h134 => ?_)
                  · rw [if_pos h134] at hf
                    refine lv_iload_n hx hb d_Model_link_141 rfl (lv_at hl 3 rfl) ?_
                    exact J142 _ _ (lv_sub hl [0, 1, 2, 3, 4] rfl) hf
                  · rw [if_neg h134] at hf
                    refine lv_iload_n hx hb d_Model_link_137 rfl (lv_at hl 2 rfl) ?_
                    refine lv_goto (tgt := 142) hx hb d_Model_link_138 (by decide) ?_
                    exact J142 _ _ (lv_sub hl [0, 1, 2, 3, 4] rfl) hf
                refine lv_icmp_ge (tgt := 131) hx hb d_Model_link_124 (by decide) (fun h124 => ?_) (fun h124 => ?_)
                · rw [if_pos h124] at hf
                  refine lv_iload_n hx hb d_Model_link_131 rfl (lv_at hl 2 rfl) ?_
                  exact J132 _ _ (lv_sub hl [0, 1, 2, 3, 4] rfl) hf
                · rw [if_neg h124] at hf
                  refine lv_iload_n hx hb d_Model_link_127 rfl (lv_at hl 3 rfl) ?_
                  refine lv_goto (tgt := 132) hx hb d_Model_link_128 (by decide) ?_
                  exact J132 _ _ (lv_sub hl [0, 1, 2, 3, 4] rfl) hf
              refine lv_icmp_ge (tgt := 117) hx hb d_Model_link_110 (by decide) (fun h110 => ?_) (fun h110 => ?_)
              · rw [if_pos h110] at hf
                refine lv_iload_n hx hb d_Model_link_117 rfl (lv_at hl 2 rfl) ?_
                exact J118 _ _ (lv_sub hl [0, 1, 2, 3, 4] rfl) hf
              · rw [if_neg h110] at hf
                refine lv_iload_n hx hb d_Model_link_113 rfl (lv_at hl 3 rfl) ?_
                refine lv_goto (tgt := 118) hx hb d_Model_link_114 (by decide) ?_
                exact J118 _ _ (lv_sub hl [0, 1, 2, 3, 4] rfl) hf
            refine lv_icmp_ge (tgt := 107) hx hb d_Model_link_100 (by decide) (fun h100 => ?_) (fun h100 => ?_)
            · rw [if_pos h100] at hf
              refine lv_iload_n hx hb d_Model_link_107 rfl (lv_at hl 3 rfl) ?_
              exact J108 _ _ (lv_sub hl [0, 1, 2, 3, 4] rfl) hf
            · rw [if_neg h100] at hf
              refine lv_iload_n hx hb d_Model_link_103 rfl (lv_at hl 2 rfl) ?_
              refine lv_goto (tgt := 108) hx hb d_Model_link_104 (by decide) ?_
              exact J108 _ _ (lv_sub hl [0, 1, 2, 3, 4] rfl) hf
        · rw [if_pos h80] at hf
          refine lv_aload_n hx hb d_Model_link_83 rfl (lv_at hl 1 rfl) ?_
          refine lv_iload_n hx hb d_Model_link_84 rfl (lv_at hl 2 rfl) ?_
          refine lv_iload_n hx hb d_Model_link_85 rfl (lv_at hl 3 rfl) ?_
          obtain ⟨r86, hc86, hf⟩ := ob hf
          refine k_wrv (k_vir S (c_Model_forget (l := l) (D := D) (ad := ad) (G := G) hc86) g_Model_117 hd_Model_forget ⟨rfl, rfl⟩ ⟨Nat.le_of_ble_eq_true rfl, Nat.le_of_ble_eq_true rfl⟩ wl_blind (va_recv hK hP rfl (wl_to (by decide) (MO_at))) (wl_pre hP hK hA) rfl hl.1 rfl (Nat.le_of_ble_eq_true rfl) d_Model_link_86 (Nat.zero_le _) (Nat.zero_le _)) hS (fun _ h => h) (fun H locs hP _ _ hS => ?_)
          refine lv_goto (tgt := 145) hx hb d_Model_link_89 (by decide) ?_
          exact J145 _ _ _ _ (lv_sub hl [0, 1, 2, 3, 4] rfl) hP hS hf
      · rw [if_pos h49] at hf
        refine lv_iload hx hb d_Model_link_52 (lv_at hl 0 rfl) ?_
        cases hf
        exact w_iret hx hb hr hlk hP hS d_Model_link_54
    · rw [if_pos h28] at hf
      refine lv_iconst (v := 0) hx hb d_Model_link_31 (by decide) ?_
      cases hf
      exact w_iret hx hb hr hlk hP hS d_Model_link_32
  refine lv_if_eq (tgt := 24) hx hb d_Model_link_7 (by decide) (fun h7 => ?_) (fun h7 => ?_)
  · rw [if_pos h7] at hf
    refine lv_iconst (v := 0) hx hb d_Model_link_24 (by decide) ?_
    exact J25 _ _ (lv_sub hl [0, 1, 2, 3] rfl) hf
  · rw [if_neg h7] at hf
    refine lv_iload_n hx hb d_Model_link_10 rfl (lv_at hl 3 rfl) ?_
    refine lv_iconst (v := 0) hx hb d_Model_link_11 (by decide) ?_
    refine lv_bipush (v := 15) hx hb d_Model_link_12 (by decide) ?_
    obtain ⟨r14, hc14, hf⟩ := ob hf
    refine k_rdi (k_sta S (c_Model_within (l := l) (D := D) (ad := ad) (G := G) hc14) g_Model_60 hd_Model_within ⟨rfl, rfl⟩ ⟨Nat.le_of_ble_eq_true rfl, Nat.le_of_ble_eq_true rfl⟩ wl_blind (wl_pre hP hK hA) rfl hl.1 rfl (Nat.le_of_ble_eq_true rfl) d_Model_link_14 (Nat.zero_le _) (Nat.zero_le _)) ?_
    refine lv_if_eq (tgt := 24) hx hb d_Model_link_17 (by decide) (fun h17 => ?_) (fun h17 => ?_)
    · rw [if_pos h17] at hf
      refine lv_iconst (v := 0) hx hb d_Model_link_24 (by decide) ?_
      exact J25 _ _ (lv_sub hl [0, 1, 2, 3] rfl) hf
    · rw [if_neg h17] at hf
      refine lv_iconst (v := 1) hx hb d_Model_link_20 (by decide) ?_
      refine lv_goto (tgt := 25) hx hb d_Model_link_21 (by decide) ?_
      exact J25 _ _ (lv_sub hl [0, 1, 2, 3] rfl) hf
def f_Model_own_j28 (a : Int32) (b : Int32) (M : Mem) (s0_28 : Int32) : Option (Int32 × Mem) :=
    (f_Model_good s0_28 M).bind fun r28 => if r28.1 = 0 then (some (0, r28.2)) else ((ix a 4).bind fun j41 => if (r28.2 2 0 0 j41) = b then (some ((r28.2 2 0 0 j41), r28.2)) else ((ix a 4).bind fun j54 => (f_Model_changed (mset r28.2 2 0 0 j54 b)).bind fun r56 => some ((r28.2 2 0 0 j41), r56)))
def f_Model_own (a : Int32) (b : Int32) (M : Mem) : Option (Int32 × Mem) :=
  (f_Model_within a 0 3).bind fun r4 => if r4 = 0 then (f_Model_own_j28 a b M 0) else (if b = (-1) then (f_Model_own_j28 a b M 1) else ((f_Model_isRouter b M).bind fun r17 => if r17 = 0 then (f_Model_own_j28 a b M 0) else (f_Model_own_j28 a b M 1)))
abbrev rm_Model_own : Room := { frames := 5, cells := 0, slots := 0, locals := 119 }
set_option maxHeartbeats 4000000 in
set_option maxRecDepth 100000 in
theorem c_Model_own {l : Launch} {D : va_G} {ad : Nat → Nat} {G : Nat → ClassId} {a : Int32} {b : Int32}  {M : Mem} {x : Int32 × Mem} (hf : f_Model_own a b M = some x) : Met l y_Model_own (wc y_Model_own b_Model_own 4 (some .int)) rm_Model_own (va_Pc [.ref (ad 0), .int a, .int b] (tB D ad G M)) (wr_Q (some (.int x.1)) D cls 15 ad (tE ad G x.2)) 0 0 (wl_A 15 ad) := by
  refine k_met (by decide) (Nat.le_of_ble_eq_true rfl) ?_
  intro p e s m args below meth c S hr hlk hB ls hl
  obtain ⟨hx, hb, hml, hown, hts⟩ := id S
  obtain ⟨hP, hK, hA0⟩ := hB
  have hA := wl_own hA0
  have hl : lv_has ls 4 [(0, .ref (ad 0)), (1, .int a), (2, .int b)] := hl
  have hS : va_S (wl_A 15 ad) s.heap s.heap [] := va_S.rf
  unfold f_Model_own at hf
  refine lv_aload_n hx hb d_Model_own_0 rfl (lv_at hl 0 rfl) ?_
  refine lv_iload_n hx hb d_Model_own_1 rfl (lv_at hl 1 rfl) ?_
  refine lv_iconst (v := 0) hx hb d_Model_own_2 (by decide) ?_
  refine lv_iconst (v := 3) hx hb d_Model_own_3 (by decide) ?_
  obtain ⟨r4, hc4, hf⟩ := ob hf
  refine k_rdi (k_sta S (c_Model_within (l := l) (D := D) (ad := ad) (G := G) hc4) g_Model_60 hd_Model_within ⟨rfl, rfl⟩ ⟨Nat.le_of_ble_eq_true rfl, Nat.le_of_ble_eq_true rfl⟩ wl_blind (wl_pre hP hK hA) rfl hl.1 rfl (Nat.le_of_ble_eq_true rfl) d_Model_own_4 (Nat.zero_le _) (Nat.zero_le _)) ?_
  have J28 : ∀ (s0_28 : Int32) (ls : Array Slot), lv_has ls 4 [(0, .ref (ad 0)), (1, .int a), (2, .int b)] → f_Model_own_j28 a b M s0_28 = some x → W p l e rm_Model_own s m args below meth c s.heap [] 0 0 (MQ below (wr_Q (some (.int x.1)) D cls 15 ad (tE ad G x.2)) args s 0 0 (wl_A 15 ad)) (F0 m 28 ls [.int s0_28, .ref (ad 0)]) := by
    intro s0_28 ls hl hf
    unfold f_Model_own_j28 at hf
    obtain ⟨r28, hc28, hf⟩ := ob hf
    refine k_wri (k_vir S (c_Model_good (l := l) (D := D) (ad := ad) (G := G) hc28) g_Model_109 hd_Model_good ⟨rfl, rfl⟩ ⟨Nat.le_of_ble_eq_true rfl, Nat.le_of_ble_eq_true rfl⟩ wl_blind (va_recv hK hP rfl (wl_to (by decide) (MO_at))) (wl_pre hP hK hA) rfl hl.1 rfl (Nat.le_of_ble_eq_true rfl) d_Model_own_28 (Nat.zero_le _) (Nat.zero_le _)) hS (fun _ h => h) (fun H locs hP _ _ hS => ?_)
    refine lv_if_ne (tgt := 36) hx hb d_Model_own_31 (by decide) (fun h31 => ?_) (fun h31 => ?_)
    · rw [if_neg h31] at hf
      refine lv_aload_n hx hb d_Model_own_36 rfl (lv_at hl 0 rfl) ?_
      refine va_get (D := D) (ci := 5) (v := .ref (ad 2)) (C := R_Model) (T := F_Model) (N := 24) hx hb hts in_Model hown hK hP 0 (wl_to (by decide) (MO_at)) rfl 3 (by decide) (hts _ fl_Model_13) (fun _ h => h) rfl d_Model_own_37 ?_
      refine lv_iload_n hx hb d_Model_own_40 rfl (lv_at hl 1 rfl) ?_
      obtain ⟨j41, hj41, hf⟩ := ob hf
      refine k_iald hx hb hK hP 2 0 (by decide) (OWN_at) rfl hj41 d_Model_own_41 ?_
      refine lv_istore_n (lv' := [(3, .int (r28.2 2 0 0 j41)), (0, .ref (ad 0)), (1, .int a), (2, .int b)]) hx hb d_Model_own_42 rfl hl (by decide) rfl (fun ls hl => ?_)
      refine lv_iload_n hx hb d_Model_own_43 rfl (lv_at hl 0 rfl) ?_
      refine lv_iload_n hx hb d_Model_own_44 rfl (lv_at hl 3 rfl) ?_
      refine lv_icmp_eq (tgt := 59) hx hb d_Model_own_45 (by decide) (fun h45 => ?_) (fun h45 => ?_)
      · rw [if_pos h45] at hf
        refine lv_iload_n hx hb d_Model_own_59 rfl (lv_at hl 0 rfl) ?_
        cases hf
        exact w_iret hx hb hr hlk hP hS d_Model_own_60
      · rw [if_neg h45] at hf
        refine lv_aload_n hx hb d_Model_own_48 rfl (lv_at hl 1 rfl) ?_
        refine va_get (D := D) (ci := 5) (v := .ref (ad 2)) (C := R_Model) (T := F_Model) (N := 24) hx hb hts in_Model hown hK hP 0 (wl_to (by decide) (MO_at)) rfl 3 (by decide) (hts _ fl_Model_13) (fun _ h => h) rfl d_Model_own_49 ?_
        refine lv_iload_n hx hb d_Model_own_52 rfl (lv_at hl 2 rfl) ?_
        refine lv_iload_n hx hb d_Model_own_53 rfl (lv_at hl 3 rfl) ?_
        obtain ⟨j54, hj54, hf⟩ := ob hf
        refine m_iast (t := 2) (a := 0) (b := 0) (x := b) hx hb hK hP hA hS tJ 2 0 (by decide) ⟨rfl, rfl, rfl⟩ (fun f => OWN_row f) rfl hj54 d_Model_own_54 (fun H locs hP hS => ?_)
        refine lv_aload_n hx hb d_Model_own_55 rfl (lv_at hl 1 rfl) ?_
        obtain ⟨r56, hc56, hf⟩ := ob hf
        refine k_wrv (k_vir S (c_Model_changed (l := l) (D := D) (ad := ad) (G := G) hc56) g_Model_123 hd_Model_changed ⟨rfl, rfl⟩ ⟨Nat.le_of_ble_eq_true rfl, Nat.le_of_ble_eq_true rfl⟩ wl_blind (va_recv hK hP rfl (wl_to (by decide) (MO_at))) (wl_pre hP hK hA) rfl hl.1 rfl (Nat.le_of_ble_eq_true rfl) d_Model_own_56 (Nat.zero_le _) (Nat.zero_le _)) hS (fun _ h => h) (fun H locs hP _ _ hS => ?_)
        refine lv_iload_n hx hb d_Model_own_59 rfl (lv_at hl 0 rfl) ?_
        cases hf
        exact w_iret hx hb hr hlk hP hS d_Model_own_60
    · rw [if_pos h31] at hf
      refine lv_iconst (v := 0) hx hb d_Model_own_34 (by decide) ?_
      cases hf
      exact w_iret hx hb hr hlk hP hS d_Model_own_35
  refine lv_if_eq (tgt := 27) hx hb d_Model_own_7 (by decide) (fun h7 => ?_) (fun h7 => ?_)
  · rw [if_pos h7] at hf
    refine lv_iconst (v := 0) hx hb d_Model_own_27 (by decide) ?_
    exact J28 _ _ (lv_sub hl [0, 1, 2] rfl) hf
  · rw [if_neg h7] at hf
    refine lv_iload_n hx hb d_Model_own_10 rfl (lv_at hl 2 rfl) ?_
    refine lv_iconst (v := (-1)) hx hb d_Model_own_11 (by decide) ?_
    refine lv_icmp_eq (tgt := 23) hx hb d_Model_own_12 (by decide) (fun h12 => ?_) (fun h12 => ?_)
    · rw [if_pos h12] at hf
      refine lv_iconst (v := 1) hx hb d_Model_own_23 (by decide) ?_
      refine lv_goto (tgt := 28) hx hb d_Model_own_24 (by decide) ?_
      exact J28 _ _ (lv_sub hl [0, 1, 2] rfl) hf
    · rw [if_neg h12] at hf
      refine lv_aload_n hx hb d_Model_own_15 rfl (lv_at hl 0 rfl) ?_
      refine lv_iload_n hx hb d_Model_own_16 rfl (lv_at hl 2 rfl) ?_
      obtain ⟨r17, hc17, hf⟩ := ob hf
      refine k_rdi (k_vir S (c_Model_isRouter (l := l) (D := D) (ad := ad) (G := G) hc17) g_Model_64 hd_Model_isRouter ⟨rfl, rfl⟩ ⟨Nat.le_of_ble_eq_true rfl, Nat.le_of_ble_eq_true rfl⟩ wl_blind (va_recv hK hP rfl (wl_to (by decide) (MO_at))) (wl_pre hP hK hA) rfl hl.1 rfl (Nat.le_of_ble_eq_true rfl) d_Model_own_17 (Nat.zero_le _) (Nat.zero_le _)) ?_
      refine lv_if_eq (tgt := 27) hx hb d_Model_own_20 (by decide) (fun h20 => ?_) (fun h20 => ?_)
      · rw [if_pos h20] at hf
        refine lv_iconst (v := 0) hx hb d_Model_own_27 (by decide) ?_
        exact J28 _ _ (lv_sub hl [0, 1, 2] rfl) hf
      · rw [if_neg h20] at hf
        refine lv_iconst (v := 1) hx hb d_Model_own_23 (by decide) ?_
        refine lv_goto (tgt := 28) hx hb d_Model_own_24 (by decide) ?_
        exact J28 _ _ (lv_sub hl [0, 1, 2] rfl) hf
def f_Model_serve_j28 (a : Int32) (b : Int32) (M : Mem) (s0_28 : Int32) : Option (Int32 × Mem) :=
    (f_Model_good s0_28 M).bind fun r28 => if r28.1 = 0 then (some (0, r28.2)) else ((ix a 4).bind fun j41 => (ix a 4).bind fun j49 => some ((r28.2 3 0 0 j41), (mset r28.2 3 0 0 j49 b)))
def f_Model_serve (a : Int32) (b : Int32) (M : Mem) : Option (Int32 × Mem) :=
  (f_Model_within a 0 3).bind fun r4 => if r4 = 0 then (f_Model_serve_j28 a b M 0) else (if b = (-1) then (f_Model_serve_j28 a b M 1) else ((f_Model_isRouter b M).bind fun r17 => if r17 = 0 then (f_Model_serve_j28 a b M 0) else (f_Model_serve_j28 a b M 1)))
abbrev rm_Model_serve : Room := { frames := 2, cells := 0, slots := 0, locals := 43 }
set_option maxHeartbeats 4000000 in
set_option maxRecDepth 100000 in
theorem c_Model_serve {l : Launch} {D : va_G} {ad : Nat → Nat} {G : Nat → ClassId} {a : Int32} {b : Int32}  {M : Mem} {x : Int32 × Mem} (hf : f_Model_serve a b M = some x) : Met l y_Model_serve (wc y_Model_serve b_Model_serve 4 (some .int)) rm_Model_serve (va_Pc [.ref (ad 0), .int a, .int b] (tB D ad G M)) (wr_Q (some (.int x.1)) D cls 15 ad (tE ad G x.2)) 0 0 (wl_A 15 ad) := by
  refine k_met (by decide) (Nat.le_of_ble_eq_true rfl) ?_
  intro p e s m args below meth c S hr hlk hB ls hl
  obtain ⟨hx, hb, hml, hown, hts⟩ := id S
  obtain ⟨hP, hK, hA0⟩ := hB
  have hA := wl_own hA0
  have hl : lv_has ls 4 [(0, .ref (ad 0)), (1, .int a), (2, .int b)] := hl
  have hS : va_S (wl_A 15 ad) s.heap s.heap [] := va_S.rf
  unfold f_Model_serve at hf
  refine lv_aload_n hx hb d_Model_serve_0 rfl (lv_at hl 0 rfl) ?_
  refine lv_iload_n hx hb d_Model_serve_1 rfl (lv_at hl 1 rfl) ?_
  refine lv_iconst (v := 0) hx hb d_Model_serve_2 (by decide) ?_
  refine lv_iconst (v := 3) hx hb d_Model_serve_3 (by decide) ?_
  obtain ⟨r4, hc4, hf⟩ := ob hf
  refine k_rdi (k_sta S (c_Model_within (l := l) (D := D) (ad := ad) (G := G) hc4) g_Model_60 hd_Model_within ⟨rfl, rfl⟩ ⟨Nat.le_of_ble_eq_true rfl, Nat.le_of_ble_eq_true rfl⟩ wl_blind (wl_pre hP hK hA) rfl hl.1 rfl (Nat.le_of_ble_eq_true rfl) d_Model_serve_4 (Nat.zero_le _) (Nat.zero_le _)) ?_
  have J28 : ∀ (s0_28 : Int32) (ls : Array Slot), lv_has ls 4 [(0, .ref (ad 0)), (1, .int a), (2, .int b)] → f_Model_serve_j28 a b M s0_28 = some x → W p l e rm_Model_serve s m args below meth c s.heap [] 0 0 (MQ below (wr_Q (some (.int x.1)) D cls 15 ad (tE ad G x.2)) args s 0 0 (wl_A 15 ad)) (F0 m 28 ls [.int s0_28, .ref (ad 0)]) := by
    intro s0_28 ls hl hf
    unfold f_Model_serve_j28 at hf
    obtain ⟨r28, hc28, hf⟩ := ob hf
    refine k_wri (k_vir S (c_Model_good (l := l) (D := D) (ad := ad) (G := G) hc28) g_Model_109 hd_Model_good ⟨rfl, rfl⟩ ⟨Nat.le_of_ble_eq_true rfl, Nat.le_of_ble_eq_true rfl⟩ wl_blind (va_recv hK hP rfl (wl_to (by decide) (MO_at))) (wl_pre hP hK hA) rfl hl.1 rfl (Nat.le_of_ble_eq_true rfl) d_Model_serve_28 (Nat.zero_le _) (Nat.zero_le _)) hS (fun _ h => h) (fun H locs hP _ _ hS => ?_)
    refine lv_if_ne (tgt := 36) hx hb d_Model_serve_31 (by decide) (fun h31 => ?_) (fun h31 => ?_)
    · rw [if_neg h31] at hf
      refine lv_aload_n hx hb d_Model_serve_36 rfl (lv_at hl 0 rfl) ?_
      refine va_get (D := D) (ci := 5) (v := .ref (ad 3)) (C := R_Model) (T := F_Model) (N := 24) hx hb hts in_Model hown hK hP 0 (wl_to (by decide) (MO_at)) rfl 4 (by decide) (hts _ fl_Model_16) (fun _ h => h) rfl d_Model_serve_37 ?_
      refine lv_iload_n hx hb d_Model_serve_40 rfl (lv_at hl 1 rfl) ?_
      obtain ⟨j41, hj41, hf⟩ := ob hf
      refine k_iald hx hb hK hP 3 0 (by decide) (PLC_at) rfl hj41 d_Model_serve_41 ?_
      refine lv_istore_n (lv' := [(3, .int (r28.2 3 0 0 j41)), (0, .ref (ad 0)), (1, .int a), (2, .int b)]) hx hb d_Model_serve_42 rfl hl (by decide) rfl (fun ls hl => ?_)
      refine lv_aload_n hx hb d_Model_serve_43 rfl (lv_at hl 1 rfl) ?_
      refine va_get (D := D) (ci := 5) (v := .ref (ad 3)) (C := R_Model) (T := F_Model) (N := 24) hx hb hts in_Model hown hK hP 0 (wl_to (by decide) (MO_at)) rfl 4 (by decide) (hts _ fl_Model_16) (fun _ h => h) rfl d_Model_serve_44 ?_
      refine lv_iload_n hx hb d_Model_serve_47 rfl (lv_at hl 2 rfl) ?_
      refine lv_iload_n hx hb d_Model_serve_48 rfl (lv_at hl 3 rfl) ?_
      obtain ⟨j49, hj49, hf⟩ := ob hf
      refine m_iast (t := 3) (a := 0) (b := 0) (x := b) hx hb hK hP hA hS tJ 3 0 (by decide) ⟨rfl, rfl, rfl⟩ (fun f => PLC_row f) rfl hj49 d_Model_serve_49 (fun H locs hP hS => ?_)
      refine lv_iload_n hx hb d_Model_serve_50 rfl (lv_at hl 0 rfl) ?_
      cases hf
      exact w_iret hx hb hr hlk hP hS d_Model_serve_51
    · rw [if_pos h31] at hf
      refine lv_iconst (v := 0) hx hb d_Model_serve_34 (by decide) ?_
      cases hf
      exact w_iret hx hb hr hlk hP hS d_Model_serve_35
  refine lv_if_eq (tgt := 27) hx hb d_Model_serve_7 (by decide) (fun h7 => ?_) (fun h7 => ?_)
  · rw [if_pos h7] at hf
    refine lv_iconst (v := 0) hx hb d_Model_serve_27 (by decide) ?_
    exact J28 _ _ (lv_sub hl [0, 1, 2] rfl) hf
  · rw [if_neg h7] at hf
    refine lv_iload_n hx hb d_Model_serve_10 rfl (lv_at hl 2 rfl) ?_
    refine lv_iconst (v := (-1)) hx hb d_Model_serve_11 (by decide) ?_
    refine lv_icmp_eq (tgt := 23) hx hb d_Model_serve_12 (by decide) (fun h12 => ?_) (fun h12 => ?_)
    · rw [if_pos h12] at hf
      refine lv_iconst (v := 1) hx hb d_Model_serve_23 (by decide) ?_
      refine lv_goto (tgt := 28) hx hb d_Model_serve_24 (by decide) ?_
      exact J28 _ _ (lv_sub hl [0, 1, 2] rfl) hf
    · rw [if_neg h12] at hf
      refine lv_aload_n hx hb d_Model_serve_15 rfl (lv_at hl 0 rfl) ?_
      refine lv_iload_n hx hb d_Model_serve_16 rfl (lv_at hl 2 rfl) ?_
      obtain ⟨r17, hc17, hf⟩ := ob hf
      refine k_rdi (k_vir S (c_Model_isRouter (l := l) (D := D) (ad := ad) (G := G) hc17) g_Model_64 hd_Model_isRouter ⟨rfl, rfl⟩ ⟨Nat.le_of_ble_eq_true rfl, Nat.le_of_ble_eq_true rfl⟩ wl_blind (va_recv hK hP rfl (wl_to (by decide) (MO_at))) (wl_pre hP hK hA) rfl hl.1 rfl (Nat.le_of_ble_eq_true rfl) d_Model_serve_17 (Nat.zero_le _) (Nat.zero_le _)) ?_
      refine lv_if_eq (tgt := 27) hx hb d_Model_serve_20 (by decide) (fun h20 => ?_) (fun h20 => ?_)
      · rw [if_pos h20] at hf
        refine lv_iconst (v := 0) hx hb d_Model_serve_27 (by decide) ?_
        exact J28 _ _ (lv_sub hl [0, 1, 2] rfl) hf
      · rw [if_neg h20] at hf
        refine lv_iconst (v := 1) hx hb d_Model_serve_23 (by decide) ?_
        refine lv_goto (tgt := 28) hx hb d_Model_serve_24 (by decide) ?_
        exact J28 _ _ (lv_sub hl [0, 1, 2] rfl) hf
def f_Model_distance_j23 (a : Int32) (b : Int32) (M : Mem) (s0_23 : Int32) : Option (Int32 × Mem) :=
    (f_Model_good s0_23 M).bind fun r23 => if r23.1 = 0 then (some (0, r23.2)) else ((f_Model_measure b r23.2).bind fun r33 => (ix a 6).bind fun j41 => some ((r33 12 0 0 j41), r33))
def f_Model_distance (a : Int32) (b : Int32) (M : Mem) : Option (Int32 × Mem) :=
  (f_Model_isRouter a M).bind fun r3 => if r3 = 0 then (f_Model_distance_j23 a b M 0) else ((f_Model_within b 0 3).bind fun r12 => if r12 = 0 then (f_Model_distance_j23 a b M 0) else (f_Model_distance_j23 a b M 1))
abbrev rm_Model_distance : Room := { frames := 2, cells := 0, slots := 0, locals := 43 }
set_option maxHeartbeats 4000000 in
set_option maxRecDepth 100000 in
theorem c_Model_distance {l : Launch} {D : va_G} {ad : Nat → Nat} {G : Nat → ClassId} {a : Int32} {b : Int32}  {M : Mem} {x : Int32 × Mem} (hf : f_Model_distance a b M = some x) : Met l y_Model_distance (wc y_Model_distance b_Model_distance 3 (some .int)) rm_Model_distance (va_Pc [.ref (ad 0), .int a, .int b] (tB D ad G M)) (wr_Q (some (.int x.1)) D cls 15 ad (tE ad G x.2)) 0 0 (wl_A 15 ad) := by
  refine k_met (by decide) (Nat.le_of_ble_eq_true rfl) ?_
  intro p e s m args below meth c S hr hlk hB ls hl
  obtain ⟨hx, hb, hml, hown, hts⟩ := id S
  obtain ⟨hP, hK, hA0⟩ := hB
  have hA := wl_own hA0
  have hl : lv_has ls 3 [(0, .ref (ad 0)), (1, .int a), (2, .int b)] := hl
  have hS : va_S (wl_A 15 ad) s.heap s.heap [] := va_S.rf
  unfold f_Model_distance at hf
  refine lv_aload_n hx hb d_Model_distance_0 rfl (lv_at hl 0 rfl) ?_
  refine lv_aload_n hx hb d_Model_distance_1 rfl (lv_at hl 0 rfl) ?_
  refine lv_iload_n hx hb d_Model_distance_2 rfl (lv_at hl 1 rfl) ?_
  obtain ⟨r3, hc3, hf⟩ := ob hf
  refine k_rdi (k_vir S (c_Model_isRouter (l := l) (D := D) (ad := ad) (G := G) hc3) g_Model_64 hd_Model_isRouter ⟨rfl, rfl⟩ ⟨Nat.le_of_ble_eq_true rfl, Nat.le_of_ble_eq_true rfl⟩ wl_blind (va_recv hK hP rfl (wl_to (by decide) (MO_at))) (wl_pre hP hK hA) rfl hl.1 rfl (Nat.le_of_ble_eq_true rfl) d_Model_distance_3 (Nat.zero_le _) (Nat.zero_le _)) ?_
  have J23 : ∀ (s0_23 : Int32) (ls : Array Slot), lv_has ls 3 [(0, .ref (ad 0)), (1, .int a), (2, .int b)] → f_Model_distance_j23 a b M s0_23 = some x → W p l e rm_Model_distance s m args below meth c s.heap [] 0 0 (MQ below (wr_Q (some (.int x.1)) D cls 15 ad (tE ad G x.2)) args s 0 0 (wl_A 15 ad)) (F0 m 23 ls [.int s0_23, .ref (ad 0)]) := by
    intro s0_23 ls hl hf
    unfold f_Model_distance_j23 at hf
    obtain ⟨r23, hc23, hf⟩ := ob hf
    refine k_wri (k_vir S (c_Model_good (l := l) (D := D) (ad := ad) (G := G) hc23) g_Model_109 hd_Model_good ⟨rfl, rfl⟩ ⟨Nat.le_of_ble_eq_true rfl, Nat.le_of_ble_eq_true rfl⟩ wl_blind (va_recv hK hP rfl (wl_to (by decide) (MO_at))) (wl_pre hP hK hA) rfl hl.1 rfl (Nat.le_of_ble_eq_true rfl) d_Model_distance_23 (Nat.zero_le _) (Nat.zero_le _)) hS (fun _ h => h) (fun H locs hP _ _ hS => ?_)
    refine lv_if_ne (tgt := 31) hx hb d_Model_distance_26 (by decide) (fun h26 => ?_) (fun h26 => ?_)
    · rw [if_neg h26] at hf
      refine lv_aload_n hx hb d_Model_distance_31 rfl (lv_at hl 0 rfl) ?_
      refine lv_iload_n hx hb d_Model_distance_32 rfl (lv_at hl 2 rfl) ?_
      obtain ⟨r33, hc33, hf⟩ := ob hf
      refine k_wrv (k_vir S (c_Model_measure (l := l) (D := D) (ad := ad) (G := G) hc33) g_Model_68 hd_Model_measure ⟨rfl, rfl⟩ ⟨Nat.le_of_ble_eq_true rfl, Nat.le_of_ble_eq_true rfl⟩ wl_blind (va_recv hK hP rfl (wl_to (by decide) (MO_at))) (wl_pre hP hK hA) rfl hl.1 rfl (Nat.le_of_ble_eq_true rfl) d_Model_distance_33 (Nat.zero_le _) (Nat.zero_le _)) hS (fun _ h => h) (fun H locs hP _ _ hS => ?_)
      refine lv_aload_n hx hb d_Model_distance_36 rfl (lv_at hl 0 rfl) ?_
      refine va_get (D := D) (ci := 5) (v := .ref (ad 12)) (C := R_Model) (T := F_Model) (N := 24) hx hb hts in_Model hown hK hP 0 (wl_to (by decide) (MO_at)) rfl 15 (by decide) (hts _ fl_Model_44) (fun _ h => h) rfl d_Model_distance_37 ?_
      refine lv_iload_n hx hb d_Model_distance_40 rfl (lv_at hl 1 rfl) ?_
      obtain ⟨j41, hj41, hf⟩ := ob hf
      refine k_iald hx hb hK hP 12 0 (by decide) (FAR_at) rfl hj41 d_Model_distance_41 ?_
      cases hf
      exact w_iret hx hb hr hlk hP hS d_Model_distance_42
    · rw [if_pos h26] at hf
      refine lv_iconst (v := 0) hx hb d_Model_distance_29 (by decide) ?_
      cases hf
      exact w_iret hx hb hr hlk hP hS d_Model_distance_30
  refine lv_if_eq (tgt := 22) hx hb d_Model_distance_6 (by decide) (fun h6 => ?_) (fun h6 => ?_)
  · rw [if_pos h6] at hf
    refine lv_iconst (v := 0) hx hb d_Model_distance_22 (by decide) ?_
    exact J23 _ _ (lv_sub hl [0, 1, 2] rfl) hf
  · rw [if_neg h6] at hf
    refine lv_iload_n hx hb d_Model_distance_9 rfl (lv_at hl 2 rfl) ?_
    refine lv_iconst (v := 0) hx hb d_Model_distance_10 (by decide) ?_
    refine lv_iconst (v := 3) hx hb d_Model_distance_11 (by decide) ?_
    obtain ⟨r12, hc12, hf⟩ := ob hf
    refine k_rdi (k_sta S (c_Model_within (l := l) (D := D) (ad := ad) (G := G) hc12) g_Model_60 hd_Model_within ⟨rfl, rfl⟩ ⟨Nat.le_of_ble_eq_true rfl, Nat.le_of_ble_eq_true rfl⟩ wl_blind (wl_pre hP hK hA) rfl hl.1 rfl (Nat.le_of_ble_eq_true rfl) d_Model_distance_12 (Nat.zero_le _) (Nat.zero_le _)) ?_
    refine lv_if_eq (tgt := 22) hx hb d_Model_distance_15 (by decide) (fun h15 => ?_) (fun h15 => ?_)
    · rw [if_pos h15] at hf
      refine lv_iconst (v := 0) hx hb d_Model_distance_22 (by decide) ?_
      exact J23 _ _ (lv_sub hl [0, 1, 2] rfl) hf
    · rw [if_neg h15] at hf
      refine lv_iconst (v := 1) hx hb d_Model_distance_18 (by decide) ?_
      refine lv_goto (tgt := 23) hx hb d_Model_distance_19 (by decide) ?_
      exact J23 _ _ (lv_sub hl [0, 1, 2] rfl) hf
def f_Model_next_j23 (a : Int32) (b : Int32) (M : Mem) (s0_23 : Int32) : Option (Int32 × Mem) :=
    (f_Model_good s0_23 M).bind fun r23 => if r23.1 = 0 then (some (0, r23.2)) else ((f_Model_nextOf a b r23.2).bind fun r32 => some (r32.1, r32.2))
def f_Model_next (a : Int32) (b : Int32) (M : Mem) : Option (Int32 × Mem) :=
  (f_Model_isRouter a M).bind fun r3 => if r3 = 0 then (f_Model_next_j23 a b M 0) else ((f_Model_within b 0 3).bind fun r12 => if r12 = 0 then (f_Model_next_j23 a b M 0) else (f_Model_next_j23 a b M 1))
abbrev rm_Model_next : Room := { frames := 2, cells := 0, slots := 0, locals := 51 }
set_option maxHeartbeats 4000000 in
set_option maxRecDepth 100000 in
theorem c_Model_next {l : Launch} {D : va_G} {ad : Nat → Nat} {G : Nat → ClassId} {a : Int32} {b : Int32}  {M : Mem} {x : Int32 × Mem} (hf : f_Model_next a b M = some x) : Met l y_Model_next (wc y_Model_next b_Model_next 3 (some .int)) rm_Model_next (va_Pc [.ref (ad 0), .int a, .int b] (tB D ad G M)) (wr_Q (some (.int x.1)) D cls 15 ad (tE ad G x.2)) 0 0 (wl_A 15 ad) := by
  refine k_met (by decide) (Nat.le_of_ble_eq_true rfl) ?_
  intro p e s m args below meth c S hr hlk hB ls hl
  obtain ⟨hx, hb, hml, hown, hts⟩ := id S
  obtain ⟨hP, hK, hA0⟩ := hB
  have hA := wl_own hA0
  have hl : lv_has ls 3 [(0, .ref (ad 0)), (1, .int a), (2, .int b)] := hl
  have hS : va_S (wl_A 15 ad) s.heap s.heap [] := va_S.rf
  unfold f_Model_next at hf
  refine lv_aload_n hx hb d_Model_next_0 rfl (lv_at hl 0 rfl) ?_
  refine lv_aload_n hx hb d_Model_next_1 rfl (lv_at hl 0 rfl) ?_
  refine lv_iload_n hx hb d_Model_next_2 rfl (lv_at hl 1 rfl) ?_
  obtain ⟨r3, hc3, hf⟩ := ob hf
  refine k_rdi (k_vir S (c_Model_isRouter (l := l) (D := D) (ad := ad) (G := G) hc3) g_Model_64 hd_Model_isRouter ⟨rfl, rfl⟩ ⟨Nat.le_of_ble_eq_true rfl, Nat.le_of_ble_eq_true rfl⟩ wl_blind (va_recv hK hP rfl (wl_to (by decide) (MO_at))) (wl_pre hP hK hA) rfl hl.1 rfl (Nat.le_of_ble_eq_true rfl) d_Model_next_3 (Nat.zero_le _) (Nat.zero_le _)) ?_
  have J23 : ∀ (s0_23 : Int32) (ls : Array Slot), lv_has ls 3 [(0, .ref (ad 0)), (1, .int a), (2, .int b)] → f_Model_next_j23 a b M s0_23 = some x → W p l e rm_Model_next s m args below meth c s.heap [] 0 0 (MQ below (wr_Q (some (.int x.1)) D cls 15 ad (tE ad G x.2)) args s 0 0 (wl_A 15 ad)) (F0 m 23 ls [.int s0_23, .ref (ad 0)]) := by
    intro s0_23 ls hl hf
    unfold f_Model_next_j23 at hf
    obtain ⟨r23, hc23, hf⟩ := ob hf
    refine k_wri (k_vir S (c_Model_good (l := l) (D := D) (ad := ad) (G := G) hc23) g_Model_109 hd_Model_good ⟨rfl, rfl⟩ ⟨Nat.le_of_ble_eq_true rfl, Nat.le_of_ble_eq_true rfl⟩ wl_blind (va_recv hK hP rfl (wl_to (by decide) (MO_at))) (wl_pre hP hK hA) rfl hl.1 rfl (Nat.le_of_ble_eq_true rfl) d_Model_next_23 (Nat.zero_le _) (Nat.zero_le _)) hS (fun _ h => h) (fun H locs hP _ _ hS => ?_)
    refine lv_if_eq (tgt := 38) hx hb d_Model_next_26 (by decide) (fun h26 => ?_) (fun h26 => ?_)
    · rw [if_pos h26] at hf
      refine lv_iconst (v := 0) hx hb d_Model_next_38 (by decide) ?_
      cases hf
      exact w_iret hx hb hr hlk hP hS d_Model_next_39
    · rw [if_neg h26] at hf
      refine lv_aload_n hx hb d_Model_next_29 rfl (lv_at hl 0 rfl) ?_
      refine lv_iload_n hx hb d_Model_next_30 rfl (lv_at hl 1 rfl) ?_
      refine lv_iload_n hx hb d_Model_next_31 rfl (lv_at hl 2 rfl) ?_
      obtain ⟨r32, hc32, hf⟩ := ob hf
      refine k_wri (k_vir S (c_Model_nextOf (l := l) (D := D) (ad := ad) (G := G) hc32) g_Model_86 hd_Model_nextOf ⟨rfl, rfl⟩ ⟨Nat.le_of_ble_eq_true rfl, Nat.le_of_ble_eq_true rfl⟩ wl_blind (va_recv hK hP rfl (wl_to (by decide) (MO_at))) (wl_pre hP hK hA) rfl hl.1 rfl (Nat.le_of_ble_eq_true rfl) d_Model_next_32 (Nat.zero_le _) (Nat.zero_le _)) hS (fun _ h => h) (fun H locs hP _ _ hS => ?_)
      refine lv_goto (tgt := 39) hx hb d_Model_next_35 (by decide) ?_
      cases hf
      exact w_iret hx hb hr hlk hP hS d_Model_next_39
  refine lv_if_eq (tgt := 22) hx hb d_Model_next_6 (by decide) (fun h6 => ?_) (fun h6 => ?_)
  · rw [if_pos h6] at hf
    refine lv_iconst (v := 0) hx hb d_Model_next_22 (by decide) ?_
    exact J23 _ _ (lv_sub hl [0, 1, 2] rfl) hf
  · rw [if_neg h6] at hf
    refine lv_iload_n hx hb d_Model_next_9 rfl (lv_at hl 2 rfl) ?_
    refine lv_iconst (v := 0) hx hb d_Model_next_10 (by decide) ?_
    refine lv_iconst (v := 3) hx hb d_Model_next_11 (by decide) ?_
    obtain ⟨r12, hc12, hf⟩ := ob hf
    refine k_rdi (k_sta S (c_Model_within (l := l) (D := D) (ad := ad) (G := G) hc12) g_Model_60 hd_Model_within ⟨rfl, rfl⟩ ⟨Nat.le_of_ble_eq_true rfl, Nat.le_of_ble_eq_true rfl⟩ wl_blind (wl_pre hP hK hA) rfl hl.1 rfl (Nat.le_of_ble_eq_true rfl) d_Model_next_12 (Nat.zero_le _) (Nat.zero_le _)) ?_
    refine lv_if_eq (tgt := 22) hx hb d_Model_next_15 (by decide) (fun h15 => ?_) (fun h15 => ?_)
    · rw [if_pos h15] at hf
      refine lv_iconst (v := 0) hx hb d_Model_next_22 (by decide) ?_
      exact J23 _ _ (lv_sub hl [0, 1, 2] rfl) hf
    · rw [if_neg h15] at hf
      refine lv_iconst (v := 1) hx hb d_Model_next_18 (by decide) ?_
      refine lv_goto (tgt := 23) hx hb d_Model_next_19 (by decide) ?_
      exact J23 _ _ (lv_sub hl [0, 1, 2] rfl) hf
def f_Model_label_j23 (a : Int32) (b : Int32) (M : Mem) (s0_23 : Int32) : Option (Int32 × Mem) :=
    (f_Model_good s0_23 M).bind fun r23 => if r23.1 = 0 then (some (0, r23.2)) else ((ix ((4 * a) + b) 24).bind fun j38 => some ((r23.2 4 0 0 j38), r23.2))
def f_Model_label (a : Int32) (b : Int32) (M : Mem) : Option (Int32 × Mem) :=
  (f_Model_isRouter a M).bind fun r3 => if r3 = 0 then (f_Model_label_j23 a b M 0) else ((f_Model_within b 0 3).bind fun r12 => if r12 = 0 then (f_Model_label_j23 a b M 0) else (f_Model_label_j23 a b M 1))
abbrev rm_Model_label : Room := { frames := 2, cells := 0, slots := 0, locals := 43 }
set_option maxHeartbeats 4000000 in
set_option maxRecDepth 100000 in
theorem c_Model_label {l : Launch} {D : va_G} {ad : Nat → Nat} {G : Nat → ClassId} {a : Int32} {b : Int32}  {M : Mem} {x : Int32 × Mem} (hf : f_Model_label a b M = some x) : Met l y_Model_label (wc y_Model_label b_Model_label 3 (some .int)) rm_Model_label (va_Pc [.ref (ad 0), .int a, .int b] (tB D ad G M)) (wr_Q (some (.int x.1)) D cls 15 ad (tE ad G x.2)) 0 0 (wl_A 15 ad) := by
  refine k_met (by decide) (Nat.le_of_ble_eq_true rfl) ?_
  intro p e s m args below meth c S hr hlk hB ls hl
  obtain ⟨hx, hb, hml, hown, hts⟩ := id S
  obtain ⟨hP, hK, hA0⟩ := hB
  have hA := wl_own hA0
  have hl : lv_has ls 3 [(0, .ref (ad 0)), (1, .int a), (2, .int b)] := hl
  have hS : va_S (wl_A 15 ad) s.heap s.heap [] := va_S.rf
  unfold f_Model_label at hf
  refine lv_aload_n hx hb d_Model_label_0 rfl (lv_at hl 0 rfl) ?_
  refine lv_aload_n hx hb d_Model_label_1 rfl (lv_at hl 0 rfl) ?_
  refine lv_iload_n hx hb d_Model_label_2 rfl (lv_at hl 1 rfl) ?_
  obtain ⟨r3, hc3, hf⟩ := ob hf
  refine k_rdi (k_vir S (c_Model_isRouter (l := l) (D := D) (ad := ad) (G := G) hc3) g_Model_64 hd_Model_isRouter ⟨rfl, rfl⟩ ⟨Nat.le_of_ble_eq_true rfl, Nat.le_of_ble_eq_true rfl⟩ wl_blind (va_recv hK hP rfl (wl_to (by decide) (MO_at))) (wl_pre hP hK hA) rfl hl.1 rfl (Nat.le_of_ble_eq_true rfl) d_Model_label_3 (Nat.zero_le _) (Nat.zero_le _)) ?_
  have J23 : ∀ (s0_23 : Int32) (ls : Array Slot), lv_has ls 3 [(0, .ref (ad 0)), (1, .int a), (2, .int b)] → f_Model_label_j23 a b M s0_23 = some x → W p l e rm_Model_label s m args below meth c s.heap [] 0 0 (MQ below (wr_Q (some (.int x.1)) D cls 15 ad (tE ad G x.2)) args s 0 0 (wl_A 15 ad)) (F0 m 23 ls [.int s0_23, .ref (ad 0)]) := by
    intro s0_23 ls hl hf
    unfold f_Model_label_j23 at hf
    obtain ⟨r23, hc23, hf⟩ := ob hf
    refine k_wri (k_vir S (c_Model_good (l := l) (D := D) (ad := ad) (G := G) hc23) g_Model_109 hd_Model_good ⟨rfl, rfl⟩ ⟨Nat.le_of_ble_eq_true rfl, Nat.le_of_ble_eq_true rfl⟩ wl_blind (va_recv hK hP rfl (wl_to (by decide) (MO_at))) (wl_pre hP hK hA) rfl hl.1 rfl (Nat.le_of_ble_eq_true rfl) d_Model_label_23 (Nat.zero_le _) (Nat.zero_le _)) hS (fun _ h => h) (fun H locs hP _ _ hS => ?_)
    refine lv_if_eq (tgt := 42) hx hb d_Model_label_26 (by decide) (fun h26 => ?_) (fun h26 => ?_)
    · rw [if_pos h26] at hf
      refine lv_iconst (v := 0) hx hb d_Model_label_42 (by decide) ?_
      cases hf
      exact w_iret hx hb hr hlk hP hS d_Model_label_43
    · rw [if_neg h26] at hf
      refine lv_aload_n hx hb d_Model_label_29 rfl (lv_at hl 0 rfl) ?_
      refine va_get (D := D) (ci := 5) (v := .ref (ad 4)) (C := R_Model) (T := F_Model) (N := 24) hx hb hts in_Model hown hK hP 0 (wl_to (by decide) (MO_at)) rfl 5 (by decide) (hts _ fl_Model_19) (fun _ h => h) rfl d_Model_label_30 ?_
      refine lv_iconst (v := 4) hx hb d_Model_label_33 (by decide) ?_
      refine lv_iload_n hx hb d_Model_label_34 rfl (lv_at hl 1 rfl) ?_
      refine lv_imul hx hb d_Model_label_35 ?_
      refine lv_iload_n hx hb d_Model_label_36 rfl (lv_at hl 2 rfl) ?_
      refine lv_iadd hx hb d_Model_label_37 ?_
      obtain ⟨j38, hj38, hf⟩ := ob hf
      refine k_iald hx hb hK hP 4 0 (by decide) (LAB_at) rfl hj38 d_Model_label_38 ?_
      refine lv_goto (tgt := 43) hx hb d_Model_label_39 (by decide) ?_
      cases hf
      exact w_iret hx hb hr hlk hP hS d_Model_label_43
  refine lv_if_eq (tgt := 22) hx hb d_Model_label_6 (by decide) (fun h6 => ?_) (fun h6 => ?_)
  · rw [if_pos h6] at hf
    refine lv_iconst (v := 0) hx hb d_Model_label_22 (by decide) ?_
    exact J23 _ _ (lv_sub hl [0, 1, 2] rfl) hf
  · rw [if_neg h6] at hf
    refine lv_iload_n hx hb d_Model_label_9 rfl (lv_at hl 2 rfl) ?_
    refine lv_iconst (v := 0) hx hb d_Model_label_10 (by decide) ?_
    refine lv_iconst (v := 3) hx hb d_Model_label_11 (by decide) ?_
    obtain ⟨r12, hc12, hf⟩ := ob hf
    refine k_rdi (k_sta S (c_Model_within (l := l) (D := D) (ad := ad) (G := G) hc12) g_Model_60 hd_Model_within ⟨rfl, rfl⟩ ⟨Nat.le_of_ble_eq_true rfl, Nat.le_of_ble_eq_true rfl⟩ wl_blind (wl_pre hP hK hA) rfl hl.1 rfl (Nat.le_of_ble_eq_true rfl) d_Model_label_12 (Nat.zero_le _) (Nat.zero_le _)) ?_
    refine lv_if_eq (tgt := 22) hx hb d_Model_label_15 (by decide) (fun h15 => ?_) (fun h15 => ?_)
    · rw [if_pos h15] at hf
      refine lv_iconst (v := 0) hx hb d_Model_label_22 (by decide) ?_
      exact J23 _ _ (lv_sub hl [0, 1, 2] rfl) hf
    · rw [if_neg h15] at hf
      refine lv_iconst (v := 1) hx hb d_Model_label_18 (by decide) ?_
      refine lv_goto (tgt := 23) hx hb d_Model_label_19 (by decide) ?_
      exact J23 _ _ (lv_sub hl [0, 1, 2] rfl) hf
def f_Model_told_j24 (a : Int32) (b : Int32) (z : Int32) (M : Mem) (s0_24 : Int32) : Option (Int32 × Mem) :=
    (f_Model_good s0_24 M).bind fun r24 => if r24.1 = 0 then (some (0, r24.2)) else ((ix (((24 * a) + (4 * b)) + z) 144).bind fun j44 => some ((r24.2 5 0 0 j44), r24.2))
def f_Model_told (a : Int32) (b : Int32) (z : Int32) (M : Mem) : Option (Int32 × Mem) :=
  (f_Model_isPair a b M).bind fun r4 => if r4 = 0 then (f_Model_told_j24 a b z M 0) else ((f_Model_within z 0 3).bind fun r13 => if r13 = 0 then (f_Model_told_j24 a b z M 0) else (f_Model_told_j24 a b z M 1))
abbrev rm_Model_told : Room := { frames := 3, cells := 0, slots := 0, locals := 65 }
set_option maxHeartbeats 4000000 in
set_option maxRecDepth 100000 in
theorem c_Model_told {l : Launch} {D : va_G} {ad : Nat → Nat} {G : Nat → ClassId} {a : Int32} {b : Int32} {z : Int32}  {M : Mem} {x : Int32 × Mem} (hf : f_Model_told a b z M = some x) : Met l y_Model_told (wc y_Model_told b_Model_told 4 (some .int)) rm_Model_told (va_Pc [.ref (ad 0), .int a, .int b, .int z] (tB D ad G M)) (wr_Q (some (.int x.1)) D cls 15 ad (tE ad G x.2)) 0 0 (wl_A 15 ad) := by
  refine k_met (by decide) (Nat.le_of_ble_eq_true rfl) ?_
  intro p e s m args below meth c S hr hlk hB ls hl
  obtain ⟨hx, hb, hml, hown, hts⟩ := id S
  obtain ⟨hP, hK, hA0⟩ := hB
  have hA := wl_own hA0
  have hl : lv_has ls 4 [(0, .ref (ad 0)), (1, .int a), (2, .int b), (3, .int z)] := hl
  have hS : va_S (wl_A 15 ad) s.heap s.heap [] := va_S.rf
  unfold f_Model_told at hf
  refine lv_aload_n hx hb d_Model_told_0 rfl (lv_at hl 0 rfl) ?_
  refine lv_aload_n hx hb d_Model_told_1 rfl (lv_at hl 0 rfl) ?_
  refine lv_iload_n hx hb d_Model_told_2 rfl (lv_at hl 1 rfl) ?_
  refine lv_iload_n hx hb d_Model_told_3 rfl (lv_at hl 2 rfl) ?_
  obtain ⟨r4, hc4, hf⟩ := ob hf
  refine k_rdi (k_vir S (c_Model_isPair (l := l) (D := D) (ad := ad) (G := G) hc4) g_Model_106 hd_Model_isPair ⟨rfl, rfl⟩ ⟨Nat.le_of_ble_eq_true rfl, Nat.le_of_ble_eq_true rfl⟩ wl_blind (va_recv hK hP rfl (wl_to (by decide) (MO_at))) (wl_pre hP hK hA) rfl hl.1 rfl (Nat.le_of_ble_eq_true rfl) d_Model_told_4 (Nat.zero_le _) (Nat.zero_le _)) ?_
  have J24 : ∀ (s0_24 : Int32) (ls : Array Slot), lv_has ls 4 [(0, .ref (ad 0)), (1, .int a), (2, .int b), (3, .int z)] → f_Model_told_j24 a b z M s0_24 = some x → W p l e rm_Model_told s m args below meth c s.heap [] 0 0 (MQ below (wr_Q (some (.int x.1)) D cls 15 ad (tE ad G x.2)) args s 0 0 (wl_A 15 ad)) (F0 m 24 ls [.int s0_24, .ref (ad 0)]) := by
    intro s0_24 ls hl hf
    unfold f_Model_told_j24 at hf
    obtain ⟨r24, hc24, hf⟩ := ob hf
    refine k_wri (k_vir S (c_Model_good (l := l) (D := D) (ad := ad) (G := G) hc24) g_Model_109 hd_Model_good ⟨rfl, rfl⟩ ⟨Nat.le_of_ble_eq_true rfl, Nat.le_of_ble_eq_true rfl⟩ wl_blind (va_recv hK hP rfl (wl_to (by decide) (MO_at))) (wl_pre hP hK hA) rfl hl.1 rfl (Nat.le_of_ble_eq_true rfl) d_Model_told_24 (Nat.zero_le _) (Nat.zero_le _)) hS (fun _ h => h) (fun H locs hP _ _ hS => ?_)
    refine lv_if_eq (tgt := 48) hx hb d_Model_told_27 (by decide) (fun h27 => ?_) (fun h27 => ?_)
    · rw [if_pos h27] at hf
      refine lv_iconst (v := 0) hx hb d_Model_told_48 (by decide) ?_
      cases hf
      exact w_iret hx hb hr hlk hP hS d_Model_told_49
    · rw [if_neg h27] at hf
      refine lv_aload_n hx hb d_Model_told_30 rfl (lv_at hl 0 rfl) ?_
      refine va_get (D := D) (ci := 5) (v := .ref (ad 5)) (C := R_Model) (T := F_Model) (N := 24) hx hb hts in_Model hown hK hP 0 (wl_to (by decide) (MO_at)) rfl 6 (by decide) (hts _ fl_Model_22) (fun _ h => h) rfl d_Model_told_31 ?_
      refine lv_bipush (v := 24) hx hb d_Model_told_34 (by decide) ?_
      refine lv_iload_n hx hb d_Model_told_36 rfl (lv_at hl 1 rfl) ?_
      refine lv_imul hx hb d_Model_told_37 ?_
      refine lv_iconst (v := 4) hx hb d_Model_told_38 (by decide) ?_
      refine lv_iload_n hx hb d_Model_told_39 rfl (lv_at hl 2 rfl) ?_
      refine lv_imul hx hb d_Model_told_40 ?_
      refine lv_iadd hx hb d_Model_told_41 ?_
      refine lv_iload_n hx hb d_Model_told_42 rfl (lv_at hl 3 rfl) ?_
      refine lv_iadd hx hb d_Model_told_43 ?_
      obtain ⟨j44, hj44, hf⟩ := ob hf
      refine k_iald hx hb hK hP 5 0 (by decide) (TLD_at) rfl hj44 d_Model_told_44 ?_
      refine lv_goto (tgt := 49) hx hb d_Model_told_45 (by decide) ?_
      cases hf
      exact w_iret hx hb hr hlk hP hS d_Model_told_49
  refine lv_if_eq (tgt := 23) hx hb d_Model_told_7 (by decide) (fun h7 => ?_) (fun h7 => ?_)
  · rw [if_pos h7] at hf
    refine lv_iconst (v := 0) hx hb d_Model_told_23 (by decide) ?_
    exact J24 _ _ (lv_sub hl [0, 1, 2, 3] rfl) hf
  · rw [if_neg h7] at hf
    refine lv_iload_n hx hb d_Model_told_10 rfl (lv_at hl 3 rfl) ?_
    refine lv_iconst (v := 0) hx hb d_Model_told_11 (by decide) ?_
    refine lv_iconst (v := 3) hx hb d_Model_told_12 (by decide) ?_
    obtain ⟨r13, hc13, hf⟩ := ob hf
    refine k_rdi (k_sta S (c_Model_within (l := l) (D := D) (ad := ad) (G := G) hc13) g_Model_60 hd_Model_within ⟨rfl, rfl⟩ ⟨Nat.le_of_ble_eq_true rfl, Nat.le_of_ble_eq_true rfl⟩ wl_blind (wl_pre hP hK hA) rfl hl.1 rfl (Nat.le_of_ble_eq_true rfl) d_Model_told_13 (Nat.zero_le _) (Nat.zero_le _)) ?_
    refine lv_if_eq (tgt := 23) hx hb d_Model_told_16 (by decide) (fun h16 => ?_) (fun h16 => ?_)
    · rw [if_pos h16] at hf
      refine lv_iconst (v := 0) hx hb d_Model_told_23 (by decide) ?_
      exact J24 _ _ (lv_sub hl [0, 1, 2, 3] rfl) hf
    · rw [if_neg h16] at hf
      refine lv_iconst (v := 1) hx hb d_Model_told_19 (by decide) ?_
      refine lv_goto (tgt := 24) hx hb d_Model_told_20 (by decide) ?_
      exact J24 _ _ (lv_sub hl [0, 1, 2, 3] rfl) hf
def f_Model_taken (a : Int32) (M : Mem) : Option (Int32 × Mem) :=
  (f_Model_isRouter a M).bind fun r3 => (f_Model_good r3 M).bind fun r6 => if r6.1 = 0 then (some (0, r6.2)) else ((f_Model_takenOf a r6.2).bind fun r14 => some (r14, r6.2))
abbrev rm_Model_taken : Room := { frames := 2, cells := 0, slots := 0, locals := 47 }
set_option maxHeartbeats 4000000 in
set_option maxRecDepth 100000 in
theorem c_Model_taken {l : Launch} {D : va_G} {ad : Nat → Nat} {G : Nat → ClassId} {a : Int32}  {M : Mem} {x : Int32 × Mem} (hf : f_Model_taken a M = some x) : Met l y_Model_taken (wc y_Model_taken b_Model_taken 2 (some .int)) rm_Model_taken (va_Pc [.ref (ad 0), .int a] (tB D ad G M)) (wr_Q (some (.int x.1)) D cls 15 ad (tE ad G x.2)) 0 0 (wl_A 15 ad) := by
  refine k_met (by decide) (Nat.le_of_ble_eq_true rfl) ?_
  intro p e s m args below meth c S hr hlk hB ls hl
  obtain ⟨hx, hb, hml, hown, hts⟩ := id S
  obtain ⟨hP, hK, hA0⟩ := hB
  have hA := wl_own hA0
  have hl : lv_has ls 2 [(0, .ref (ad 0)), (1, .int a)] := hl
  have hS : va_S (wl_A 15 ad) s.heap s.heap [] := va_S.rf
  unfold f_Model_taken at hf
  refine lv_aload_n hx hb d_Model_taken_0 rfl (lv_at hl 0 rfl) ?_
  refine lv_aload_n hx hb d_Model_taken_1 rfl (lv_at hl 0 rfl) ?_
  refine lv_iload_n hx hb d_Model_taken_2 rfl (lv_at hl 1 rfl) ?_
  obtain ⟨r3, hc3, hf⟩ := ob hf
  refine k_rdi (k_vir S (c_Model_isRouter (l := l) (D := D) (ad := ad) (G := G) hc3) g_Model_64 hd_Model_isRouter ⟨rfl, rfl⟩ ⟨Nat.le_of_ble_eq_true rfl, Nat.le_of_ble_eq_true rfl⟩ wl_blind (va_recv hK hP rfl (wl_to (by decide) (MO_at))) (wl_pre hP hK hA) rfl hl.1 rfl (Nat.le_of_ble_eq_true rfl) d_Model_taken_3 (Nat.zero_le _) (Nat.zero_le _)) ?_
  obtain ⟨r6, hc6, hf⟩ := ob hf
  refine k_wri (k_vir S (c_Model_good (l := l) (D := D) (ad := ad) (G := G) hc6) g_Model_109 hd_Model_good ⟨rfl, rfl⟩ ⟨Nat.le_of_ble_eq_true rfl, Nat.le_of_ble_eq_true rfl⟩ wl_blind (va_recv hK hP rfl (wl_to (by decide) (MO_at))) (wl_pre hP hK hA) rfl hl.1 rfl (Nat.le_of_ble_eq_true rfl) d_Model_taken_6 (Nat.zero_le _) (Nat.zero_le _)) hS (fun _ h => h) (fun H locs hP _ _ hS => ?_)
  refine lv_if_eq (tgt := 20) hx hb d_Model_taken_9 (by decide) (fun h9 => ?_) (fun h9 => ?_)
  · rw [if_pos h9] at hf
    refine lv_iconst (v := 0) hx hb d_Model_taken_20 (by decide) ?_
    cases hf
    exact w_iret hx hb hr hlk hP hS d_Model_taken_21
  · rw [if_neg h9] at hf
    refine lv_aload_n hx hb d_Model_taken_12 rfl (lv_at hl 0 rfl) ?_
    refine lv_iload_n hx hb d_Model_taken_13 rfl (lv_at hl 1 rfl) ?_
    obtain ⟨r14, hc14, hf⟩ := ob hf
    refine k_rdi (k_vir S (c_Model_takenOf (l := l) (D := D) (ad := ad) (G := G) hc14) g_Model_126 hd_Model_takenOf ⟨rfl, rfl⟩ ⟨Nat.le_of_ble_eq_true rfl, Nat.le_of_ble_eq_true rfl⟩ wl_blind (va_recv hK hP rfl (wl_to (by decide) (MO_at))) (wl_pre hP hK hA) rfl hl.1 rfl (Nat.le_of_ble_eq_true rfl) d_Model_taken_14 (Nat.zero_le _) (Nat.zero_le _)) ?_
    refine lv_goto (tgt := 21) hx hb d_Model_taken_17 (by decide) ?_
    cases hf
    exact w_iret hx hb hr hlk hP hS d_Model_taken_21
def f_Model_arrive_j105 (a : Int32) (M : Mem) (j9 : Nat) (s0_105 : Int32) : Option (Mem) :=
    (ix ((mset M 13 0 0 j9 a) 0 0 0 21) 300).bind fun j105 => some (mset (mset (mset M 13 0 0 j9 a) 14 0 0 j105 s0_105) 0 0 0 21 (((mset (mset M 13 0 0 j9 a) 14 0 0 j105 s0_105) 0 0 0 21) + 1))
def f_Model_arrive_j101 (a : Int32) (M : Mem) (j9 : Nat) (s0_48 : Int32) (s0_67 : Int32) (s0_101 : Int32) : Option (Mem) :=
    f_Model_arrive_j105 a M j9 (((4096 * s0_48) + s0_101) + s0_67)
def f_Model_arrive_j67 (a : Int32) (M : Mem) (j9 : Nat) (s0_29 : Int32) (s0_48 : Int32) (s0_67 : Int32) : Option (Mem) :=
    if s0_48 = 0 then (f_Model_arrive_j105 a M j9 0) else (if s0_29 = 0 then (f_Model_arrive_j101 a M j9 s0_48 s0_67 256) else (f_Model_arrive_j101 a M j9 s0_48 s0_67 0))
def f_Model_arrive_j48 (a : Int32) (M : Mem) (j9 : Nat) (s0_29 : Int32) (s0_48 : Int32) : Option (Mem) :=
    if ((mset M 13 0 0 j9 a) 0 0 0 17) ≤ 0 then (f_Model_arrive_j67 a M j9 s0_29 s0_48 ((mset M 13 0 0 j9 a) 0 0 0 20)) else (f_Model_arrive_j67 a M j9 s0_29 s0_48 ((mset M 13 0 0 j9 a) 0 0 0 19))
def f_Model_arrive_j29 (a : Int32) (M : Mem) (j9 : Nat) (s0_29 : Int32) : Option (Mem) :=
    if ((mset M 13 0 0 j9 a) 0 0 0 17) ≤ 0 then (f_Model_arrive_j48 a M j9 s0_29 ((mset M 13 0 0 j9 a) 0 0 0 18)) else (f_Model_arrive_j48 a M j9 s0_29 ((mset M 13 0 0 j9 a) 0 0 0 17))
def f_Model_arrive (a : Int32) (M : Mem) : Option (Mem) :=
  (ix (M 0 0 0 21) 300).bind fun j9 => if ((mset M 13 0 0 j9 a) 0 0 0 17) ≤ 0 then (f_Model_arrive_j29 a M j9 0) else (if ((mset M 13 0 0 j9 a) 0 0 0 18) ≤ 0 then (f_Model_arrive_j29 a M j9 0) else (f_Model_arrive_j29 a M j9 1))
abbrev rm_Model_arrive : Room := { frames := 0, cells := 0, slots := 0, locals := 0 }
set_option maxHeartbeats 4000000 in
set_option maxRecDepth 100000 in
theorem c_Model_arrive {l : Launch} {D : va_G} {ad : Nat → Nat} {G : Nat → ClassId} {a : Int32}  {M : Mem} {x : Mem} (hf : f_Model_arrive a M = some x) : Met l y_Model_arrive (wc y_Model_arrive b_Model_arrive 5 (none)) rm_Model_arrive (va_Pc [.ref (ad 0), .int a] (tB D ad G M)) (wr_Q (none) D cls 15 ad (tE ad G x)) 0 0 (wl_A 15 ad) := by
  refine k_met (by decide) (Nat.le_of_ble_eq_true rfl) ?_
  intro p e s m args below meth c S hr hlk hB ls hl
  obtain ⟨hx, hb, hml, hown, hts⟩ := id S
  obtain ⟨hP, hK, hA0⟩ := hB
  have hA := wl_own hA0
  have hl : lv_has ls 5 [(0, .ref (ad 0)), (1, .int a)] := hl
  have hS : va_S (wl_A 15 ad) s.heap s.heap [] := va_S.rf
  unfold f_Model_arrive at hf
  refine lv_aload_n hx hb d_Model_arrive_0 rfl (lv_at hl 0 rfl) ?_
  refine va_get (D := D) (ci := 5) (v := .ref (ad 13)) (C := R_Model) (T := F_Model) (N := 24) hx hb hts in_Model hown hK hP 0 (wl_to (by decide) (MO_at)) rfl 22 (by decide) (hts _ fl_Model_47) (fun _ h => h) rfl d_Model_arrive_1 ?_
  refine lv_aload_n hx hb d_Model_arrive_4 rfl (lv_at hl 0 rfl) ?_
  refine va_get (D := D) (ci := 5) (v := .int (M 0 0 0 21)) (C := R_Model) (T := F_Model) (N := 24) hx hb hts in_Model hown hK hP 0 (wl_to (by decide) (MO_at)) rfl 21 (by decide) (hts _ fl_Model_129) (fun _ h => h) rfl d_Model_arrive_5 ?_
  refine lv_iload_n hx hb d_Model_arrive_8 rfl (lv_at hl 1 rfl) ?_
  obtain ⟨j9, hj9, hf⟩ := ob hf
  refine m_iast (t := 13) (a := 0) (b := 0) (x := a) hx hb hK hP hA hS tJ 13 0 (by decide) ⟨rfl, rfl, rfl⟩ (fun f => WHE_row f) rfl hj9 d_Model_arrive_9 (fun H locs hP hS => ?_)
  refine lv_aload_n hx hb d_Model_arrive_10 rfl (lv_at hl 0 rfl) ?_
  refine va_get (D := D) (ci := 5) (v := .int ((mset M 13 0 0 j9 a) 0 0 0 17)) (C := R_Model) (T := F_Model) (N := 24) hx hb hts in_Model hown hK hP 0 (wl_to (by decide) (MO_at)) rfl 17 (by decide) (hts _ fl_Model_132) (fun _ h => h) rfl d_Model_arrive_11 ?_
  have J29 : ∀ (s0_29 : Int32) (ls : Array Slot), lv_has ls 5 [(0, .ref (ad 0)), (1, .int a)] → f_Model_arrive_j29 a M j9 s0_29 = some x → W p l e rm_Model_arrive s m args below meth c H locs 0 0 (MQ below (wr_Q (none) D cls 15 ad (tE ad G x)) args s 0 0 (wl_A 15 ad)) (F0 m 29 ls [.int s0_29]) := by
    intro s0_29 ls hl hf
    unfold f_Model_arrive_j29 at hf
    refine lv_istore_n (lv' := [(2, .int s0_29), (0, .ref (ad 0)), (1, .int a)]) hx hb d_Model_arrive_29 rfl hl (by decide) rfl (fun ls hl => ?_)
    refine lv_aload_n hx hb d_Model_arrive_30 rfl (lv_at hl 1 rfl) ?_
    refine va_get (D := D) (ci := 5) (v := .int ((mset M 13 0 0 j9 a) 0 0 0 17)) (C := R_Model) (T := F_Model) (N := 24) hx hb hts in_Model hown hK hP 0 (wl_to (by decide) (MO_at)) rfl 17 (by decide) (hts _ fl_Model_132) (fun _ h => h) rfl d_Model_arrive_31 ?_
    have J48 : ∀ (s0_48 : Int32) (ls : Array Slot), lv_has ls 5 [(2, .int s0_29), (0, .ref (ad 0)), (1, .int a)] → f_Model_arrive_j48 a M j9 s0_29 s0_48 = some x → W p l e rm_Model_arrive s m args below meth c H locs 0 0 (MQ below (wr_Q (none) D cls 15 ad (tE ad G x)) args s 0 0 (wl_A 15 ad)) (F0 m 48 ls [.int s0_48]) := by
      intro s0_48 ls hl hf
      unfold f_Model_arrive_j48 at hf
      refine lv_istore_n (lv' := [(3, .int s0_48), (2, .int s0_29), (0, .ref (ad 0)), (1, .int a)]) hx hb d_Model_arrive_48 rfl hl (by decide) rfl (fun ls hl => ?_)
      refine lv_aload_n hx hb d_Model_arrive_49 rfl (lv_at hl 2 rfl) ?_
      refine va_get (D := D) (ci := 5) (v := .int ((mset M 13 0 0 j9 a) 0 0 0 17)) (C := R_Model) (T := F_Model) (N := 24) hx hb hts in_Model hown hK hP 0 (wl_to (by decide) (MO_at)) rfl 17 (by decide) (hts _ fl_Model_132) (fun _ h => h) rfl d_Model_arrive_50 ?_
      have J67 : ∀ (s0_67 : Int32) (ls : Array Slot), lv_has ls 5 [(3, .int s0_48), (2, .int s0_29), (0, .ref (ad 0)), (1, .int a)] → f_Model_arrive_j67 a M j9 s0_29 s0_48 s0_67 = some x → W p l e rm_Model_arrive s m args below meth c H locs 0 0 (MQ below (wr_Q (none) D cls 15 ad (tE ad G x)) args s 0 0 (wl_A 15 ad)) (F0 m 67 ls [.int s0_67]) := by
        intro s0_67 ls hl hf
        unfold f_Model_arrive_j67 at hf
        refine lv_istore (lv' := [(4, .int s0_67), (3, .int s0_48), (2, .int s0_29), (0, .ref (ad 0)), (1, .int a)]) hx hb d_Model_arrive_67 hl (by decide) rfl (fun ls hl => ?_)
        refine lv_aload_n hx hb d_Model_arrive_69 rfl (lv_at hl 3 rfl) ?_
        refine va_get (D := D) (ci := 5) (v := .ref (ad 14)) (C := R_Model) (T := F_Model) (N := 24) hx hb hts in_Model hown hK hP 0 (wl_to (by decide) (MO_at)) rfl 23 (by decide) (hts _ fl_Model_50) (fun _ h => h) rfl d_Model_arrive_70 ?_
        refine lv_aload_n hx hb d_Model_arrive_73 rfl (lv_at hl 3 rfl) ?_
        refine va_get (D := D) (ci := 5) (v := .int ((mset M 13 0 0 j9 a) 0 0 0 21)) (C := R_Model) (T := F_Model) (N := 24) hx hb hts in_Model hown hK hP 0 (wl_to (by decide) (MO_at)) rfl 21 (by decide) (hts _ fl_Model_129) (fun _ h => h) rfl d_Model_arrive_74 ?_
        refine lv_iload_n hx hb d_Model_arrive_77 rfl (lv_at hl 1 rfl) ?_
        have J105 : ∀ (s0_105 : Int32) (ls : Array Slot), lv_has ls 5 [(4, .int s0_67), (3, .int s0_48), (2, .int s0_29), (0, .ref (ad 0)), (1, .int a)] → f_Model_arrive_j105 a M j9 s0_105 = some x → W p l e rm_Model_arrive s m args below meth c H locs 0 0 (MQ below (wr_Q (none) D cls 15 ad (tE ad G x)) args s 0 0 (wl_A 15 ad)) (F0 m 105 ls [.int s0_105, .int ((mset M 13 0 0 j9 a) 0 0 0 21), .ref (ad 14)]) := by
          intro s0_105 ls hl hf
          unfold f_Model_arrive_j105 at hf
          obtain ⟨j105, hj105, hf⟩ := ob hf
          refine m_iast (t := 14) (a := 0) (b := 0) (x := s0_105) hx hb hK hP hA hS tJ 14 0 (by decide) ⟨rfl, rfl, rfl⟩ (fun f => ENT_row f) rfl hj105 d_Model_arrive_105 (fun H locs hP hS => ?_)
          refine lv_aload_n hx hb d_Model_arrive_106 rfl (lv_at hl 3 rfl) ?_
          refine lv_dup hx hb d_Model_arrive_107 rfl ?_
          refine va_get (D := D) (ci := 5) (v := .int ((mset (mset M 13 0 0 j9 a) 14 0 0 j105 s0_105) 0 0 0 21)) (C := R_Model) (T := F_Model) (N := 24) hx hb hts in_Model hown hK hP 0 (wl_to (by decide) (MO_at)) rfl 21 (by decide) (hts _ fl_Model_129) (fun _ h => h) rfl d_Model_arrive_108 ?_
          refine lv_iconst (v := 1) hx hb d_Model_arrive_111 (by decide) ?_
          refine lv_iadd hx hb d_Model_arrive_112 ?_
          refine m_put (t := 0) (a := 0) (b := 0) (x := (((mset (mset M 13 0 0 j9 a) 14 0 0 j105 s0_105) 0 0 0 21) + 1)) (ci := 5) (C := R_Model) (T := F_Model) (N := 24) hx hb hts in_Model t_Model ty_Model nm_Model hown hK hP hA hS tJ 0 (by decide) (Model_fs ad) (fun _ => rfl) ⟨rfl, rfl, rfl⟩ rfl 21 (by decide) (hts _ fl_Model_129) rfl (by decide +kernel) (fun _ => ⟨Nat.le_of_ble_eq_true rfl, rfl⟩) d_Model_arrive_113 (fun H locs hP hS => ?_)
          cases hf
          exact w_vret hx hb hr hlk hP hS d_Model_arrive_116
        refine lv_if_ne (tgt := 85) hx hb d_Model_arrive_78 (by decide) (fun h78 => ?_) (fun h78 => ?_)
        · rw [if_neg h78] at hf
          refine lv_sipush (v := 4096) hx hb d_Model_arrive_85 (by decide) ?_
          refine lv_iload_n hx hb d_Model_arrive_88 rfl (lv_at hl 1 rfl) ?_
          refine lv_imul hx hb d_Model_arrive_89 ?_
          refine lv_iload_n hx hb d_Model_arrive_90 rfl (lv_at hl 2 rfl) ?_
          have J101 : ∀ (s0_101 : Int32) (ls : Array Slot), lv_has ls 5 [(4, .int s0_67), (3, .int s0_48), (2, .int s0_29), (0, .ref (ad 0)), (1, .int a)] → f_Model_arrive_j101 a M j9 s0_48 s0_67 s0_101 = some x → W p l e rm_Model_arrive s m args below meth c H locs 0 0 (MQ below (wr_Q (none) D cls 15 ad (tE ad G x)) args s 0 0 (wl_A 15 ad)) (F0 m 101 ls [.int s0_101, .int (4096 * s0_48), .int ((mset M 13 0 0 j9 a) 0 0 0 21), .ref (ad 14)]) := by
            intro s0_101 ls hl hf
            unfold f_Model_arrive_j101 at hf
            refine lv_iadd hx hb d_Model_arrive_101 ?_
            refine lv_iload hx hb d_Model_arrive_102 (lv_at hl 0 rfl) ?_
            refine lv_iadd hx hb d_Model_arrive_104 ?_
            exact J105 _ _ (lv_sub hl [0, 1, 2, 3, 4] rfl) hf
          refine lv_if_eq (tgt := 98) hx hb d_Model_arrive_91 (by decide) (fun h91 => ?_) (fun h91 => ?_)
          · rw [if_pos h91] at hf
            refine lv_sipush (v := 256) hx hb d_Model_arrive_98 (by decide) ?_
            exact J101 _ _ (lv_sub hl [0, 1, 2, 3, 4] rfl) hf
          · rw [if_neg h91] at hf
            refine lv_iconst (v := 0) hx hb d_Model_arrive_94 (by decide) ?_
            refine lv_goto (tgt := 101) hx hb d_Model_arrive_95 (by decide) ?_
            exact J101 _ _ (lv_sub hl [0, 1, 2, 3, 4] rfl) hf
        · rw [if_pos h78] at hf
          refine lv_iconst (v := 0) hx hb d_Model_arrive_81 (by decide) ?_
          refine lv_goto (tgt := 105) hx hb d_Model_arrive_82 (by decide) ?_
          exact J105 _ _ (lv_sub hl [0, 1, 2, 3, 4] rfl) hf
      refine lv_if_le (tgt := 63) hx hb d_Model_arrive_53 (by decide) (fun h53 => ?_) (fun h53 => ?_)
      · rw [if_pos h53] at hf
        refine lv_aload_n hx hb d_Model_arrive_63 rfl (lv_at hl 2 rfl) ?_
        refine va_get (D := D) (ci := 5) (v := .int ((mset M 13 0 0 j9 a) 0 0 0 20)) (C := R_Model) (T := F_Model) (N := 24) hx hb hts in_Model hown hK hP 0 (wl_to (by decide) (MO_at)) rfl 20 (by decide) (hts _ fl_Model_141) (fun _ h => h) rfl d_Model_arrive_64 ?_
        exact J67 _ _ (lv_sub hl [0, 1, 2, 3] rfl) hf
      · rw [if_neg h53] at hf
        refine lv_aload_n hx hb d_Model_arrive_56 rfl (lv_at hl 2 rfl) ?_
        refine va_get (D := D) (ci := 5) (v := .int ((mset M 13 0 0 j9 a) 0 0 0 19)) (C := R_Model) (T := F_Model) (N := 24) hx hb hts in_Model hown hK hP 0 (wl_to (by decide) (MO_at)) rfl 19 (by decide) (hts _ fl_Model_138) (fun _ h => h) rfl d_Model_arrive_57 ?_
        refine lv_goto (tgt := 67) hx hb d_Model_arrive_60 (by decide) ?_
        exact J67 _ _ (lv_sub hl [0, 1, 2, 3] rfl) hf
    refine lv_if_le (tgt := 44) hx hb d_Model_arrive_34 (by decide) (fun h34 => ?_) (fun h34 => ?_)
    · rw [if_pos h34] at hf
      refine lv_aload_n hx hb d_Model_arrive_44 rfl (lv_at hl 1 rfl) ?_
      refine va_get (D := D) (ci := 5) (v := .int ((mset M 13 0 0 j9 a) 0 0 0 18)) (C := R_Model) (T := F_Model) (N := 24) hx hb hts in_Model hown hK hP 0 (wl_to (by decide) (MO_at)) rfl 18 (by decide) (hts _ fl_Model_135) (fun _ h => h) rfl d_Model_arrive_45 ?_
      exact J48 _ _ (lv_sub hl [0, 1, 2] rfl) hf
    · rw [if_neg h34] at hf
      refine lv_aload_n hx hb d_Model_arrive_37 rfl (lv_at hl 1 rfl) ?_
      refine va_get (D := D) (ci := 5) (v := .int ((mset M 13 0 0 j9 a) 0 0 0 17)) (C := R_Model) (T := F_Model) (N := 24) hx hb hts in_Model hown hK hP 0 (wl_to (by decide) (MO_at)) rfl 17 (by decide) (hts _ fl_Model_132) (fun _ h => h) rfl d_Model_arrive_38 ?_
      refine lv_goto (tgt := 48) hx hb d_Model_arrive_41 (by decide) ?_
      exact J48 _ _ (lv_sub hl [0, 1, 2] rfl) hf
  refine lv_if_le (tgt := 28) hx hb d_Model_arrive_14 (by decide) (fun h14 => ?_) (fun h14 => ?_)
  · rw [if_pos h14] at hf
    refine lv_iconst (v := 0) hx hb d_Model_arrive_28 (by decide) ?_
    exact J29 _ _ (lv_sub hl [0, 1] rfl) hf
  · rw [if_neg h14] at hf
    refine lv_aload_n hx hb d_Model_arrive_17 rfl (lv_at hl 0 rfl) ?_
    refine va_get (D := D) (ci := 5) (v := .int ((mset M 13 0 0 j9 a) 0 0 0 18)) (C := R_Model) (T := F_Model) (N := 24) hx hb hts in_Model hown hK hP 0 (wl_to (by decide) (MO_at)) rfl 18 (by decide) (hts _ fl_Model_135) (fun _ h => h) rfl d_Model_arrive_18 ?_
    refine lv_if_le (tgt := 28) hx hb d_Model_arrive_21 (by decide) (fun h21 => ?_) (fun h21 => ?_)
    · rw [if_pos h21] at hf
      refine lv_iconst (v := 0) hx hb d_Model_arrive_28 (by decide) ?_
      exact J29 _ _ (lv_sub hl [0, 1] rfl) hf
    · rw [if_neg h21] at hf
      refine lv_iconst (v := 1) hx hb d_Model_arrive_24 (by decide) ?_
      refine lv_goto (tgt := 29) hx hb d_Model_arrive_25 (by decide) ?_
      exact J29 _ _ (lv_sub hl [0, 1] rfl) hf
def f_Model_prefixAt_j27 (v3_2 : Int32) : Option (Int32) :=
    if v3_2 = 4 then (some (-1)) else (some v3_2)
def f_Model_prefixAt_2 (a : Int32) (b : Int32) (M : Mem) : Nat → Int32 → Option (Int32)
  | 0, _ => none
  | k2 + 1, v3_2 =>
    if 4 ≤ v3_2 then (f_Model_prefixAt_j27 v3_2) else ((ix ((4 * a) + v3_2) 24).bind fun j16 => if (M 4 0 0 j16) = b then (f_Model_prefixAt_j27 v3_2) else (f_Model_prefixAt_2 a b M k2 (v3_2 + 1)))
def f_Model_prefixAt (a : Int32) (b : Int32) (M : Mem) : Option (Int32) :=
  f_Model_prefixAt_2 a b M 1000 0
abbrev rm_Model_prefixAt : Room := { frames := 0, cells := 0, slots := 0, locals := 0 }
set_option maxHeartbeats 4000000 in
set_option maxRecDepth 100000 in
theorem c_Model_prefixAt {l : Launch} {D : va_G} {ad : Nat → Nat} {G : Nat → ClassId} {a : Int32} {b : Int32}  {M : Mem} {x : Int32} (hf : f_Model_prefixAt a b M = some x) : Met l y_Model_prefixAt (wc y_Model_prefixAt b_Model_prefixAt 4 (some .int)) rm_Model_prefixAt (va_Pc [.ref (ad 0), .int a, .int b] (tB D ad G M)) (rd_Q (some (.int x))) 0 0 (fun _ => False) := by
  refine k_met (by decide) (Nat.le_of_ble_eq_true rfl) ?_
  intro p e s m args below meth c S hr hlk hB ls hl
  obtain ⟨hx, hb, hml, hown, hts⟩ := id S
  obtain ⟨hP, hK, hA0⟩ := hB
  have hA := wl_own hA0
  have hl : lv_has ls 4 [(0, .ref (ad 0)), (1, .int a), (2, .int b)] := hl
  unfold f_Model_prefixAt at hf
  refine lv_iconst (v := 0) hx hb d_Model_prefixAt_0 (by decide) ?_
  refine lv_istore_n (lv' := [(3, .int 0), (0, .ref (ad 0)), (1, .int a), (2, .int b)]) hx hb d_Model_prefixAt_1 rfl hl (by decide) rfl (fun ls hl => ?_)
  have L2 : ∀ (k2 : Nat) (v3_2 : Int32) (ls : Array Slot), lv_has ls 4 [(3, .int v3_2), (0, .ref (ad 0)), (1, .int a), (2, .int b)] → f_Model_prefixAt_2 a b M k2 v3_2 = some x → W p l e rm_Model_prefixAt s m args below meth c s.heap [] 0 0 (MQ below (rd_Q (some (.int x))) args s 0 0 (fun _ => False)) (F0 m 2 ls []) := by
    intro k2
    induction k2 with
    | zero =>
      intro v3_2 ls hl hf
      simp [f_Model_prefixAt_2] at hf
    | succ k2 ih2 =>
      intro v3_2 ls hl hf
      rw [f_Model_prefixAt_2] at hf
      refine lv_iload_n hx hb d_Model_prefixAt_2 rfl (lv_at hl 0 rfl) ?_
      refine lv_iconst (v := 4) hx hb d_Model_prefixAt_3 (by decide) ?_
      have J27 : ∀ (ls : Array Slot), lv_has ls 4 [(3, .int v3_2), (0, .ref (ad 0)), (1, .int a), (2, .int b)] → f_Model_prefixAt_j27 v3_2 = some x → W p l e rm_Model_prefixAt s m args below meth c s.heap [] 0 0 (MQ below (rd_Q (some (.int x))) args s 0 0 (fun _ => False)) (F0 m 27 ls []) := by
        intro ls hl hf
        unfold f_Model_prefixAt_j27 at hf
        refine lv_iload_n hx hb d_Model_prefixAt_27 rfl (lv_at hl 0 rfl) ?_
        refine lv_iconst (v := 4) hx hb d_Model_prefixAt_28 (by decide) ?_
        refine lv_icmp_ne (tgt := 36) hx hb d_Model_prefixAt_29 (by decide) (fun h29 => ?_) (fun h29 => ?_)
        · rw [if_neg h29] at hf
          refine lv_iload_n hx hb d_Model_prefixAt_36 rfl (lv_at hl 0 rfl) ?_
          cases hf
          exact r_iret hx hb hr hlk d_Model_prefixAt_37
        · rw [if_pos h29] at hf
          refine lv_iconst (v := (-1)) hx hb d_Model_prefixAt_32 (by decide) ?_
          refine lv_goto (tgt := 37) hx hb d_Model_prefixAt_33 (by decide) ?_
          cases hf
          exact r_iret hx hb hr hlk d_Model_prefixAt_37
      refine lv_icmp_ge (tgt := 27) hx hb d_Model_prefixAt_4 (by decide) (fun h4 => ?_) (fun h4 => ?_)
      · rw [if_pos h4] at hf
        exact J27 _ (lv_sub hl [0, 1, 2, 3] rfl) hf
      · rw [if_neg h4] at hf
        refine lv_aload_n hx hb d_Model_prefixAt_7 rfl (lv_at hl 1 rfl) ?_
        refine va_get (D := D) (ci := 5) (v := .ref (ad 4)) (C := R_Model) (T := F_Model) (N := 24) hx hb hts in_Model hown hK hP 0 (wl_to (by decide) (MO_at)) rfl 5 (by decide) (hts _ fl_Model_19) (fun _ h => h) rfl d_Model_prefixAt_8 ?_
        refine lv_iconst (v := 4) hx hb d_Model_prefixAt_11 (by decide) ?_
        refine lv_iload_n hx hb d_Model_prefixAt_12 rfl (lv_at hl 2 rfl) ?_
        refine lv_imul hx hb d_Model_prefixAt_13 ?_
        refine lv_iload_n hx hb d_Model_prefixAt_14 rfl (lv_at hl 0 rfl) ?_
        refine lv_iadd hx hb d_Model_prefixAt_15 ?_
        obtain ⟨j16, hj16, hf⟩ := ob hf
        refine k_iald hx hb hK hP 4 0 (by decide) (LAB_at) rfl hj16 d_Model_prefixAt_16 ?_
        refine lv_iload_n hx hb d_Model_prefixAt_17 rfl (lv_at hl 3 rfl) ?_
        refine lv_icmp_eq (tgt := 27) hx hb d_Model_prefixAt_18 (by decide) (fun h18 => ?_) (fun h18 => ?_)
        · rw [if_pos h18] at hf
          exact J27 _ (lv_sub hl [0, 1, 2, 3] rfl) hf
        · rw [if_neg h18] at hf
          refine lv_iinc (v := (v3_2 + 1)) (lv' := [(3, .int (v3_2 + 1)), (0, .ref (ad 0)), (1, .int a), (2, .int b)]) hx hb d_Model_prefixAt_21 hl (k := 0) rfl rfl (by decide) rfl (fun ls hl => ?_)
          refine lv_goto (tgt := 2) hx hb d_Model_prefixAt_24 (by decide) ?_
          exact ih2 _ _ (lv_sub hl [0, 1, 2, 3] rfl) hf
  exact L2 _ _ _ (lv_sub hl [0, 1, 2, 3] rfl) hf
def f_Model_looked (a : Int32) (M : Mem) : Option (Int32) :=
  (ix ((M 0 0 0 18) - 32) 4).bind fun j11 => if (M 3 0 0 j11) = a then (some 0) else (some 3)
abbrev rm_Model_looked : Room := { frames := 0, cells := 0, slots := 0, locals := 0 }
set_option maxHeartbeats 4000000 in
set_option maxRecDepth 100000 in
theorem c_Model_looked {l : Launch} {D : va_G} {ad : Nat → Nat} {G : Nat → ClassId} {a : Int32}  {M : Mem} {x : Int32} (hf : f_Model_looked a M = some x) : Met l y_Model_looked (wc y_Model_looked b_Model_looked 2 (some .int)) rm_Model_looked (va_Pc [.ref (ad 0), .int a] (tB D ad G M)) (rd_Q (some (.int x))) 0 0 (fun _ => False) := by
  refine k_met (by decide) (Nat.le_of_ble_eq_true rfl) ?_
  intro p e s m args below meth c S hr hlk hB ls hl
  obtain ⟨hx, hb, hml, hown, hts⟩ := id S
  obtain ⟨hP, hK, hA0⟩ := hB
  have hA := wl_own hA0
  have hl : lv_has ls 2 [(0, .ref (ad 0)), (1, .int a)] := hl
  unfold f_Model_looked at hf
  refine lv_aload_n hx hb d_Model_looked_0 rfl (lv_at hl 0 rfl) ?_
  refine va_get (D := D) (ci := 5) (v := .ref (ad 3)) (C := R_Model) (T := F_Model) (N := 24) hx hb hts in_Model hown hK hP 0 (wl_to (by decide) (MO_at)) rfl 4 (by decide) (hts _ fl_Model_16) (fun _ h => h) rfl d_Model_looked_1 ?_
  refine lv_aload_n hx hb d_Model_looked_4 rfl (lv_at hl 0 rfl) ?_
  refine va_get (D := D) (ci := 5) (v := .int (M 0 0 0 18)) (C := R_Model) (T := F_Model) (N := 24) hx hb hts in_Model hown hK hP 0 (wl_to (by decide) (MO_at)) rfl 18 (by decide) (hts _ fl_Model_135) (fun _ h => h) rfl d_Model_looked_5 ?_
  refine lv_bipush (v := 32) hx hb d_Model_looked_8 (by decide) ?_
  refine lv_isub hx hb d_Model_looked_10 ?_
  obtain ⟨j11, hj11, hf⟩ := ob hf
  refine k_iald hx hb hK hP 3 0 (by decide) (PLC_at) rfl hj11 d_Model_looked_11 ?_
  refine lv_iload_n hx hb d_Model_looked_12 rfl (lv_at hl 1 rfl) ?_
  refine lv_icmp_ne (tgt := 20) hx hb d_Model_looked_13 (by decide) (fun h13 => ?_) (fun h13 => ?_)
  · rw [if_neg h13] at hf
    refine lv_iconst (v := 3) hx hb d_Model_looked_20 (by decide) ?_
    cases hf
    exact r_iret hx hb hr hlk d_Model_looked_21
  · rw [if_pos h13] at hf
    refine lv_iconst (v := 0) hx hb d_Model_looked_16 (by decide) ?_
    refine lv_goto (tgt := 21) hx hb d_Model_looked_17 (by decide) ?_
    cases hf
    exact r_iret hx hb hr hlk d_Model_looked_21
def f_Model_at_j80 (a : Int32) (b : Int32) (M : Mem) (s0_63 : Int32) (s0_80 : Int32) : Option (Int32 × Mem) :=
    if ((mset M 0 0 0 17 s0_63) 0 0 0 17) = 0 then (if ((mset M 0 0 0 17 s0_63) 0 0 0 18) ≤ 0 then (if ((mset M 0 0 0 17 s0_63) 0 0 0 17) = 0 then ((ix s0_80 4).bind fun j130 => if ((mset M 0 0 0 17 s0_63) 2 0 0 j130) = a then (some (0, (mset M 0 0 0 17 s0_63))) else ((f_Model_nextOf a s0_80 (mset M 0 0 0 17 s0_63)).bind fun r140 => if r140.1 = (-1) then (some (1, r140.2)) else ((ix (((24 * a) + (4 * r140.1)) + s0_80) 144).bind fun j168 => if (r140.2 5 0 0 j168) = 0 then (if 0 < (r140.2 0 0 0 17) then (some (4, r140.2)) else (if (r140.2 0 0 0 18) ≤ 0 then (if ((mset r140.2 0 0 0 17 (r140.2 5 0 0 j168)) 0 0 0 19) = 1 then (some (2, (mset r140.2 0 0 0 17 (r140.2 5 0 0 j168)))) else (some ((8 + r140.1), (mset r140.2 0 0 0 17 (r140.2 5 0 0 j168))))) else (some (4, r140.2)))) else (if ((mset r140.2 0 0 0 17 (r140.2 5 0 0 j168)) 0 0 0 19) = 1 then (some (2, (mset r140.2 0 0 0 17 (r140.2 5 0 0 j168)))) else (some ((8 + r140.1), (mset r140.2 0 0 0 17 (r140.2 5 0 0 j168)))))))) else ((f_Model_nextOf a s0_80 (mset M 0 0 0 17 s0_63)).bind fun r140 => if r140.1 = (-1) then (some (1, r140.2)) else ((ix (((24 * a) + (4 * r140.1)) + s0_80) 144).bind fun j168 => if (r140.2 5 0 0 j168) = 0 then (if 0 < (r140.2 0 0 0 17) then (some (4, r140.2)) else (if (r140.2 0 0 0 18) ≤ 0 then (if ((mset r140.2 0 0 0 17 (r140.2 5 0 0 j168)) 0 0 0 19) = 1 then (some (2, (mset r140.2 0 0 0 17 (r140.2 5 0 0 j168)))) else (some ((8 + r140.1), (mset r140.2 0 0 0 17 (r140.2 5 0 0 j168))))) else (some (4, r140.2)))) else (if ((mset r140.2 0 0 0 17 (r140.2 5 0 0 j168)) 0 0 0 19) = 1 then (some (2, (mset r140.2 0 0 0 17 (r140.2 5 0 0 j168)))) else (some ((8 + r140.1), (mset r140.2 0 0 0 17 (r140.2 5 0 0 j168)))))))) else (if b = 0 then ((f_Model_looked a (mset M 0 0 0 17 s0_63)).bind fun r114 => some (r114, (mset M 0 0 0 17 s0_63))) else ((ix ((mset M 0 0 0 17 s0_63) 0 0 0 16) 4).bind fun j107 => if ((mset M 0 0 0 17 s0_63) 2 0 0 j107) = a then ((f_Model_looked a (mset M 0 0 0 17 s0_63)).bind fun r114 => some (r114, (mset M 0 0 0 17 s0_63))) else (if ((mset M 0 0 0 17 s0_63) 0 0 0 17) = 0 then ((ix s0_80 4).bind fun j130 => if ((mset M 0 0 0 17 s0_63) 2 0 0 j130) = a then (some (0, (mset M 0 0 0 17 s0_63))) else ((f_Model_nextOf a s0_80 (mset M 0 0 0 17 s0_63)).bind fun r140 => if r140.1 = (-1) then (some (1, r140.2)) else ((ix (((24 * a) + (4 * r140.1)) + s0_80) 144).bind fun j168 => if (r140.2 5 0 0 j168) = 0 then (if 0 < (r140.2 0 0 0 17) then (some (4, r140.2)) else (if (r140.2 0 0 0 18) ≤ 0 then (if ((mset r140.2 0 0 0 17 (r140.2 5 0 0 j168)) 0 0 0 19) = 1 then (some (2, (mset r140.2 0 0 0 17 (r140.2 5 0 0 j168)))) else (some ((8 + r140.1), (mset r140.2 0 0 0 17 (r140.2 5 0 0 j168))))) else (some (4, r140.2)))) else (if ((mset r140.2 0 0 0 17 (r140.2 5 0 0 j168)) 0 0 0 19) = 1 then (some (2, (mset r140.2 0 0 0 17 (r140.2 5 0 0 j168)))) else (some ((8 + r140.1), (mset r140.2 0 0 0 17 (r140.2 5 0 0 j168)))))))) else ((f_Model_nextOf a s0_80 (mset M 0 0 0 17 s0_63)).bind fun r140 => if r140.1 = (-1) then (some (1, r140.2)) else ((ix (((24 * a) + (4 * r140.1)) + s0_80) 144).bind fun j168 => if (r140.2 5 0 0 j168) = 0 then (if 0 < (r140.2 0 0 0 17) then (some (4, r140.2)) else (if (r140.2 0 0 0 18) ≤ 0 then (if ((mset r140.2 0 0 0 17 (r140.2 5 0 0 j168)) 0 0 0 19) = 1 then (some (2, (mset r140.2 0 0 0 17 (r140.2 5 0 0 j168)))) else (some ((8 + r140.1), (mset r140.2 0 0 0 17 (r140.2 5 0 0 j168))))) else (some (4, r140.2)))) else (if ((mset r140.2 0 0 0 17 (r140.2 5 0 0 j168)) 0 0 0 19) = 1 then (some (2, (mset r140.2 0 0 0 17 (r140.2 5 0 0 j168)))) else (some ((8 + r140.1), (mset r140.2 0 0 0 17 (r140.2 5 0 0 j168))))))))))) else (if ((mset M 0 0 0 17 s0_63) 0 0 0 17) = 0 then ((ix s0_80 4).bind fun j130 => if ((mset M 0 0 0 17 s0_63) 2 0 0 j130) = a then (some (0, (mset M 0 0 0 17 s0_63))) else ((f_Model_nextOf a s0_80 (mset M 0 0 0 17 s0_63)).bind fun r140 => if r140.1 = (-1) then (some (1, r140.2)) else ((ix (((24 * a) + (4 * r140.1)) + s0_80) 144).bind fun j168 => if (r140.2 5 0 0 j168) = 0 then (if 0 < (r140.2 0 0 0 17) then (some (4, r140.2)) else (if (r140.2 0 0 0 18) ≤ 0 then (if ((mset r140.2 0 0 0 17 (r140.2 5 0 0 j168)) 0 0 0 19) = 1 then (some (2, (mset r140.2 0 0 0 17 (r140.2 5 0 0 j168)))) else (some ((8 + r140.1), (mset r140.2 0 0 0 17 (r140.2 5 0 0 j168))))) else (some (4, r140.2)))) else (if ((mset r140.2 0 0 0 17 (r140.2 5 0 0 j168)) 0 0 0 19) = 1 then (some (2, (mset r140.2 0 0 0 17 (r140.2 5 0 0 j168)))) else (some ((8 + r140.1), (mset r140.2 0 0 0 17 (r140.2 5 0 0 j168)))))))) else ((f_Model_nextOf a s0_80 (mset M 0 0 0 17 s0_63)).bind fun r140 => if r140.1 = (-1) then (some (1, r140.2)) else ((ix (((24 * a) + (4 * r140.1)) + s0_80) 144).bind fun j168 => if (r140.2 5 0 0 j168) = 0 then (if 0 < (r140.2 0 0 0 17) then (some (4, r140.2)) else (if (r140.2 0 0 0 18) ≤ 0 then (if ((mset r140.2 0 0 0 17 (r140.2 5 0 0 j168)) 0 0 0 19) = 1 then (some (2, (mset r140.2 0 0 0 17 (r140.2 5 0 0 j168)))) else (some ((8 + r140.1), (mset r140.2 0 0 0 17 (r140.2 5 0 0 j168))))) else (some (4, r140.2)))) else (if ((mset r140.2 0 0 0 17 (r140.2 5 0 0 j168)) 0 0 0 19) = 1 then (some (2, (mset r140.2 0 0 0 17 (r140.2 5 0 0 j168)))) else (some ((8 + r140.1), (mset r140.2 0 0 0 17 (r140.2 5 0 0 j168))))))))
def f_Model_at_j63 (a : Int32) (b : Int32) (M : Mem) (r18 : Int32) (s0_47 : Int32) (s0_63 : Int32) : Option (Int32 × Mem) :=
    if s0_47 = 0 then (f_Model_at_j80 a b M s0_63 r18) else (f_Model_at_j80 a b M s0_63 ((mset M 0 0 0 17 s0_63) 0 0 0 16))
def f_Model_at_j47 (a : Int32) (b : Int32) (M : Mem) (r18 : Int32) (s0_47 : Int32) : Option (Int32 × Mem) :=
    if s0_47 = 0 then (f_Model_at_j63 a b M r18 s0_47 (M 0 0 0 17)) else (f_Model_at_j63 a b M r18 s0_47 0)
def f_Model_at (a : Int32) (b : Int32) (M : Mem) : Option (Int32 × Mem) :=
  if (M 0 0 0 17) ≤ 0 then (if (M 0 0 0 17) = 0 then (if (M 0 0 0 18) ≤ 0 then (if (M 0 0 0 17) = 0 then ((ix (M 0 0 0 16) 4).bind fun j130 => if (M 2 0 0 j130) = a then (some (0, M)) else ((f_Model_nextOf a (M 0 0 0 16) M).bind fun r140 => if r140.1 = (-1) then (some (1, r140.2)) else ((ix (((24 * a) + (4 * r140.1)) + (M 0 0 0 16)) 144).bind fun j168 => if (r140.2 5 0 0 j168) = 0 then (if 0 < (r140.2 0 0 0 17) then (some (4, r140.2)) else (if (r140.2 0 0 0 18) ≤ 0 then (if ((mset r140.2 0 0 0 17 (r140.2 5 0 0 j168)) 0 0 0 19) = 1 then (some (2, (mset r140.2 0 0 0 17 (r140.2 5 0 0 j168)))) else (some ((8 + r140.1), (mset r140.2 0 0 0 17 (r140.2 5 0 0 j168))))) else (some (4, r140.2)))) else (if ((mset r140.2 0 0 0 17 (r140.2 5 0 0 j168)) 0 0 0 19) = 1 then (some (2, (mset r140.2 0 0 0 17 (r140.2 5 0 0 j168)))) else (some ((8 + r140.1), (mset r140.2 0 0 0 17 (r140.2 5 0 0 j168)))))))) else ((f_Model_nextOf a (M 0 0 0 16) M).bind fun r140 => if r140.1 = (-1) then (some (1, r140.2)) else ((ix (((24 * a) + (4 * r140.1)) + (M 0 0 0 16)) 144).bind fun j168 => if (r140.2 5 0 0 j168) = 0 then (if 0 < (r140.2 0 0 0 17) then (some (4, r140.2)) else (if (r140.2 0 0 0 18) ≤ 0 then (if ((mset r140.2 0 0 0 17 (r140.2 5 0 0 j168)) 0 0 0 19) = 1 then (some (2, (mset r140.2 0 0 0 17 (r140.2 5 0 0 j168)))) else (some ((8 + r140.1), (mset r140.2 0 0 0 17 (r140.2 5 0 0 j168))))) else (some (4, r140.2)))) else (if ((mset r140.2 0 0 0 17 (r140.2 5 0 0 j168)) 0 0 0 19) = 1 then (some (2, (mset r140.2 0 0 0 17 (r140.2 5 0 0 j168)))) else (some ((8 + r140.1), (mset r140.2 0 0 0 17 (r140.2 5 0 0 j168)))))))) else (if b = 0 then ((f_Model_looked a M).bind fun r114 => some (r114, M)) else ((ix (M 0 0 0 16) 4).bind fun j107 => if (M 2 0 0 j107) = a then ((f_Model_looked a M).bind fun r114 => some (r114, M)) else (if (M 0 0 0 17) = 0 then ((ix (M 0 0 0 16) 4).bind fun j130 => if (M 2 0 0 j130) = a then (some (0, M)) else ((f_Model_nextOf a (M 0 0 0 16) M).bind fun r140 => if r140.1 = (-1) then (some (1, r140.2)) else ((ix (((24 * a) + (4 * r140.1)) + (M 0 0 0 16)) 144).bind fun j168 => if (r140.2 5 0 0 j168) = 0 then (if 0 < (r140.2 0 0 0 17) then (some (4, r140.2)) else (if (r140.2 0 0 0 18) ≤ 0 then (if ((mset r140.2 0 0 0 17 (r140.2 5 0 0 j168)) 0 0 0 19) = 1 then (some (2, (mset r140.2 0 0 0 17 (r140.2 5 0 0 j168)))) else (some ((8 + r140.1), (mset r140.2 0 0 0 17 (r140.2 5 0 0 j168))))) else (some (4, r140.2)))) else (if ((mset r140.2 0 0 0 17 (r140.2 5 0 0 j168)) 0 0 0 19) = 1 then (some (2, (mset r140.2 0 0 0 17 (r140.2 5 0 0 j168)))) else (some ((8 + r140.1), (mset r140.2 0 0 0 17 (r140.2 5 0 0 j168)))))))) else ((f_Model_nextOf a (M 0 0 0 16) M).bind fun r140 => if r140.1 = (-1) then (some (1, r140.2)) else ((ix (((24 * a) + (4 * r140.1)) + (M 0 0 0 16)) 144).bind fun j168 => if (r140.2 5 0 0 j168) = 0 then (if 0 < (r140.2 0 0 0 17) then (some (4, r140.2)) else (if (r140.2 0 0 0 18) ≤ 0 then (if ((mset r140.2 0 0 0 17 (r140.2 5 0 0 j168)) 0 0 0 19) = 1 then (some (2, (mset r140.2 0 0 0 17 (r140.2 5 0 0 j168)))) else (some ((8 + r140.1), (mset r140.2 0 0 0 17 (r140.2 5 0 0 j168))))) else (some (4, r140.2)))) else (if ((mset r140.2 0 0 0 17 (r140.2 5 0 0 j168)) 0 0 0 19) = 1 then (some (2, (mset r140.2 0 0 0 17 (r140.2 5 0 0 j168)))) else (some ((8 + r140.1), (mset r140.2 0 0 0 17 (r140.2 5 0 0 j168))))))))))) else (if (M 0 0 0 17) = 0 then ((ix (M 0 0 0 16) 4).bind fun j130 => if (M 2 0 0 j130) = a then (some (0, M)) else ((f_Model_nextOf a (M 0 0 0 16) M).bind fun r140 => if r140.1 = (-1) then (some (1, r140.2)) else ((ix (((24 * a) + (4 * r140.1)) + (M 0 0 0 16)) 144).bind fun j168 => if (r140.2 5 0 0 j168) = 0 then (if 0 < (r140.2 0 0 0 17) then (some (4, r140.2)) else (if (r140.2 0 0 0 18) ≤ 0 then (if ((mset r140.2 0 0 0 17 (r140.2 5 0 0 j168)) 0 0 0 19) = 1 then (some (2, (mset r140.2 0 0 0 17 (r140.2 5 0 0 j168)))) else (some ((8 + r140.1), (mset r140.2 0 0 0 17 (r140.2 5 0 0 j168))))) else (some (4, r140.2)))) else (if ((mset r140.2 0 0 0 17 (r140.2 5 0 0 j168)) 0 0 0 19) = 1 then (some (2, (mset r140.2 0 0 0 17 (r140.2 5 0 0 j168)))) else (some ((8 + r140.1), (mset r140.2 0 0 0 17 (r140.2 5 0 0 j168)))))))) else ((f_Model_nextOf a (M 0 0 0 16) M).bind fun r140 => if r140.1 = (-1) then (some (1, r140.2)) else ((ix (((24 * a) + (4 * r140.1)) + (M 0 0 0 16)) 144).bind fun j168 => if (r140.2 5 0 0 j168) = 0 then (if 0 < (r140.2 0 0 0 17) then (some (4, r140.2)) else (if (r140.2 0 0 0 18) ≤ 0 then (if ((mset r140.2 0 0 0 17 (r140.2 5 0 0 j168)) 0 0 0 19) = 1 then (some (2, (mset r140.2 0 0 0 17 (r140.2 5 0 0 j168)))) else (some ((8 + r140.1), (mset r140.2 0 0 0 17 (r140.2 5 0 0 j168))))) else (some (4, r140.2)))) else (if ((mset r140.2 0 0 0 17 (r140.2 5 0 0 j168)) 0 0 0 19) = 1 then (some (2, (mset r140.2 0 0 0 17 (r140.2 5 0 0 j168)))) else (some ((8 + r140.1), (mset r140.2 0 0 0 17 (r140.2 5 0 0 j168))))))))) else ((f_Model_prefixAt a (M 0 0 0 17) M).bind fun r18 => if r18 = (-1) then (some (3, M)) else ((ix r18 4).bind fun j37 => if (M 2 0 0 j37) = a then (f_Model_at_j47 a b M r18 1) else (f_Model_at_j47 a b M r18 0)))
abbrev rm_Model_at : Room := { frames := 2, cells := 0, slots := 0, locals := 51 }
set_option maxHeartbeats 4000000 in
set_option maxRecDepth 100000 in
theorem c_Model_at {l : Launch} {D : va_G} {ad : Nat → Nat} {G : Nat → ClassId} {a : Int32} {b : Int32}  {M : Mem} {x : Int32 × Mem} (hf : f_Model_at a b M = some x) : Met l y_Model_at (wc y_Model_at b_Model_at 6 (some .int)) rm_Model_at (va_Pc [.ref (ad 0), .int a, .int b] (tB D ad G M)) (wr_Q (some (.int x.1)) D cls 15 ad (tE ad G x.2)) 0 0 (wl_A 15 ad) := by
  refine k_met (by decide) (Nat.le_of_ble_eq_true rfl) ?_
  intro p e s m args below meth c S hr hlk hB ls hl
  obtain ⟨hx, hb, hml, hown, hts⟩ := id S
  obtain ⟨hP, hK, hA0⟩ := hB
  have hA := wl_own hA0
  have hl : lv_has ls 6 [(0, .ref (ad 0)), (1, .int a), (2, .int b)] := hl
  have hS : va_S (wl_A 15 ad) s.heap s.heap [] := va_S.rf
  unfold f_Model_at at hf
  refine lv_aload_n hx hb d_Model_at_0 rfl (lv_at hl 0 rfl) ?_
  refine va_get (D := D) (ci := 5) (v := .int (M 0 0 0 16)) (C := R_Model) (T := F_Model) (N := 24) hx hb hts in_Model hown hK hP 0 (wl_to (by decide) (MO_at)) rfl 16 (by decide) (hts _ fl_Model_144) (fun _ h => h) rfl d_Model_at_1 ?_
  refine lv_istore_n (lv' := [(3, .int (M 0 0 0 16)), (0, .ref (ad 0)), (1, .int a), (2, .int b)]) hx hb d_Model_at_4 rfl hl (by decide) rfl (fun ls hl => ?_)
  refine lv_aload_n hx hb d_Model_at_5 rfl (lv_at hl 1 rfl) ?_
  refine va_get (D := D) (ci := 5) (v := .int (M 0 0 0 17)) (C := R_Model) (T := F_Model) (N := 24) hx hb hts in_Model hown hK hP 0 (wl_to (by decide) (MO_at)) rfl 17 (by decide) (hts _ fl_Model_132) (fun _ h => h) rfl d_Model_at_6 ?_
  refine lv_if_le (tgt := 81) hx hb d_Model_at_9 (by decide) (fun h9 => ?_) (fun h9 => ?_)
  · rw [if_pos h9] at hf
    refine lv_aload_n hx hb d_Model_at_81 rfl (lv_at hl 1 rfl) ?_
    refine va_get (D := D) (ci := 5) (v := .int (M 0 0 0 17)) (C := R_Model) (T := F_Model) (N := 24) hx hb hts in_Model hown hK hP 0 (wl_to (by decide) (MO_at)) rfl 17 (by decide) (hts _ fl_Model_132) (fun _ h => h) rfl d_Model_at_82 ?_
    refine lv_if_ne (tgt := 118) hx hb d_Model_at_85 (by decide) (fun h85 => ?_) (fun h85 => ?_)
    · rw [if_neg h85] at hf
      refine lv_aload_n hx hb d_Model_at_118 rfl (lv_at hl 1 rfl) ?_
      refine va_get (D := D) (ci := 5) (v := .int (M 0 0 0 17)) (C := R_Model) (T := F_Model) (N := 24) hx hb hts in_Model hown hK hP 0 (wl_to (by decide) (MO_at)) rfl 17 (by decide) (hts _ fl_Model_132) (fun _ h => h) rfl d_Model_at_119 ?_
      refine lv_if_ne (tgt := 137) hx hb d_Model_at_122 (by decide) (fun h122 => ?_) (fun h122 => ?_)
      · rw [if_neg h122] at hf
        refine lv_aload_n hx hb d_Model_at_137 rfl (lv_at hl 1 rfl) ?_
        refine lv_iload_n hx hb d_Model_at_138 rfl (lv_at hl 2 rfl) ?_
        refine lv_iload_n hx hb d_Model_at_139 rfl (lv_at hl 0 rfl) ?_
        obtain ⟨r140, hc140, hf⟩ := ob hf
        refine k_wri (k_vir S (c_Model_nextOf (l := l) (D := D) (ad := ad) (G := G) hc140) g_Model_86 hd_Model_nextOf ⟨rfl, rfl⟩ ⟨Nat.le_of_ble_eq_true rfl, Nat.le_of_ble_eq_true rfl⟩ wl_blind (va_recv hK hP rfl (wl_to (by decide) (MO_at))) (wl_pre hP hK hA) rfl hl.1 rfl (Nat.le_of_ble_eq_true rfl) d_Model_at_140 (Nat.zero_le _) (Nat.zero_le _)) hS (fun _ h => h) (fun H locs hP _ _ hS => ?_)
        refine lv_istore (lv' := [(4, .int r140.1), (3, .int (M 0 0 0 16)), (0, .ref (ad 0)), (1, .int a), (2, .int b)]) hx hb d_Model_at_143 hl (by decide) rfl (fun ls hl => ?_)
        refine lv_iload hx hb d_Model_at_145 (lv_at hl 0 rfl) ?_
        refine lv_iconst (v := (-1)) hx hb d_Model_at_147 (by decide) ?_
        refine lv_icmp_ne (tgt := 153) hx hb d_Model_at_148 (by decide) (fun h148 => ?_) (fun h148 => ?_)
        · rw [if_neg h148] at hf
          refine lv_aload_n hx hb d_Model_at_153 rfl (lv_at hl 2 rfl) ?_
          refine va_get (D := D) (ci := 5) (v := .ref (ad 5)) (C := R_Model) (T := F_Model) (N := 24) hx hb hts in_Model hown hK hP 0 (wl_to (by decide) (MO_at)) rfl 6 (by decide) (hts _ fl_Model_22) (fun _ h => h) rfl d_Model_at_154 ?_
          refine lv_bipush (v := 24) hx hb d_Model_at_157 (by decide) ?_
          refine lv_iload_n hx hb d_Model_at_159 rfl (lv_at hl 3 rfl) ?_
          refine lv_imul hx hb d_Model_at_160 ?_
          refine lv_iconst (v := 4) hx hb d_Model_at_161 (by decide) ?_
          refine lv_iload hx hb d_Model_at_162 (lv_at hl 0 rfl) ?_
          refine lv_imul hx hb d_Model_at_164 ?_
          refine lv_iadd hx hb d_Model_at_165 ?_
          refine lv_iload_n hx hb d_Model_at_166 rfl (lv_at hl 1 rfl) ?_
          refine lv_iadd hx hb d_Model_at_167 ?_
          obtain ⟨j168, hj168, hf⟩ := ob hf
          refine k_iald hx hb hK hP 5 0 (by decide) (TLD_at) rfl hj168 d_Model_at_168 ?_
          refine lv_istore (lv' := [(5, .int (r140.2 5 0 0 j168)), (4, .int r140.1), (3, .int (M 0 0 0 16)), (0, .ref (ad 0)), (1, .int a), (2, .int b)]) hx hb d_Model_at_169 hl (by decide) rfl (fun ls hl => ?_)
          refine lv_iload hx hb d_Model_at_171 (lv_at hl 0 rfl) ?_
          refine lv_if_ne (tgt := 192) hx hb d_Model_at_173 (by decide) (fun h173 => ?_) (fun h173 => ?_)
          · rw [if_neg h173] at hf
            refine lv_aload_n hx hb d_Model_at_192 rfl (lv_at hl 3 rfl) ?_
            refine lv_iload hx hb d_Model_at_193 (lv_at hl 0 rfl) ?_
            refine m_put (t := 0) (a := 0) (b := 0) (x := (r140.2 5 0 0 j168)) (ci := 5) (C := R_Model) (T := F_Model) (N := 24) hx hb hts in_Model t_Model ty_Model nm_Model hown hK hP hA hS tJ 0 (by decide) (Model_fs ad) (fun _ => rfl) ⟨rfl, rfl, rfl⟩ rfl 17 (by decide) (hts _ fl_Model_132) rfl (by decide +kernel) (fun _ => ⟨Nat.le_of_ble_eq_true rfl, rfl⟩) d_Model_at_195 (fun H locs hP hS => ?_)
            refine lv_aload_n hx hb d_Model_at_198 rfl (lv_at hl 3 rfl) ?_
            refine va_get (D := D) (ci := 5) (v := .int ((mset r140.2 0 0 0 17 (r140.2 5 0 0 j168)) 0 0 0 19)) (C := R_Model) (T := F_Model) (N := 24) hx hb hts in_Model hown hK hP 0 (wl_to (by decide) (MO_at)) rfl 19 (by decide) (hts _ fl_Model_138) (fun _ h => h) rfl d_Model_at_199 ?_
            refine lv_iconst (v := 1) hx hb d_Model_at_202 (by decide) ?_
            refine lv_icmp_ne (tgt := 210) hx hb d_Model_at_203 (by decide) (fun h203 => ?_) (fun h203 => ?_)
            · rw [if_neg h203] at hf
              refine lv_bipush (v := 8) hx hb d_Model_at_210 (by decide) ?_
              refine lv_iload hx hb d_Model_at_212 (lv_at hl 1 rfl) ?_
              refine lv_iadd hx hb d_Model_at_214 ?_
              cases hf
              exact w_iret hx hb hr hlk hP hS d_Model_at_215
            · rw [if_pos h203] at hf
              refine lv_iconst (v := 2) hx hb d_Model_at_206 (by decide) ?_
              refine lv_goto (tgt := 215) hx hb d_Model_at_207 (by decide) ?_
              cases hf
              exact w_iret hx hb hr hlk hP hS d_Model_at_215
          · rw [if_pos h173] at hf
            refine lv_aload_n hx hb d_Model_at_176 rfl (lv_at hl 3 rfl) ?_
            refine va_get (D := D) (ci := 5) (v := .int (r140.2 0 0 0 17)) (C := R_Model) (T := F_Model) (N := 24) hx hb hts in_Model hown hK hP 0 (wl_to (by decide) (MO_at)) rfl 17 (by decide) (hts _ fl_Model_132) (fun _ h => h) rfl d_Model_at_177 ?_
            refine lv_if_gt (tgt := 190) hx hb d_Model_at_180 (by decide) (fun h180 => ?_) (fun h180 => ?_)
            · rw [if_pos h180] at hf
              refine lv_iconst (v := 4) hx hb d_Model_at_190 (by decide) ?_
              cases hf
              exact w_iret hx hb hr hlk hP hS d_Model_at_191
            · rw [if_neg h180] at hf
              refine lv_aload_n hx hb d_Model_at_183 rfl (lv_at hl 3 rfl) ?_
              refine va_get (D := D) (ci := 5) (v := .int (r140.2 0 0 0 18)) (C := R_Model) (T := F_Model) (N := 24) hx hb hts in_Model hown hK hP 0 (wl_to (by decide) (MO_at)) rfl 18 (by decide) (hts _ fl_Model_135) (fun _ h => h) rfl d_Model_at_184 ?_
              refine lv_if_le (tgt := 192) hx hb d_Model_at_187 (by decide) (fun h187 => ?_) (fun h187 => ?_)
              · rw [if_pos h187] at hf
                refine lv_aload_n hx hb d_Model_at_192 rfl (lv_at hl 3 rfl) ?_
                refine lv_iload hx hb d_Model_at_193 (lv_at hl 0 rfl) ?_
                refine m_put (t := 0) (a := 0) (b := 0) (x := (r140.2 5 0 0 j168)) (ci := 5) (C := R_Model) (T := F_Model) (N := 24) hx hb hts in_Model t_Model ty_Model nm_Model hown hK hP hA hS tJ 0 (by decide) (Model_fs ad) (fun _ => rfl) ⟨rfl, rfl, rfl⟩ rfl 17 (by decide) (hts _ fl_Model_132) rfl (by decide +kernel) (fun _ => ⟨Nat.le_of_ble_eq_true rfl, rfl⟩) d_Model_at_195 (fun H locs hP hS => ?_)
                refine lv_aload_n hx hb d_Model_at_198 rfl (lv_at hl 3 rfl) ?_
                refine va_get (D := D) (ci := 5) (v := .int ((mset r140.2 0 0 0 17 (r140.2 5 0 0 j168)) 0 0 0 19)) (C := R_Model) (T := F_Model) (N := 24) hx hb hts in_Model hown hK hP 0 (wl_to (by decide) (MO_at)) rfl 19 (by decide) (hts _ fl_Model_138) (fun _ h => h) rfl d_Model_at_199 ?_
                refine lv_iconst (v := 1) hx hb d_Model_at_202 (by decide) ?_
                refine lv_icmp_ne (tgt := 210) hx hb d_Model_at_203 (by decide) (fun h203 => ?_) (fun h203 => ?_)
                · rw [if_neg h203] at hf
                  refine lv_bipush (v := 8) hx hb d_Model_at_210 (by decide) ?_
                  refine lv_iload hx hb d_Model_at_212 (lv_at hl 1 rfl) ?_
                  refine lv_iadd hx hb d_Model_at_214 ?_
                  cases hf
                  exact w_iret hx hb hr hlk hP hS d_Model_at_215
                · rw [if_pos h203] at hf
                  refine lv_iconst (v := 2) hx hb d_Model_at_206 (by decide) ?_
                  refine lv_goto (tgt := 215) hx hb d_Model_at_207 (by decide) ?_
                  cases hf
                  exact w_iret hx hb hr hlk hP hS d_Model_at_215
              · rw [if_neg h187] at hf
                refine lv_iconst (v := 4) hx hb d_Model_at_190 (by decide) ?_
                cases hf
                exact w_iret hx hb hr hlk hP hS d_Model_at_191
        · rw [if_pos h148] at hf
          refine lv_iconst (v := 1) hx hb d_Model_at_151 (by decide) ?_
          cases hf
          exact w_iret hx hb hr hlk hP hS d_Model_at_152
      · rw [if_pos h122] at hf
        refine lv_aload_n hx hb d_Model_at_125 rfl (lv_at hl 1 rfl) ?_
        refine va_get (D := D) (ci := 5) (v := .ref (ad 2)) (C := R_Model) (T := F_Model) (N := 24) hx hb hts in_Model hown hK hP 0 (wl_to (by decide) (MO_at)) rfl 3 (by decide) (hts _ fl_Model_13) (fun _ h => h) rfl d_Model_at_126 ?_
        refine lv_iload_n hx hb d_Model_at_129 rfl (lv_at hl 0 rfl) ?_
        obtain ⟨j130, hj130, hf⟩ := ob hf
        refine k_iald hx hb hK hP 2 0 (by decide) (OWN_at) rfl hj130 d_Model_at_130 ?_
        refine lv_iload_n hx hb d_Model_at_131 rfl (lv_at hl 2 rfl) ?_
        refine lv_icmp_ne (tgt := 137) hx hb d_Model_at_132 (by decide) (fun h132 => ?_) (fun h132 => ?_)
        · rw [if_neg h132] at hf
          refine lv_aload_n hx hb d_Model_at_137 rfl (lv_at hl 1 rfl) ?_
          refine lv_iload_n hx hb d_Model_at_138 rfl (lv_at hl 2 rfl) ?_
          refine lv_iload_n hx hb d_Model_at_139 rfl (lv_at hl 0 rfl) ?_
          obtain ⟨r140, hc140, hf⟩ := ob hf
          refine k_wri (k_vir S (c_Model_nextOf (l := l) (D := D) (ad := ad) (G := G) hc140) g_Model_86 hd_Model_nextOf ⟨rfl, rfl⟩ ⟨Nat.le_of_ble_eq_true rfl, Nat.le_of_ble_eq_true rfl⟩ wl_blind (va_recv hK hP rfl (wl_to (by decide) (MO_at))) (wl_pre hP hK hA) rfl hl.1 rfl (Nat.le_of_ble_eq_true rfl) d_Model_at_140 (Nat.zero_le _) (Nat.zero_le _)) hS (fun _ h => h) (fun H locs hP _ _ hS => ?_)
          refine lv_istore (lv' := [(4, .int r140.1), (3, .int (M 0 0 0 16)), (0, .ref (ad 0)), (1, .int a), (2, .int b)]) hx hb d_Model_at_143 hl (by decide) rfl (fun ls hl => ?_)
          refine lv_iload hx hb d_Model_at_145 (lv_at hl 0 rfl) ?_
          refine lv_iconst (v := (-1)) hx hb d_Model_at_147 (by decide) ?_
          refine lv_icmp_ne (tgt := 153) hx hb d_Model_at_148 (by decide) (fun h148 => ?_) (fun h148 => ?_)
          · rw [if_neg h148] at hf
            refine lv_aload_n hx hb d_Model_at_153 rfl (lv_at hl 2 rfl) ?_
            refine va_get (D := D) (ci := 5) (v := .ref (ad 5)) (C := R_Model) (T := F_Model) (N := 24) hx hb hts in_Model hown hK hP 0 (wl_to (by decide) (MO_at)) rfl 6 (by decide) (hts _ fl_Model_22) (fun _ h => h) rfl d_Model_at_154 ?_
            refine lv_bipush (v := 24) hx hb d_Model_at_157 (by decide) ?_
            refine lv_iload_n hx hb d_Model_at_159 rfl (lv_at hl 3 rfl) ?_
            refine lv_imul hx hb d_Model_at_160 ?_
            refine lv_iconst (v := 4) hx hb d_Model_at_161 (by decide) ?_
            refine lv_iload hx hb d_Model_at_162 (lv_at hl 0 rfl) ?_
            refine lv_imul hx hb d_Model_at_164 ?_
            refine lv_iadd hx hb d_Model_at_165 ?_
            refine lv_iload_n hx hb d_Model_at_166 rfl (lv_at hl 1 rfl) ?_
            refine lv_iadd hx hb d_Model_at_167 ?_
            obtain ⟨j168, hj168, hf⟩ := ob hf
            refine k_iald hx hb hK hP 5 0 (by decide) (TLD_at) rfl hj168 d_Model_at_168 ?_
            refine lv_istore (lv' := [(5, .int (r140.2 5 0 0 j168)), (4, .int r140.1), (3, .int (M 0 0 0 16)), (0, .ref (ad 0)), (1, .int a), (2, .int b)]) hx hb d_Model_at_169 hl (by decide) rfl (fun ls hl => ?_)
            refine lv_iload hx hb d_Model_at_171 (lv_at hl 0 rfl) ?_
            refine lv_if_ne (tgt := 192) hx hb d_Model_at_173 (by decide) (fun h173 => ?_) (fun h173 => ?_)
            · rw [if_neg h173] at hf
              refine lv_aload_n hx hb d_Model_at_192 rfl (lv_at hl 3 rfl) ?_
              refine lv_iload hx hb d_Model_at_193 (lv_at hl 0 rfl) ?_
              refine m_put (t := 0) (a := 0) (b := 0) (x := (r140.2 5 0 0 j168)) (ci := 5) (C := R_Model) (T := F_Model) (N := 24) hx hb hts in_Model t_Model ty_Model nm_Model hown hK hP hA hS tJ 0 (by decide) (Model_fs ad) (fun _ => rfl) ⟨rfl, rfl, rfl⟩ rfl 17 (by decide) (hts _ fl_Model_132) rfl (by decide +kernel) (fun _ => ⟨Nat.le_of_ble_eq_true rfl, rfl⟩) d_Model_at_195 (fun H locs hP hS => ?_)
              refine lv_aload_n hx hb d_Model_at_198 rfl (lv_at hl 3 rfl) ?_
              refine va_get (D := D) (ci := 5) (v := .int ((mset r140.2 0 0 0 17 (r140.2 5 0 0 j168)) 0 0 0 19)) (C := R_Model) (T := F_Model) (N := 24) hx hb hts in_Model hown hK hP 0 (wl_to (by decide) (MO_at)) rfl 19 (by decide) (hts _ fl_Model_138) (fun _ h => h) rfl d_Model_at_199 ?_
              refine lv_iconst (v := 1) hx hb d_Model_at_202 (by decide) ?_
              refine lv_icmp_ne (tgt := 210) hx hb d_Model_at_203 (by decide) (fun h203 => ?_) (fun h203 => ?_)
              · rw [if_neg h203] at hf
                refine lv_bipush (v := 8) hx hb d_Model_at_210 (by decide) ?_
                refine lv_iload hx hb d_Model_at_212 (lv_at hl 1 rfl) ?_
                refine lv_iadd hx hb d_Model_at_214 ?_
                cases hf
                exact w_iret hx hb hr hlk hP hS d_Model_at_215
              · rw [if_pos h203] at hf
                refine lv_iconst (v := 2) hx hb d_Model_at_206 (by decide) ?_
                refine lv_goto (tgt := 215) hx hb d_Model_at_207 (by decide) ?_
                cases hf
                exact w_iret hx hb hr hlk hP hS d_Model_at_215
            · rw [if_pos h173] at hf
              refine lv_aload_n hx hb d_Model_at_176 rfl (lv_at hl 3 rfl) ?_
              refine va_get (D := D) (ci := 5) (v := .int (r140.2 0 0 0 17)) (C := R_Model) (T := F_Model) (N := 24) hx hb hts in_Model hown hK hP 0 (wl_to (by decide) (MO_at)) rfl 17 (by decide) (hts _ fl_Model_132) (fun _ h => h) rfl d_Model_at_177 ?_
              refine lv_if_gt (tgt := 190) hx hb d_Model_at_180 (by decide) (fun h180 => ?_) (fun h180 => ?_)
              · rw [if_pos h180] at hf
                refine lv_iconst (v := 4) hx hb d_Model_at_190 (by decide) ?_
                cases hf
                exact w_iret hx hb hr hlk hP hS d_Model_at_191
              · rw [if_neg h180] at hf
                refine lv_aload_n hx hb d_Model_at_183 rfl (lv_at hl 3 rfl) ?_
                refine va_get (D := D) (ci := 5) (v := .int (r140.2 0 0 0 18)) (C := R_Model) (T := F_Model) (N := 24) hx hb hts in_Model hown hK hP 0 (wl_to (by decide) (MO_at)) rfl 18 (by decide) (hts _ fl_Model_135) (fun _ h => h) rfl d_Model_at_184 ?_
                refine lv_if_le (tgt := 192) hx hb d_Model_at_187 (by decide) (fun h187 => ?_) (fun h187 => ?_)
                · rw [if_pos h187] at hf
                  refine lv_aload_n hx hb d_Model_at_192 rfl (lv_at hl 3 rfl) ?_
                  refine lv_iload hx hb d_Model_at_193 (lv_at hl 0 rfl) ?_
                  refine m_put (t := 0) (a := 0) (b := 0) (x := (r140.2 5 0 0 j168)) (ci := 5) (C := R_Model) (T := F_Model) (N := 24) hx hb hts in_Model t_Model ty_Model nm_Model hown hK hP hA hS tJ 0 (by decide) (Model_fs ad) (fun _ => rfl) ⟨rfl, rfl, rfl⟩ rfl 17 (by decide) (hts _ fl_Model_132) rfl (by decide +kernel) (fun _ => ⟨Nat.le_of_ble_eq_true rfl, rfl⟩) d_Model_at_195 (fun H locs hP hS => ?_)
                  refine lv_aload_n hx hb d_Model_at_198 rfl (lv_at hl 3 rfl) ?_
                  refine va_get (D := D) (ci := 5) (v := .int ((mset r140.2 0 0 0 17 (r140.2 5 0 0 j168)) 0 0 0 19)) (C := R_Model) (T := F_Model) (N := 24) hx hb hts in_Model hown hK hP 0 (wl_to (by decide) (MO_at)) rfl 19 (by decide) (hts _ fl_Model_138) (fun _ h => h) rfl d_Model_at_199 ?_
                  refine lv_iconst (v := 1) hx hb d_Model_at_202 (by decide) ?_
                  refine lv_icmp_ne (tgt := 210) hx hb d_Model_at_203 (by decide) (fun h203 => ?_) (fun h203 => ?_)
                  · rw [if_neg h203] at hf
                    refine lv_bipush (v := 8) hx hb d_Model_at_210 (by decide) ?_
                    refine lv_iload hx hb d_Model_at_212 (lv_at hl 1 rfl) ?_
                    refine lv_iadd hx hb d_Model_at_214 ?_
                    cases hf
                    exact w_iret hx hb hr hlk hP hS d_Model_at_215
                  · rw [if_pos h203] at hf
                    refine lv_iconst (v := 2) hx hb d_Model_at_206 (by decide) ?_
                    refine lv_goto (tgt := 215) hx hb d_Model_at_207 (by decide) ?_
                    cases hf
                    exact w_iret hx hb hr hlk hP hS d_Model_at_215
                · rw [if_neg h187] at hf
                  refine lv_iconst (v := 4) hx hb d_Model_at_190 (by decide) ?_
                  cases hf
                  exact w_iret hx hb hr hlk hP hS d_Model_at_191
          · rw [if_pos h148] at hf
            refine lv_iconst (v := 1) hx hb d_Model_at_151 (by decide) ?_
            cases hf
            exact w_iret hx hb hr hlk hP hS d_Model_at_152
        · rw [if_pos h132] at hf
          refine lv_iconst (v := 0) hx hb d_Model_at_135 (by decide) ?_
          cases hf
          exact w_iret hx hb hr hlk hP hS d_Model_at_136
    · rw [if_pos h85] at hf
      refine lv_aload_n hx hb d_Model_at_88 rfl (lv_at hl 1 rfl) ?_
      refine va_get (D := D) (ci := 5) (v := .int (M 0 0 0 18)) (C := R_Model) (T := F_Model) (N := 24) hx hb hts in_Model hown hK hP 0 (wl_to (by decide) (MO_at)) rfl 18 (by decide) (hts _ fl_Model_135) (fun _ h => h) rfl d_Model_at_89 ?_
      refine lv_if_le (tgt := 118) hx hb d_Model_at_92 (by decide) (fun h92 => ?_) (fun h92 => ?_)
      · rw [if_pos h92] at hf
        refine lv_aload_n hx hb d_Model_at_118 rfl (lv_at hl 1 rfl) ?_
        refine va_get (D := D) (ci := 5) (v := .int (M 0 0 0 17)) (C := R_Model) (T := F_Model) (N := 24) hx hb hts in_Model hown hK hP 0 (wl_to (by decide) (MO_at)) rfl 17 (by decide) (hts _ fl_Model_132) (fun _ h => h) rfl d_Model_at_119 ?_
        refine lv_if_ne (tgt := 137) hx hb d_Model_at_122 (by decide) (fun h122 => ?_) (fun h122 => ?_)
        · rw [if_neg h122] at hf
          refine lv_aload_n hx hb d_Model_at_137 rfl (lv_at hl 1 rfl) ?_
          refine lv_iload_n hx hb d_Model_at_138 rfl (lv_at hl 2 rfl) ?_
          refine lv_iload_n hx hb d_Model_at_139 rfl (lv_at hl 0 rfl) ?_
          obtain ⟨r140, hc140, hf⟩ := ob hf
          refine k_wri (k_vir S (c_Model_nextOf (l := l) (D := D) (ad := ad) (G := G) hc140) g_Model_86 hd_Model_nextOf ⟨rfl, rfl⟩ ⟨Nat.le_of_ble_eq_true rfl, Nat.le_of_ble_eq_true rfl⟩ wl_blind (va_recv hK hP rfl (wl_to (by decide) (MO_at))) (wl_pre hP hK hA) rfl hl.1 rfl (Nat.le_of_ble_eq_true rfl) d_Model_at_140 (Nat.zero_le _) (Nat.zero_le _)) hS (fun _ h => h) (fun H locs hP _ _ hS => ?_)
          refine lv_istore (lv' := [(4, .int r140.1), (3, .int (M 0 0 0 16)), (0, .ref (ad 0)), (1, .int a), (2, .int b)]) hx hb d_Model_at_143 hl (by decide) rfl (fun ls hl => ?_)
          refine lv_iload hx hb d_Model_at_145 (lv_at hl 0 rfl) ?_
          refine lv_iconst (v := (-1)) hx hb d_Model_at_147 (by decide) ?_
          refine lv_icmp_ne (tgt := 153) hx hb d_Model_at_148 (by decide) (fun h148 => ?_) (fun h148 => ?_)
          · rw [if_neg h148] at hf
            refine lv_aload_n hx hb d_Model_at_153 rfl (lv_at hl 2 rfl) ?_
            refine va_get (D := D) (ci := 5) (v := .ref (ad 5)) (C := R_Model) (T := F_Model) (N := 24) hx hb hts in_Model hown hK hP 0 (wl_to (by decide) (MO_at)) rfl 6 (by decide) (hts _ fl_Model_22) (fun _ h => h) rfl d_Model_at_154 ?_
            refine lv_bipush (v := 24) hx hb d_Model_at_157 (by decide) ?_
            refine lv_iload_n hx hb d_Model_at_159 rfl (lv_at hl 3 rfl) ?_
            refine lv_imul hx hb d_Model_at_160 ?_
            refine lv_iconst (v := 4) hx hb d_Model_at_161 (by decide) ?_
            refine lv_iload hx hb d_Model_at_162 (lv_at hl 0 rfl) ?_
            refine lv_imul hx hb d_Model_at_164 ?_
            refine lv_iadd hx hb d_Model_at_165 ?_
            refine lv_iload_n hx hb d_Model_at_166 rfl (lv_at hl 1 rfl) ?_
            refine lv_iadd hx hb d_Model_at_167 ?_
            obtain ⟨j168, hj168, hf⟩ := ob hf
            refine k_iald hx hb hK hP 5 0 (by decide) (TLD_at) rfl hj168 d_Model_at_168 ?_
            refine lv_istore (lv' := [(5, .int (r140.2 5 0 0 j168)), (4, .int r140.1), (3, .int (M 0 0 0 16)), (0, .ref (ad 0)), (1, .int a), (2, .int b)]) hx hb d_Model_at_169 hl (by decide) rfl (fun ls hl => ?_)
            refine lv_iload hx hb d_Model_at_171 (lv_at hl 0 rfl) ?_
            refine lv_if_ne (tgt := 192) hx hb d_Model_at_173 (by decide) (fun h173 => ?_) (fun h173 => ?_)
            · rw [if_neg h173] at hf
              refine lv_aload_n hx hb d_Model_at_192 rfl (lv_at hl 3 rfl) ?_
              refine lv_iload hx hb d_Model_at_193 (lv_at hl 0 rfl) ?_
              refine m_put (t := 0) (a := 0) (b := 0) (x := (r140.2 5 0 0 j168)) (ci := 5) (C := R_Model) (T := F_Model) (N := 24) hx hb hts in_Model t_Model ty_Model nm_Model hown hK hP hA hS tJ 0 (by decide) (Model_fs ad) (fun _ => rfl) ⟨rfl, rfl, rfl⟩ rfl 17 (by decide) (hts _ fl_Model_132) rfl (by decide +kernel) (fun _ => ⟨Nat.le_of_ble_eq_true rfl, rfl⟩) d_Model_at_195 (fun H locs hP hS => ?_)
              refine lv_aload_n hx hb d_Model_at_198 rfl (lv_at hl 3 rfl) ?_
              refine va_get (D := D) (ci := 5) (v := .int ((mset r140.2 0 0 0 17 (r140.2 5 0 0 j168)) 0 0 0 19)) (C := R_Model) (T := F_Model) (N := 24) hx hb hts in_Model hown hK hP 0 (wl_to (by decide) (MO_at)) rfl 19 (by decide) (hts _ fl_Model_138) (fun _ h => h) rfl d_Model_at_199 ?_
              refine lv_iconst (v := 1) hx hb d_Model_at_202 (by decide) ?_
              refine lv_icmp_ne (tgt := 210) hx hb d_Model_at_203 (by decide) (fun h203 => ?_) (fun h203 => ?_)
              · rw [if_neg h203] at hf
                refine lv_bipush (v := 8) hx hb d_Model_at_210 (by decide) ?_
                refine lv_iload hx hb d_Model_at_212 (lv_at hl 1 rfl) ?_
                refine lv_iadd hx hb d_Model_at_214 ?_
                cases hf
                exact w_iret hx hb hr hlk hP hS d_Model_at_215
              · rw [if_pos h203] at hf
                refine lv_iconst (v := 2) hx hb d_Model_at_206 (by decide) ?_
                refine lv_goto (tgt := 215) hx hb d_Model_at_207 (by decide) ?_
                cases hf
                exact w_iret hx hb hr hlk hP hS d_Model_at_215
            · rw [if_pos h173] at hf
              refine lv_aload_n hx hb d_Model_at_176 rfl (lv_at hl 3 rfl) ?_
              refine va_get (D := D) (ci := 5) (v := .int (r140.2 0 0 0 17)) (C := R_Model) (T := F_Model) (N := 24) hx hb hts in_Model hown hK hP 0 (wl_to (by decide) (MO_at)) rfl 17 (by decide) (hts _ fl_Model_132) (fun _ h => h) rfl d_Model_at_177 ?_
              refine lv_if_gt (tgt := 190) hx hb d_Model_at_180 (by decide) (fun h180 => ?_) (fun h180 => ?_)
              · rw [if_pos h180] at hf
                refine lv_iconst (v := 4) hx hb d_Model_at_190 (by decide) ?_
                cases hf
                exact w_iret hx hb hr hlk hP hS d_Model_at_191
              · rw [if_neg h180] at hf
                refine lv_aload_n hx hb d_Model_at_183 rfl (lv_at hl 3 rfl) ?_
                refine va_get (D := D) (ci := 5) (v := .int (r140.2 0 0 0 18)) (C := R_Model) (T := F_Model) (N := 24) hx hb hts in_Model hown hK hP 0 (wl_to (by decide) (MO_at)) rfl 18 (by decide) (hts _ fl_Model_135) (fun _ h => h) rfl d_Model_at_184 ?_
                refine lv_if_le (tgt := 192) hx hb d_Model_at_187 (by decide) (fun h187 => ?_) (fun h187 => ?_)
                · rw [if_pos h187] at hf
                  refine lv_aload_n hx hb d_Model_at_192 rfl (lv_at hl 3 rfl) ?_
                  refine lv_iload hx hb d_Model_at_193 (lv_at hl 0 rfl) ?_
                  refine m_put (t := 0) (a := 0) (b := 0) (x := (r140.2 5 0 0 j168)) (ci := 5) (C := R_Model) (T := F_Model) (N := 24) hx hb hts in_Model t_Model ty_Model nm_Model hown hK hP hA hS tJ 0 (by decide) (Model_fs ad) (fun _ => rfl) ⟨rfl, rfl, rfl⟩ rfl 17 (by decide) (hts _ fl_Model_132) rfl (by decide +kernel) (fun _ => ⟨Nat.le_of_ble_eq_true rfl, rfl⟩) d_Model_at_195 (fun H locs hP hS => ?_)
                  refine lv_aload_n hx hb d_Model_at_198 rfl (lv_at hl 3 rfl) ?_
                  refine va_get (D := D) (ci := 5) (v := .int ((mset r140.2 0 0 0 17 (r140.2 5 0 0 j168)) 0 0 0 19)) (C := R_Model) (T := F_Model) (N := 24) hx hb hts in_Model hown hK hP 0 (wl_to (by decide) (MO_at)) rfl 19 (by decide) (hts _ fl_Model_138) (fun _ h => h) rfl d_Model_at_199 ?_
                  refine lv_iconst (v := 1) hx hb d_Model_at_202 (by decide) ?_
                  refine lv_icmp_ne (tgt := 210) hx hb d_Model_at_203 (by decide) (fun h203 => ?_) (fun h203 => ?_)
                  · rw [if_neg h203] at hf
                    refine lv_bipush (v := 8) hx hb d_Model_at_210 (by decide) ?_
                    refine lv_iload hx hb d_Model_at_212 (lv_at hl 1 rfl) ?_
                    refine lv_iadd hx hb d_Model_at_214 ?_
                    cases hf
                    exact w_iret hx hb hr hlk hP hS d_Model_at_215
                  · rw [if_pos h203] at hf
                    refine lv_iconst (v := 2) hx hb d_Model_at_206 (by decide) ?_
                    refine lv_goto (tgt := 215) hx hb d_Model_at_207 (by decide) ?_
                    cases hf
                    exact w_iret hx hb hr hlk hP hS d_Model_at_215
                · rw [if_neg h187] at hf
                  refine lv_iconst (v := 4) hx hb d_Model_at_190 (by decide) ?_
                  cases hf
                  exact w_iret hx hb hr hlk hP hS d_Model_at_191
          · rw [if_pos h148] at hf
            refine lv_iconst (v := 1) hx hb d_Model_at_151 (by decide) ?_
            cases hf
            exact w_iret hx hb hr hlk hP hS d_Model_at_152
        · rw [if_pos h122] at hf
          refine lv_aload_n hx hb d_Model_at_125 rfl (lv_at hl 1 rfl) ?_
          refine va_get (D := D) (ci := 5) (v := .ref (ad 2)) (C := R_Model) (T := F_Model) (N := 24) hx hb hts in_Model hown hK hP 0 (wl_to (by decide) (MO_at)) rfl 3 (by decide) (hts _ fl_Model_13) (fun _ h => h) rfl d_Model_at_126 ?_
          refine lv_iload_n hx hb d_Model_at_129 rfl (lv_at hl 0 rfl) ?_
          obtain ⟨j130, hj130, hf⟩ := ob hf
          refine k_iald hx hb hK hP 2 0 (by decide) (OWN_at) rfl hj130 d_Model_at_130 ?_
          refine lv_iload_n hx hb d_Model_at_131 rfl (lv_at hl 2 rfl) ?_
          refine lv_icmp_ne (tgt := 137) hx hb d_Model_at_132 (by decide) (fun h132 => ?_) (fun h132 => ?_)
          · rw [if_neg h132] at hf
            refine lv_aload_n hx hb d_Model_at_137 rfl (lv_at hl 1 rfl) ?_
            refine lv_iload_n hx hb d_Model_at_138 rfl (lv_at hl 2 rfl) ?_
            refine lv_iload_n hx hb d_Model_at_139 rfl (lv_at hl 0 rfl) ?_
            obtain ⟨r140, hc140, hf⟩ := ob hf
            refine k_wri (k_vir S (c_Model_nextOf (l := l) (D := D) (ad := ad) (G := G) hc140) g_Model_86 hd_Model_nextOf ⟨rfl, rfl⟩ ⟨Nat.le_of_ble_eq_true rfl, Nat.le_of_ble_eq_true rfl⟩ wl_blind (va_recv hK hP rfl (wl_to (by decide) (MO_at))) (wl_pre hP hK hA) rfl hl.1 rfl (Nat.le_of_ble_eq_true rfl) d_Model_at_140 (Nat.zero_le _) (Nat.zero_le _)) hS (fun _ h => h) (fun H locs hP _ _ hS => ?_)
            refine lv_istore (lv' := [(4, .int r140.1), (3, .int (M 0 0 0 16)), (0, .ref (ad 0)), (1, .int a), (2, .int b)]) hx hb d_Model_at_143 hl (by decide) rfl (fun ls hl => ?_)
            refine lv_iload hx hb d_Model_at_145 (lv_at hl 0 rfl) ?_
            refine lv_iconst (v := (-1)) hx hb d_Model_at_147 (by decide) ?_
            refine lv_icmp_ne (tgt := 153) hx hb d_Model_at_148 (by decide) (fun h148 => ?_) (fun h148 => ?_)
            · rw [if_neg h148] at hf
              refine lv_aload_n hx hb d_Model_at_153 rfl (lv_at hl 2 rfl) ?_
              refine va_get (D := D) (ci := 5) (v := .ref (ad 5)) (C := R_Model) (T := F_Model) (N := 24) hx hb hts in_Model hown hK hP 0 (wl_to (by decide) (MO_at)) rfl 6 (by decide) (hts _ fl_Model_22) (fun _ h => h) rfl d_Model_at_154 ?_
              refine lv_bipush (v := 24) hx hb d_Model_at_157 (by decide) ?_
              refine lv_iload_n hx hb d_Model_at_159 rfl (lv_at hl 3 rfl) ?_
              refine lv_imul hx hb d_Model_at_160 ?_
              refine lv_iconst (v := 4) hx hb d_Model_at_161 (by decide) ?_
              refine lv_iload hx hb d_Model_at_162 (lv_at hl 0 rfl) ?_
              refine lv_imul hx hb d_Model_at_164 ?_
              refine lv_iadd hx hb d_Model_at_165 ?_
              refine lv_iload_n hx hb d_Model_at_166 rfl (lv_at hl 1 rfl) ?_
              refine lv_iadd hx hb d_Model_at_167 ?_
              obtain ⟨j168, hj168, hf⟩ := ob hf
              refine k_iald hx hb hK hP 5 0 (by decide) (TLD_at) rfl hj168 d_Model_at_168 ?_
              refine lv_istore (lv' := [(5, .int (r140.2 5 0 0 j168)), (4, .int r140.1), (3, .int (M 0 0 0 16)), (0, .ref (ad 0)), (1, .int a), (2, .int b)]) hx hb d_Model_at_169 hl (by decide) rfl (fun ls hl => ?_)
              refine lv_iload hx hb d_Model_at_171 (lv_at hl 0 rfl) ?_
              refine lv_if_ne (tgt := 192) hx hb d_Model_at_173 (by decide) (fun h173 => ?_) (fun h173 => ?_)
              · rw [if_neg h173] at hf
                refine lv_aload_n hx hb d_Model_at_192 rfl (lv_at hl 3 rfl) ?_
                refine lv_iload hx hb d_Model_at_193 (lv_at hl 0 rfl) ?_
                refine m_put (t := 0) (a := 0) (b := 0) (x := (r140.2 5 0 0 j168)) (ci := 5) (C := R_Model) (T := F_Model) (N := 24) hx hb hts in_Model t_Model ty_Model nm_Model hown hK hP hA hS tJ 0 (by decide) (Model_fs ad) (fun _ => rfl) ⟨rfl, rfl, rfl⟩ rfl 17 (by decide) (hts _ fl_Model_132) rfl (by decide +kernel) (fun _ => ⟨Nat.le_of_ble_eq_true rfl, rfl⟩) d_Model_at_195 (fun H locs hP hS => ?_)
                refine lv_aload_n hx hb d_Model_at_198 rfl (lv_at hl 3 rfl) ?_
                refine va_get (D := D) (ci := 5) (v := .int ((mset r140.2 0 0 0 17 (r140.2 5 0 0 j168)) 0 0 0 19)) (C := R_Model) (T := F_Model) (N := 24) hx hb hts in_Model hown hK hP 0 (wl_to (by decide) (MO_at)) rfl 19 (by decide) (hts _ fl_Model_138) (fun _ h => h) rfl d_Model_at_199 ?_
                refine lv_iconst (v := 1) hx hb d_Model_at_202 (by decide) ?_
                refine lv_icmp_ne (tgt := 210) hx hb d_Model_at_203 (by decide) (fun h203 => ?_) (fun h203 => ?_)
                · rw [if_neg h203] at hf
                  refine lv_bipush (v := 8) hx hb d_Model_at_210 (by decide) ?_
                  refine lv_iload hx hb d_Model_at_212 (lv_at hl 1 rfl) ?_
                  refine lv_iadd hx hb d_Model_at_214 ?_
                  cases hf
                  exact w_iret hx hb hr hlk hP hS d_Model_at_215
                · rw [if_pos h203] at hf
                  refine lv_iconst (v := 2) hx hb d_Model_at_206 (by decide) ?_
                  refine lv_goto (tgt := 215) hx hb d_Model_at_207 (by decide) ?_
                  cases hf
                  exact w_iret hx hb hr hlk hP hS d_Model_at_215
              · rw [if_pos h173] at hf
                refine lv_aload_n hx hb d_Model_at_176 rfl (lv_at hl 3 rfl) ?_
                refine va_get (D := D) (ci := 5) (v := .int (r140.2 0 0 0 17)) (C := R_Model) (T := F_Model) (N := 24) hx hb hts in_Model hown hK hP 0 (wl_to (by decide) (MO_at)) rfl 17 (by decide) (hts _ fl_Model_132) (fun _ h => h) rfl d_Model_at_177 ?_
                refine lv_if_gt (tgt := 190) hx hb d_Model_at_180 (by decide) (fun h180 => ?_) (fun h180 => ?_)
                · rw [if_pos h180] at hf
                  refine lv_iconst (v := 4) hx hb d_Model_at_190 (by decide) ?_
                  cases hf
                  exact w_iret hx hb hr hlk hP hS d_Model_at_191
                · rw [if_neg h180] at hf
                  refine lv_aload_n hx hb d_Model_at_183 rfl (lv_at hl 3 rfl) ?_
                  refine va_get (D := D) (ci := 5) (v := .int (r140.2 0 0 0 18)) (C := R_Model) (T := F_Model) (N := 24) hx hb hts in_Model hown hK hP 0 (wl_to (by decide) (MO_at)) rfl 18 (by decide) (hts _ fl_Model_135) (fun _ h => h) rfl d_Model_at_184 ?_
                  refine lv_if_le (tgt := 192) hx hb d_Model_at_187 (by decide) (fun h187 => ?_) (fun h187 => ?_)
                  · rw [if_pos h187] at hf
                    refine lv_aload_n hx hb d_Model_at_192 rfl (lv_at hl 3 rfl) ?_
                    refine lv_iload hx hb d_Model_at_193 (lv_at hl 0 rfl) ?_
                    refine m_put (t := 0) (a := 0) (b := 0) (x := (r140.2 5 0 0 j168)) (ci := 5) (C := R_Model) (T := F_Model) (N := 24) hx hb hts in_Model t_Model ty_Model nm_Model hown hK hP hA hS tJ 0 (by decide) (Model_fs ad) (fun _ => rfl) ⟨rfl, rfl, rfl⟩ rfl 17 (by decide) (hts _ fl_Model_132) rfl (by decide +kernel) (fun _ => ⟨Nat.le_of_ble_eq_true rfl, rfl⟩) d_Model_at_195 (fun H locs hP hS => ?_)
                    refine lv_aload_n hx hb d_Model_at_198 rfl (lv_at hl 3 rfl) ?_
                    refine va_get (D := D) (ci := 5) (v := .int ((mset r140.2 0 0 0 17 (r140.2 5 0 0 j168)) 0 0 0 19)) (C := R_Model) (T := F_Model) (N := 24) hx hb hts in_Model hown hK hP 0 (wl_to (by decide) (MO_at)) rfl 19 (by decide) (hts _ fl_Model_138) (fun _ h => h) rfl d_Model_at_199 ?_
                    refine lv_iconst (v := 1) hx hb d_Model_at_202 (by decide) ?_
                    refine lv_icmp_ne (tgt := 210) hx hb d_Model_at_203 (by decide) (fun h203 => ?_) (fun h203 => ?_)
                    · rw [if_neg h203] at hf
                      refine lv_bipush (v := 8) hx hb d_Model_at_210 (by decide) ?_
                      refine lv_iload hx hb d_Model_at_212 (lv_at hl 1 rfl) ?_
                      refine lv_iadd hx hb d_Model_at_214 ?_
                      cases hf
                      exact w_iret hx hb hr hlk hP hS d_Model_at_215
                    · rw [if_pos h203] at hf
                      refine lv_iconst (v := 2) hx hb d_Model_at_206 (by decide) ?_
                      refine lv_goto (tgt := 215) hx hb d_Model_at_207 (by decide) ?_
                      cases hf
                      exact w_iret hx hb hr hlk hP hS d_Model_at_215
                  · rw [if_neg h187] at hf
                    refine lv_iconst (v := 4) hx hb d_Model_at_190 (by decide) ?_
                    cases hf
                    exact w_iret hx hb hr hlk hP hS d_Model_at_191
            · rw [if_pos h148] at hf
              refine lv_iconst (v := 1) hx hb d_Model_at_151 (by decide) ?_
              cases hf
              exact w_iret hx hb hr hlk hP hS d_Model_at_152
          · rw [if_pos h132] at hf
            refine lv_iconst (v := 0) hx hb d_Model_at_135 (by decide) ?_
            cases hf
            exact w_iret hx hb hr hlk hP hS d_Model_at_136
      · rw [if_neg h92] at hf
        refine lv_iload_n hx hb d_Model_at_95 rfl (lv_at hl 3 rfl) ?_
        refine lv_if_eq (tgt := 112) hx hb d_Model_at_96 (by decide) (fun h96 => ?_) (fun h96 => ?_)
        · rw [if_pos h96] at hf
          refine lv_aload_n hx hb d_Model_at_112 rfl (lv_at hl 1 rfl) ?_
          refine lv_iload_n hx hb d_Model_at_113 rfl (lv_at hl 2 rfl) ?_
          obtain ⟨r114, hc114, hf⟩ := ob hf
          refine k_rdi (k_vir S (c_Model_looked (l := l) (D := D) (ad := ad) (G := G) hc114) g_Model_150 hd_Model_looked ⟨rfl, rfl⟩ ⟨Nat.le_of_ble_eq_true rfl, Nat.le_of_ble_eq_true rfl⟩ wl_blind (va_recv hK hP rfl (wl_to (by decide) (MO_at))) (wl_pre hP hK hA) rfl hl.1 rfl (Nat.le_of_ble_eq_true rfl) d_Model_at_114 (Nat.zero_le _) (Nat.zero_le _)) ?_
          cases hf
          exact w_iret hx hb hr hlk hP hS d_Model_at_117
        · rw [if_neg h96] at hf
          refine lv_aload_n hx hb d_Model_at_99 rfl (lv_at hl 1 rfl) ?_
          refine va_get (D := D) (ci := 5) (v := .ref (ad 2)) (C := R_Model) (T := F_Model) (N := 24) hx hb hts in_Model hown hK hP 0 (wl_to (by decide) (MO_at)) rfl 3 (by decide) (hts _ fl_Model_13) (fun _ h => h) rfl d_Model_at_100 ?_
          refine lv_aload_n hx hb d_Model_at_103 rfl (lv_at hl 1 rfl) ?_
          refine va_get (D := D) (ci := 5) (v := .int (M 0 0 0 16)) (C := R_Model) (T := F_Model) (N := 24) hx hb hts in_Model hown hK hP 0 (wl_to (by decide) (MO_at)) rfl 16 (by decide) (hts _ fl_Model_144) (fun _ h => h) rfl d_Model_at_104 ?_
          obtain ⟨j107, hj107, hf⟩ := ob hf
          refine k_iald hx hb hK hP 2 0 (by decide) (OWN_at) rfl hj107 d_Model_at_107 ?_
          refine lv_iload_n hx hb d_Model_at_108 rfl (lv_at hl 2 rfl) ?_
          refine lv_icmp_ne (tgt := 118) hx hb d_Model_at_109 (by decide) (fun h109 => ?_) (fun h109 => ?_)
          · rw [if_neg h109] at hf
            refine lv_aload_n hx hb d_Model_at_118 rfl (lv_at hl 1 rfl) ?_
            refine va_get (D := D) (ci := 5) (v := .int (M 0 0 0 17)) (C := R_Model) (T := F_Model) (N := 24) hx hb hts in_Model hown hK hP 0 (wl_to (by decide) (MO_at)) rfl 17 (by decide) (hts _ fl_Model_132) (fun _ h => h) rfl d_Model_at_119 ?_
            refine lv_if_ne (tgt := 137) hx hb d_Model_at_122 (by decide) (fun h122 => ?_) (fun h122 => ?_)
            · rw [if_neg h122] at hf
              refine lv_aload_n hx hb d_Model_at_137 rfl (lv_at hl 1 rfl) ?_
              refine lv_iload_n hx hb d_Model_at_138 rfl (lv_at hl 2 rfl) ?_
              refine lv_iload_n hx hb d_Model_at_139 rfl (lv_at hl 0 rfl) ?_
              obtain ⟨r140, hc140, hf⟩ := ob hf
              refine k_wri (k_vir S (c_Model_nextOf (l := l) (D := D) (ad := ad) (G := G) hc140) g_Model_86 hd_Model_nextOf ⟨rfl, rfl⟩ ⟨Nat.le_of_ble_eq_true rfl, Nat.le_of_ble_eq_true rfl⟩ wl_blind (va_recv hK hP rfl (wl_to (by decide) (MO_at))) (wl_pre hP hK hA) rfl hl.1 rfl (Nat.le_of_ble_eq_true rfl) d_Model_at_140 (Nat.zero_le _) (Nat.zero_le _)) hS (fun _ h => h) (fun H locs hP _ _ hS => ?_)
              refine lv_istore (lv' := [(4, .int r140.1), (3, .int (M 0 0 0 16)), (0, .ref (ad 0)), (1, .int a), (2, .int b)]) hx hb d_Model_at_143 hl (by decide) rfl (fun ls hl => ?_)
              refine lv_iload hx hb d_Model_at_145 (lv_at hl 0 rfl) ?_
              refine lv_iconst (v := (-1)) hx hb d_Model_at_147 (by decide) ?_
              refine lv_icmp_ne (tgt := 153) hx hb d_Model_at_148 (by decide) (fun h148 => ?_) (fun h148 => ?_)
              · rw [if_neg h148] at hf
                refine lv_aload_n hx hb d_Model_at_153 rfl (lv_at hl 2 rfl) ?_
                refine va_get (D := D) (ci := 5) (v := .ref (ad 5)) (C := R_Model) (T := F_Model) (N := 24) hx hb hts in_Model hown hK hP 0 (wl_to (by decide) (MO_at)) rfl 6 (by decide) (hts _ fl_Model_22) (fun _ h => h) rfl d_Model_at_154 ?_
                refine lv_bipush (v := 24) hx hb d_Model_at_157 (by decide) ?_
                refine lv_iload_n hx hb d_Model_at_159 rfl (lv_at hl 3 rfl) ?_
                refine lv_imul hx hb d_Model_at_160 ?_
                refine lv_iconst (v := 4) hx hb d_Model_at_161 (by decide) ?_
                refine lv_iload hx hb d_Model_at_162 (lv_at hl 0 rfl) ?_
                refine lv_imul hx hb d_Model_at_164 ?_
                refine lv_iadd hx hb d_Model_at_165 ?_
                refine lv_iload_n hx hb d_Model_at_166 rfl (lv_at hl 1 rfl) ?_
                refine lv_iadd hx hb d_Model_at_167 ?_
                obtain ⟨j168, hj168, hf⟩ := ob hf
                refine k_iald hx hb hK hP 5 0 (by decide) (TLD_at) rfl hj168 d_Model_at_168 ?_
                refine lv_istore (lv' := [(5, .int (r140.2 5 0 0 j168)), (4, .int r140.1), (3, .int (M 0 0 0 16)), (0, .ref (ad 0)), (1, .int a), (2, .int b)]) hx hb d_Model_at_169 hl (by decide) rfl (fun ls hl => ?_)
                refine lv_iload hx hb d_Model_at_171 (lv_at hl 0 rfl) ?_
                refine lv_if_ne (tgt := 192) hx hb d_Model_at_173 (by decide) (fun h173 => ?_) (fun h173 => ?_)
                · rw [if_neg h173] at hf
                  refine lv_aload_n hx hb d_Model_at_192 rfl (lv_at hl 3 rfl) ?_
                  refine lv_iload hx hb d_Model_at_193 (lv_at hl 0 rfl) ?_
                  refine m_put (t := 0) (a := 0) (b := 0) (x := (r140.2 5 0 0 j168)) (ci := 5) (C := R_Model) (T := F_Model) (N := 24) hx hb hts in_Model t_Model ty_Model nm_Model hown hK hP hA hS tJ 0 (by decide) (Model_fs ad) (fun _ => rfl) ⟨rfl, rfl, rfl⟩ rfl 17 (by decide) (hts _ fl_Model_132) rfl (by decide +kernel) (fun _ => ⟨Nat.le_of_ble_eq_true rfl, rfl⟩) d_Model_at_195 (fun H locs hP hS => ?_)
                  refine lv_aload_n hx hb d_Model_at_198 rfl (lv_at hl 3 rfl) ?_
                  refine va_get (D := D) (ci := 5) (v := .int ((mset r140.2 0 0 0 17 (r140.2 5 0 0 j168)) 0 0 0 19)) (C := R_Model) (T := F_Model) (N := 24) hx hb hts in_Model hown hK hP 0 (wl_to (by decide) (MO_at)) rfl 19 (by decide) (hts _ fl_Model_138) (fun _ h => h) rfl d_Model_at_199 ?_
                  refine lv_iconst (v := 1) hx hb d_Model_at_202 (by decide) ?_
                  refine lv_icmp_ne (tgt := 210) hx hb d_Model_at_203 (by decide) (fun h203 => ?_) (fun h203 => ?_)
                  · rw [if_neg h203] at hf
                    refine lv_bipush (v := 8) hx hb d_Model_at_210 (by decide) ?_
                    refine lv_iload hx hb d_Model_at_212 (lv_at hl 1 rfl) ?_
                    refine lv_iadd hx hb d_Model_at_214 ?_
                    cases hf
                    exact w_iret hx hb hr hlk hP hS d_Model_at_215
                  · rw [if_pos h203] at hf
                    refine lv_iconst (v := 2) hx hb d_Model_at_206 (by decide) ?_
                    refine lv_goto (tgt := 215) hx hb d_Model_at_207 (by decide) ?_
                    cases hf
                    exact w_iret hx hb hr hlk hP hS d_Model_at_215
                · rw [if_pos h173] at hf
                  refine lv_aload_n hx hb d_Model_at_176 rfl (lv_at hl 3 rfl) ?_
                  refine va_get (D := D) (ci := 5) (v := .int (r140.2 0 0 0 17)) (C := R_Model) (T := F_Model) (N := 24) hx hb hts in_Model hown hK hP 0 (wl_to (by decide) (MO_at)) rfl 17 (by decide) (hts _ fl_Model_132) (fun _ h => h) rfl d_Model_at_177 ?_
                  refine lv_if_gt (tgt := 190) hx hb d_Model_at_180 (by decide) (fun h180 => ?_) (fun h180 => ?_)
                  · rw [if_pos h180] at hf
                    refine lv_iconst (v := 4) hx hb d_Model_at_190 (by decide) ?_
                    cases hf
                    exact w_iret hx hb hr hlk hP hS d_Model_at_191
                  · rw [if_neg h180] at hf
                    refine lv_aload_n hx hb d_Model_at_183 rfl (lv_at hl 3 rfl) ?_
                    refine va_get (D := D) (ci := 5) (v := .int (r140.2 0 0 0 18)) (C := R_Model) (T := F_Model) (N := 24) hx hb hts in_Model hown hK hP 0 (wl_to (by decide) (MO_at)) rfl 18 (by decide) (hts _ fl_Model_135) (fun _ h => h) rfl d_Model_at_184 ?_
                    refine lv_if_le (tgt := 192) hx hb d_Model_at_187 (by decide) (fun h187 => ?_) (fun h187 => ?_)
                    · rw [if_pos h187] at hf
                      refine lv_aload_n hx hb d_Model_at_192 rfl (lv_at hl 3 rfl) ?_
                      refine lv_iload hx hb d_Model_at_193 (lv_at hl 0 rfl) ?_
                      refine m_put (t := 0) (a := 0) (b := 0) (x := (r140.2 5 0 0 j168)) (ci := 5) (C := R_Model) (T := F_Model) (N := 24) hx hb hts in_Model t_Model ty_Model nm_Model hown hK hP hA hS tJ 0 (by decide) (Model_fs ad) (fun _ => rfl) ⟨rfl, rfl, rfl⟩ rfl 17 (by decide) (hts _ fl_Model_132) rfl (by decide +kernel) (fun _ => ⟨Nat.le_of_ble_eq_true rfl, rfl⟩) d_Model_at_195 (fun H locs hP hS => ?_)
                      refine lv_aload_n hx hb d_Model_at_198 rfl (lv_at hl 3 rfl) ?_
                      refine va_get (D := D) (ci := 5) (v := .int ((mset r140.2 0 0 0 17 (r140.2 5 0 0 j168)) 0 0 0 19)) (C := R_Model) (T := F_Model) (N := 24) hx hb hts in_Model hown hK hP 0 (wl_to (by decide) (MO_at)) rfl 19 (by decide) (hts _ fl_Model_138) (fun _ h => h) rfl d_Model_at_199 ?_
                      refine lv_iconst (v := 1) hx hb d_Model_at_202 (by decide) ?_
                      refine lv_icmp_ne (tgt := 210) hx hb d_Model_at_203 (by decide) (fun h203 => ?_) (fun h203 => ?_)
                      · rw [if_neg h203] at hf
                        refine lv_bipush (v := 8) hx hb d_Model_at_210 (by decide) ?_
                        refine lv_iload hx hb d_Model_at_212 (lv_at hl 1 rfl) ?_
                        refine lv_iadd hx hb d_Model_at_214 ?_
                        cases hf
                        exact w_iret hx hb hr hlk hP hS d_Model_at_215
                      · rw [if_pos h203] at hf
                        refine lv_iconst (v := 2) hx hb d_Model_at_206 (by decide) ?_
                        refine lv_goto (tgt := 215) hx hb d_Model_at_207 (by decide) ?_
                        cases hf
                        exact w_iret hx hb hr hlk hP hS d_Model_at_215
                    · rw [if_neg h187] at hf
                      refine lv_iconst (v := 4) hx hb d_Model_at_190 (by decide) ?_
                      cases hf
                      exact w_iret hx hb hr hlk hP hS d_Model_at_191
              · rw [if_pos h148] at hf
                refine lv_iconst (v := 1) hx hb d_Model_at_151 (by decide) ?_
                cases hf
                exact w_iret hx hb hr hlk hP hS d_Model_at_152
            · rw [if_pos h122] at hf
              refine lv_aload_n hx hb d_Model_at_125 rfl (lv_at hl 1 rfl) ?_
              refine va_get (D := D) (ci := 5) (v := .ref (ad 2)) (C := R_Model) (T := F_Model) (N := 24) hx hb hts in_Model hown hK hP 0 (wl_to (by decide) (MO_at)) rfl 3 (by decide) (hts _ fl_Model_13) (fun _ h => h) rfl d_Model_at_126 ?_
              refine lv_iload_n hx hb d_Model_at_129 rfl (lv_at hl 0 rfl) ?_
              obtain ⟨j130, hj130, hf⟩ := ob hf
              refine k_iald hx hb hK hP 2 0 (by decide) (OWN_at) rfl hj130 d_Model_at_130 ?_
              refine lv_iload_n hx hb d_Model_at_131 rfl (lv_at hl 2 rfl) ?_
              refine lv_icmp_ne (tgt := 137) hx hb d_Model_at_132 (by decide) (fun h132 => ?_) (fun h132 => ?_)
              · rw [if_neg h132] at hf
                refine lv_aload_n hx hb d_Model_at_137 rfl (lv_at hl 1 rfl) ?_
                refine lv_iload_n hx hb d_Model_at_138 rfl (lv_at hl 2 rfl) ?_
                refine lv_iload_n hx hb d_Model_at_139 rfl (lv_at hl 0 rfl) ?_
                obtain ⟨r140, hc140, hf⟩ := ob hf
                refine k_wri (k_vir S (c_Model_nextOf (l := l) (D := D) (ad := ad) (G := G) hc140) g_Model_86 hd_Model_nextOf ⟨rfl, rfl⟩ ⟨Nat.le_of_ble_eq_true rfl, Nat.le_of_ble_eq_true rfl⟩ wl_blind (va_recv hK hP rfl (wl_to (by decide) (MO_at))) (wl_pre hP hK hA) rfl hl.1 rfl (Nat.le_of_ble_eq_true rfl) d_Model_at_140 (Nat.zero_le _) (Nat.zero_le _)) hS (fun _ h => h) (fun H locs hP _ _ hS => ?_)
                refine lv_istore (lv' := [(4, .int r140.1), (3, .int (M 0 0 0 16)), (0, .ref (ad 0)), (1, .int a), (2, .int b)]) hx hb d_Model_at_143 hl (by decide) rfl (fun ls hl => ?_)
                refine lv_iload hx hb d_Model_at_145 (lv_at hl 0 rfl) ?_
                refine lv_iconst (v := (-1)) hx hb d_Model_at_147 (by decide) ?_
                refine lv_icmp_ne (tgt := 153) hx hb d_Model_at_148 (by decide) (fun h148 => ?_) (fun h148 => ?_)
                · rw [if_neg h148] at hf
                  refine lv_aload_n hx hb d_Model_at_153 rfl (lv_at hl 2 rfl) ?_
                  refine va_get (D := D) (ci := 5) (v := .ref (ad 5)) (C := R_Model) (T := F_Model) (N := 24) hx hb hts in_Model hown hK hP 0 (wl_to (by decide) (MO_at)) rfl 6 (by decide) (hts _ fl_Model_22) (fun _ h => h) rfl d_Model_at_154 ?_
                  refine lv_bipush (v := 24) hx hb d_Model_at_157 (by decide) ?_
                  refine lv_iload_n hx hb d_Model_at_159 rfl (lv_at hl 3 rfl) ?_
                  refine lv_imul hx hb d_Model_at_160 ?_
                  refine lv_iconst (v := 4) hx hb d_Model_at_161 (by decide) ?_
                  refine lv_iload hx hb d_Model_at_162 (lv_at hl 0 rfl) ?_
                  refine lv_imul hx hb d_Model_at_164 ?_
                  refine lv_iadd hx hb d_Model_at_165 ?_
                  refine lv_iload_n hx hb d_Model_at_166 rfl (lv_at hl 1 rfl) ?_
                  refine lv_iadd hx hb d_Model_at_167 ?_
                  obtain ⟨j168, hj168, hf⟩ := ob hf
                  refine k_iald hx hb hK hP 5 0 (by decide) (TLD_at) rfl hj168 d_Model_at_168 ?_
                  refine lv_istore (lv' := [(5, .int (r140.2 5 0 0 j168)), (4, .int r140.1), (3, .int (M 0 0 0 16)), (0, .ref (ad 0)), (1, .int a), (2, .int b)]) hx hb d_Model_at_169 hl (by decide) rfl (fun ls hl => ?_)
                  refine lv_iload hx hb d_Model_at_171 (lv_at hl 0 rfl) ?_
                  refine lv_if_ne (tgt := 192) hx hb d_Model_at_173 (by decide) (fun h173 => ?_) (fun h173 => ?_)
                  · rw [if_neg h173] at hf
                    refine lv_aload_n hx hb d_Model_at_192 rfl (lv_at hl 3 rfl) ?_
                    refine lv_iload hx hb d_Model_at_193 (lv_at hl 0 rfl) ?_
                    refine m_put (t := 0) (a := 0) (b := 0) (x := (r140.2 5 0 0 j168)) (ci := 5) (C := R_Model) (T := F_Model) (N := 24) hx hb hts in_Model t_Model ty_Model nm_Model hown hK hP hA hS tJ 0 (by decide) (Model_fs ad) (fun _ => rfl) ⟨rfl, rfl, rfl⟩ rfl 17 (by decide) (hts _ fl_Model_132) rfl (by decide +kernel) (fun _ => ⟨Nat.le_of_ble_eq_true rfl, rfl⟩) d_Model_at_195 (fun H locs hP hS => ?_)
                    refine lv_aload_n hx hb d_Model_at_198 rfl (lv_at hl 3 rfl) ?_
                    refine va_get (D := D) (ci := 5) (v := .int ((mset r140.2 0 0 0 17 (r140.2 5 0 0 j168)) 0 0 0 19)) (C := R_Model) (T := F_Model) (N := 24) hx hb hts in_Model hown hK hP 0 (wl_to (by decide) (MO_at)) rfl 19 (by decide) (hts _ fl_Model_138) (fun _ h => h) rfl d_Model_at_199 ?_
                    refine lv_iconst (v := 1) hx hb d_Model_at_202 (by decide) ?_
                    refine lv_icmp_ne (tgt := 210) hx hb d_Model_at_203 (by decide) (fun h203 => ?_) (fun h203 => ?_)
                    · rw [if_neg h203] at hf
                      refine lv_bipush (v := 8) hx hb d_Model_at_210 (by decide) ?_
                      refine lv_iload hx hb d_Model_at_212 (lv_at hl 1 rfl) ?_
                      refine lv_iadd hx hb d_Model_at_214 ?_
                      cases hf
                      exact w_iret hx hb hr hlk hP hS d_Model_at_215
                    · rw [if_pos h203] at hf
                      refine lv_iconst (v := 2) hx hb d_Model_at_206 (by decide) ?_
                      refine lv_goto (tgt := 215) hx hb d_Model_at_207 (by decide) ?_
                      cases hf
                      exact w_iret hx hb hr hlk hP hS d_Model_at_215
                  · rw [if_pos h173] at hf
                    refine lv_aload_n hx hb d_Model_at_176 rfl (lv_at hl 3 rfl) ?_
                    refine va_get (D := D) (ci := 5) (v := .int (r140.2 0 0 0 17)) (C := R_Model) (T := F_Model) (N := 24) hx hb hts in_Model hown hK hP 0 (wl_to (by decide) (MO_at)) rfl 17 (by decide) (hts _ fl_Model_132) (fun _ h => h) rfl d_Model_at_177 ?_
                    refine lv_if_gt (tgt := 190) hx hb d_Model_at_180 (by decide) (fun h180 => ?_) (fun h180 => ?_)
                    · rw [if_pos h180] at hf
                      refine lv_iconst (v := 4) hx hb d_Model_at_190 (by decide) ?_
                      cases hf
                      exact w_iret hx hb hr hlk hP hS d_Model_at_191
                    · rw [if_neg h180] at hf
                      refine lv_aload_n hx hb d_Model_at_183 rfl (lv_at hl 3 rfl) ?_
                      refine va_get (D := D) (ci := 5) (v := .int (r140.2 0 0 0 18)) (C := R_Model) (T := F_Model) (N := 24) hx hb hts in_Model hown hK hP 0 (wl_to (by decide) (MO_at)) rfl 18 (by decide) (hts _ fl_Model_135) (fun _ h => h) rfl d_Model_at_184 ?_
                      refine lv_if_le (tgt := 192) hx hb d_Model_at_187 (by decide) (fun h187 => ?_) (fun h187 => ?_)
                      · rw [if_pos h187] at hf
                        refine lv_aload_n hx hb d_Model_at_192 rfl (lv_at hl 3 rfl) ?_
                        refine lv_iload hx hb d_Model_at_193 (lv_at hl 0 rfl) ?_
                        refine m_put (t := 0) (a := 0) (b := 0) (x := (r140.2 5 0 0 j168)) (ci := 5) (C := R_Model) (T := F_Model) (N := 24) hx hb hts in_Model t_Model ty_Model nm_Model hown hK hP hA hS tJ 0 (by decide) (Model_fs ad) (fun _ => rfl) ⟨rfl, rfl, rfl⟩ rfl 17 (by decide) (hts _ fl_Model_132) rfl (by decide +kernel) (fun _ => ⟨Nat.le_of_ble_eq_true rfl, rfl⟩) d_Model_at_195 (fun H locs hP hS => ?_)
                        refine lv_aload_n hx hb d_Model_at_198 rfl (lv_at hl 3 rfl) ?_
                        refine va_get (D := D) (ci := 5) (v := .int ((mset r140.2 0 0 0 17 (r140.2 5 0 0 j168)) 0 0 0 19)) (C := R_Model) (T := F_Model) (N := 24) hx hb hts in_Model hown hK hP 0 (wl_to (by decide) (MO_at)) rfl 19 (by decide) (hts _ fl_Model_138) (fun _ h => h) rfl d_Model_at_199 ?_
                        refine lv_iconst (v := 1) hx hb d_Model_at_202 (by decide) ?_
                        refine lv_icmp_ne (tgt := 210) hx hb d_Model_at_203 (by decide) (fun h203 => ?_) (fun h203 => ?_)
                        · rw [if_neg h203] at hf
                          refine lv_bipush (v := 8) hx hb d_Model_at_210 (by decide) ?_
                          refine lv_iload hx hb d_Model_at_212 (lv_at hl 1 rfl) ?_
                          refine lv_iadd hx hb d_Model_at_214 ?_
                          cases hf
                          exact w_iret hx hb hr hlk hP hS d_Model_at_215
                        · rw [if_pos h203] at hf
                          refine lv_iconst (v := 2) hx hb d_Model_at_206 (by decide) ?_
                          refine lv_goto (tgt := 215) hx hb d_Model_at_207 (by decide) ?_
                          cases hf
                          exact w_iret hx hb hr hlk hP hS d_Model_at_215
                      · rw [if_neg h187] at hf
                        refine lv_iconst (v := 4) hx hb d_Model_at_190 (by decide) ?_
                        cases hf
                        exact w_iret hx hb hr hlk hP hS d_Model_at_191
                · rw [if_pos h148] at hf
                  refine lv_iconst (v := 1) hx hb d_Model_at_151 (by decide) ?_
                  cases hf
                  exact w_iret hx hb hr hlk hP hS d_Model_at_152
              · rw [if_pos h132] at hf
                refine lv_iconst (v := 0) hx hb d_Model_at_135 (by decide) ?_
                cases hf
                exact w_iret hx hb hr hlk hP hS d_Model_at_136
          · rw [if_pos h109] at hf
            refine lv_aload_n hx hb d_Model_at_112 rfl (lv_at hl 1 rfl) ?_
            refine lv_iload_n hx hb d_Model_at_113 rfl (lv_at hl 2 rfl) ?_
            obtain ⟨r114, hc114, hf⟩ := ob hf
            refine k_rdi (k_vir S (c_Model_looked (l := l) (D := D) (ad := ad) (G := G) hc114) g_Model_150 hd_Model_looked ⟨rfl, rfl⟩ ⟨Nat.le_of_ble_eq_true rfl, Nat.le_of_ble_eq_true rfl⟩ wl_blind (va_recv hK hP rfl (wl_to (by decide) (MO_at))) (wl_pre hP hK hA) rfl hl.1 rfl (Nat.le_of_ble_eq_true rfl) d_Model_at_114 (Nat.zero_le _) (Nat.zero_le _)) ?_
            cases hf
            exact w_iret hx hb hr hlk hP hS d_Model_at_117
  · rw [if_neg h9] at hf
    refine lv_aload_n hx hb d_Model_at_12 rfl (lv_at hl 1 rfl) ?_
    refine lv_iload_n hx hb d_Model_at_13 rfl (lv_at hl 2 rfl) ?_
    refine lv_aload_n hx hb d_Model_at_14 rfl (lv_at hl 1 rfl) ?_
    refine va_get (D := D) (ci := 5) (v := .int (M 0 0 0 17)) (C := R_Model) (T := F_Model) (N := 24) hx hb hts in_Model hown hK hP 0 (wl_to (by decide) (MO_at)) rfl 17 (by decide) (hts _ fl_Model_132) (fun _ h => h) rfl d_Model_at_15 ?_
    obtain ⟨r18, hc18, hf⟩ := ob hf
    refine k_rdi (k_vir S (c_Model_prefixAt (l := l) (D := D) (ad := ad) (G := G) hc18) g_Model_147 hd_Model_prefixAt ⟨rfl, rfl⟩ ⟨Nat.le_of_ble_eq_true rfl, Nat.le_of_ble_eq_true rfl⟩ wl_blind (va_recv hK hP rfl (wl_to (by decide) (MO_at))) (wl_pre hP hK hA) rfl hl.1 rfl (Nat.le_of_ble_eq_true rfl) d_Model_at_18 (Nat.zero_le _) (Nat.zero_le _)) ?_
    refine lv_istore (lv' := [(4, .int r18), (3, .int (M 0 0 0 16)), (0, .ref (ad 0)), (1, .int a), (2, .int b)]) hx hb d_Model_at_21 hl (by decide) rfl (fun ls hl => ?_)
    refine lv_iload hx hb d_Model_at_23 (lv_at hl 0 rfl) ?_
    refine lv_iconst (v := (-1)) hx hb d_Model_at_25 (by decide) ?_
    refine lv_icmp_ne (tgt := 31) hx hb d_Model_at_26 (by decide) (fun h26 => ?_) (fun h26 => ?_)
    · rw [if_neg h26] at hf
      refine lv_aload_n hx hb d_Model_at_31 rfl (lv_at hl 2 rfl) ?_
      refine va_get (D := D) (ci := 5) (v := .ref (ad 2)) (C := R_Model) (T := F_Model) (N := 24) hx hb hts in_Model hown hK hP 0 (wl_to (by decide) (MO_at)) rfl 3 (by decide) (hts _ fl_Model_13) (fun _ h => h) rfl d_Model_at_32 ?_
      refine lv_iload hx hb d_Model_at_35 (lv_at hl 0 rfl) ?_
      obtain ⟨j37, hj37, hf⟩ := ob hf
      refine k_iald hx hb hK hP 2 0 (by decide) (OWN_at) rfl hj37 d_Model_at_37 ?_
      refine lv_iload_n hx hb d_Model_at_38 rfl (lv_at hl 3 rfl) ?_
      have J47 : ∀ (s0_47 : Int32) (ls : Array Slot), lv_has ls 6 [(4, .int r18), (3, .int (M 0 0 0 16)), (0, .ref (ad 0)), (1, .int a), (2, .int b)] → f_Model_at_j47 a b M r18 s0_47 = some x → W p l e rm_Model_at s m args below meth c s.heap [] 0 0 (MQ below (wr_Q (some (.int x.1)) D cls 15 ad (tE ad G x.2)) args s 0 0 (wl_A 15 ad)) (F0 m 47 ls [.int s0_47]) := by
        intro s0_47 ls hl hf
        unfold f_Model_at_j47 at hf
        refine lv_istore (lv' := [(5, .int s0_47), (4, .int r18), (3, .int (M 0 0 0 16)), (0, .ref (ad 0)), (1, .int a), (2, .int b)]) hx hb d_Model_at_47 hl (by decide) rfl (fun ls hl => ?_)
        refine lv_aload_n hx hb d_Model_at_49 rfl (lv_at hl 3 rfl) ?_
        refine lv_iload hx hb d_Model_at_50 (lv_at hl 0 rfl) ?_
        have J63 : ∀ (s0_63 : Int32) (ls : Array Slot), lv_has ls 6 [(5, .int s0_47), (4, .int r18), (3, .int (M 0 0 0 16)), (0, .ref (ad 0)), (1, .int a), (2, .int b)] → f_Model_at_j63 a b M r18 s0_47 s0_63 = some x → W p l e rm_Model_at s m args below meth c s.heap [] 0 0 (MQ below (wr_Q (some (.int x.1)) D cls 15 ad (tE ad G x.2)) args s 0 0 (wl_A 15 ad)) (F0 m 63 ls [.int s0_63, .ref (ad 0)]) := by
          intro s0_63 ls hl hf
          unfold f_Model_at_j63 at hf
          refine m_put (t := 0) (a := 0) (b := 0) (x := s0_63) (ci := 5) (C := R_Model) (T := F_Model) (N := 24) hx hb hts in_Model t_Model ty_Model nm_Model hown hK hP hA hS tJ 0 (by decide) (Model_fs ad) (fun _ => rfl) ⟨rfl, rfl, rfl⟩ rfl 17 (by decide) (hts _ fl_Model_132) rfl (by decide +kernel) (fun _ => ⟨Nat.le_of_ble_eq_true rfl, rfl⟩) d_Model_at_63 (fun H locs hP hS => ?_)
          refine lv_iload hx hb d_Model_at_66 (lv_at hl 0 rfl) ?_
          have J80 : ∀ (s0_80 : Int32) (ls : Array Slot), lv_has ls 6 [(5, .int s0_47), (4, .int r18), (3, .int (M 0 0 0 16)), (0, .ref (ad 0)), (1, .int a), (2, .int b)] → f_Model_at_j80 a b M s0_63 s0_80 = some x → W p l e rm_Model_at s m args below meth c H locs 0 0 (MQ below (wr_Q (some (.int x.1)) D cls 15 ad (tE ad G x.2)) args s 0 0 (wl_A 15 ad)) (F0 m 80 ls [.int s0_80]) := by
            intro s0_80 ls hl hf
            unfold f_Model_at_j80 at hf
            refine lv_istore_n (lv' := [(3, .int s0_80), (5, .int s0_47), (4, .int r18), (0, .ref (ad 0)), (1, .int a), (2, .int b)]) hx hb d_Model_at_80 rfl hl (by decide) rfl (fun ls hl => ?_)
            refine lv_aload_n hx hb d_Model_at_81 rfl (lv_at hl 3 rfl) ?_
            refine va_get (D := D) (ci := 5) (v := .int ((mset M 0 0 0 17 s0_63) 0 0 0 17)) (C := R_Model) (T := F_Model) (N := 24) hx hb hts in_Model hown hK hP 0 (wl_to (by decide) (MO_at)) rfl 17 (by decide) (hts _ fl_Model_132) (fun _ h => h) rfl d_Model_at_82 ?_
            refine lv_if_ne (tgt := 118) hx hb d_Model_at_85 (by decide) (fun h85 => ?_) (fun h85 => ?_)
            · rw [if_neg h85] at hf
              refine lv_aload_n hx hb d_Model_at_118 rfl (lv_at hl 3 rfl) ?_
              refine va_get (D := D) (ci := 5) (v := .int ((mset M 0 0 0 17 s0_63) 0 0 0 17)) (C := R_Model) (T := F_Model) (N := 24) hx hb hts in_Model hown hK hP 0 (wl_to (by decide) (MO_at)) rfl 17 (by decide) (hts _ fl_Model_132) (fun _ h => h) rfl d_Model_at_119 ?_
              refine lv_if_ne (tgt := 137) hx hb d_Model_at_122 (by decide) (fun h122 => ?_) (fun h122 => ?_)
              · rw [if_neg h122] at hf
                refine lv_aload_n hx hb d_Model_at_137 rfl (lv_at hl 3 rfl) ?_
                refine lv_iload_n hx hb d_Model_at_138 rfl (lv_at hl 4 rfl) ?_
                refine lv_iload_n hx hb d_Model_at_139 rfl (lv_at hl 0 rfl) ?_
                obtain ⟨r140, hc140, hf⟩ := ob hf
                refine k_wri (k_vir S (c_Model_nextOf (l := l) (D := D) (ad := ad) (G := G) hc140) g_Model_86 hd_Model_nextOf ⟨rfl, rfl⟩ ⟨Nat.le_of_ble_eq_true rfl, Nat.le_of_ble_eq_true rfl⟩ wl_blind (va_recv hK hP rfl (wl_to (by decide) (MO_at))) (wl_pre hP hK hA) rfl hl.1 rfl (Nat.le_of_ble_eq_true rfl) d_Model_at_140 (Nat.zero_le _) (Nat.zero_le _)) hS (fun _ h => h) (fun H locs hP _ _ hS => ?_)
                refine lv_istore (lv' := [(4, .int r140.1), (3, .int s0_80), (5, .int s0_47), (0, .ref (ad 0)), (1, .int a), (2, .int b)]) hx hb d_Model_at_143 hl (by decide) rfl (fun ls hl => ?_)
                refine lv_iload hx hb d_Model_at_145 (lv_at hl 0 rfl) ?_
                refine lv_iconst (v := (-1)) hx hb d_Model_at_147 (by decide) ?_
                refine lv_icmp_ne (tgt := 153) hx hb d_Model_at_148 (by decide) (fun h148 => ?_) (fun h148 => ?_)
                · rw [if_neg h148] at hf
                  refine lv_aload_n hx hb d_Model_at_153 rfl (lv_at hl 3 rfl) ?_
                  refine va_get (D := D) (ci := 5) (v := .ref (ad 5)) (C := R_Model) (T := F_Model) (N := 24) hx hb hts in_Model hown hK hP 0 (wl_to (by decide) (MO_at)) rfl 6 (by decide) (hts _ fl_Model_22) (fun _ h => h) rfl d_Model_at_154 ?_
                  refine lv_bipush (v := 24) hx hb d_Model_at_157 (by decide) ?_
                  refine lv_iload_n hx hb d_Model_at_159 rfl (lv_at hl 4 rfl) ?_
                  refine lv_imul hx hb d_Model_at_160 ?_
                  refine lv_iconst (v := 4) hx hb d_Model_at_161 (by decide) ?_
                  refine lv_iload hx hb d_Model_at_162 (lv_at hl 0 rfl) ?_
                  refine lv_imul hx hb d_Model_at_164 ?_
                  refine lv_iadd hx hb d_Model_at_165 ?_
                  refine lv_iload_n hx hb d_Model_at_166 rfl (lv_at hl 1 rfl) ?_
                  refine lv_iadd hx hb d_Model_at_167 ?_
                  obtain ⟨j168, hj168, hf⟩ := ob hf
                  refine k_iald hx hb hK hP 5 0 (by decide) (TLD_at) rfl hj168 d_Model_at_168 ?_
                  refine lv_istore (lv' := [(5, .int (r140.2 5 0 0 j168)), (4, .int r140.1), (3, .int s0_80), (0, .ref (ad 0)), (1, .int a), (2, .int b)]) hx hb d_Model_at_169 hl (by decide) rfl (fun ls hl => ?_)
                  refine lv_iload hx hb d_Model_at_171 (lv_at hl 0 rfl) ?_
                  refine lv_if_ne (tgt := 192) hx hb d_Model_at_173 (by decide) (fun h173 => ?_) (fun h173 => ?_)
                  · rw [if_neg h173] at hf
                    refine lv_aload_n hx hb d_Model_at_192 rfl (lv_at hl 3 rfl) ?_
                    refine lv_iload hx hb d_Model_at_193 (lv_at hl 0 rfl) ?_
                    refine m_put (t := 0) (a := 0) (b := 0) (x := (r140.2 5 0 0 j168)) (ci := 5) (C := R_Model) (T := F_Model) (N := 24) hx hb hts in_Model t_Model ty_Model nm_Model hown hK hP hA hS tJ 0 (by decide) (Model_fs ad) (fun _ => rfl) ⟨rfl, rfl, rfl⟩ rfl 17 (by decide) (hts _ fl_Model_132) rfl (by decide +kernel) (fun _ => ⟨Nat.le_of_ble_eq_true rfl, rfl⟩) d_Model_at_195 (fun H locs hP hS => ?_)
                    refine lv_aload_n hx hb d_Model_at_198 rfl (lv_at hl 3 rfl) ?_
                    refine va_get (D := D) (ci := 5) (v := .int ((mset r140.2 0 0 0 17 (r140.2 5 0 0 j168)) 0 0 0 19)) (C := R_Model) (T := F_Model) (N := 24) hx hb hts in_Model hown hK hP 0 (wl_to (by decide) (MO_at)) rfl 19 (by decide) (hts _ fl_Model_138) (fun _ h => h) rfl d_Model_at_199 ?_
                    refine lv_iconst (v := 1) hx hb d_Model_at_202 (by decide) ?_
                    refine lv_icmp_ne (tgt := 210) hx hb d_Model_at_203 (by decide) (fun h203 => ?_) (fun h203 => ?_)
                    · rw [if_neg h203] at hf
                      refine lv_bipush (v := 8) hx hb d_Model_at_210 (by decide) ?_
                      refine lv_iload hx hb d_Model_at_212 (lv_at hl 1 rfl) ?_
                      refine lv_iadd hx hb d_Model_at_214 ?_
                      cases hf
                      exact w_iret hx hb hr hlk hP hS d_Model_at_215
                    · rw [if_pos h203] at hf
                      refine lv_iconst (v := 2) hx hb d_Model_at_206 (by decide) ?_
                      refine lv_goto (tgt := 215) hx hb d_Model_at_207 (by decide) ?_
                      cases hf
                      exact w_iret hx hb hr hlk hP hS d_Model_at_215
                  · rw [if_pos h173] at hf
                    refine lv_aload_n hx hb d_Model_at_176 rfl (lv_at hl 3 rfl) ?_
                    refine va_get (D := D) (ci := 5) (v := .int (r140.2 0 0 0 17)) (C := R_Model) (T := F_Model) (N := 24) hx hb hts in_Model hown hK hP 0 (wl_to (by decide) (MO_at)) rfl 17 (by decide) (hts _ fl_Model_132) (fun _ h => h) rfl d_Model_at_177 ?_
                    refine lv_if_gt (tgt := 190) hx hb d_Model_at_180 (by decide) (fun h180 => ?_) (fun h180 => ?_)
                    · rw [if_pos h180] at hf
                      refine lv_iconst (v := 4) hx hb d_Model_at_190 (by decide) ?_
                      cases hf
                      exact w_iret hx hb hr hlk hP hS d_Model_at_191
                    · rw [if_neg h180] at hf
                      refine lv_aload_n hx hb d_Model_at_183 rfl (lv_at hl 3 rfl) ?_
                      refine va_get (D := D) (ci := 5) (v := .int (r140.2 0 0 0 18)) (C := R_Model) (T := F_Model) (N := 24) hx hb hts in_Model hown hK hP 0 (wl_to (by decide) (MO_at)) rfl 18 (by decide) (hts _ fl_Model_135) (fun _ h => h) rfl d_Model_at_184 ?_
                      refine lv_if_le (tgt := 192) hx hb d_Model_at_187 (by decide) (fun h187 => ?_) (fun h187 => ?_)
                      · rw [if_pos h187] at hf
                        refine lv_aload_n hx hb d_Model_at_192 rfl (lv_at hl 3 rfl) ?_
                        refine lv_iload hx hb d_Model_at_193 (lv_at hl 0 rfl) ?_
                        refine m_put (t := 0) (a := 0) (b := 0) (x := (r140.2 5 0 0 j168)) (ci := 5) (C := R_Model) (T := F_Model) (N := 24) hx hb hts in_Model t_Model ty_Model nm_Model hown hK hP hA hS tJ 0 (by decide) (Model_fs ad) (fun _ => rfl) ⟨rfl, rfl, rfl⟩ rfl 17 (by decide) (hts _ fl_Model_132) rfl (by decide +kernel) (fun _ => ⟨Nat.le_of_ble_eq_true rfl, rfl⟩) d_Model_at_195 (fun H locs hP hS => ?_)
                        refine lv_aload_n hx hb d_Model_at_198 rfl (lv_at hl 3 rfl) ?_
                        refine va_get (D := D) (ci := 5) (v := .int ((mset r140.2 0 0 0 17 (r140.2 5 0 0 j168)) 0 0 0 19)) (C := R_Model) (T := F_Model) (N := 24) hx hb hts in_Model hown hK hP 0 (wl_to (by decide) (MO_at)) rfl 19 (by decide) (hts _ fl_Model_138) (fun _ h => h) rfl d_Model_at_199 ?_
                        refine lv_iconst (v := 1) hx hb d_Model_at_202 (by decide) ?_
                        refine lv_icmp_ne (tgt := 210) hx hb d_Model_at_203 (by decide) (fun h203 => ?_) (fun h203 => ?_)
                        · rw [if_neg h203] at hf
                          refine lv_bipush (v := 8) hx hb d_Model_at_210 (by decide) ?_
                          refine lv_iload hx hb d_Model_at_212 (lv_at hl 1 rfl) ?_
                          refine lv_iadd hx hb d_Model_at_214 ?_
                          cases hf
                          exact w_iret hx hb hr hlk hP hS d_Model_at_215
                        · rw [if_pos h203] at hf
                          refine lv_iconst (v := 2) hx hb d_Model_at_206 (by decide) ?_
                          refine lv_goto (tgt := 215) hx hb d_Model_at_207 (by decide) ?_
                          cases hf
                          exact w_iret hx hb hr hlk hP hS d_Model_at_215
                      · rw [if_neg h187] at hf
                        refine lv_iconst (v := 4) hx hb d_Model_at_190 (by decide) ?_
                        cases hf
                        exact w_iret hx hb hr hlk hP hS d_Model_at_191
                · rw [if_pos h148] at hf
                  refine lv_iconst (v := 1) hx hb d_Model_at_151 (by decide) ?_
                  cases hf
                  exact w_iret hx hb hr hlk hP hS d_Model_at_152
              · rw [if_pos h122] at hf
                refine lv_aload_n hx hb d_Model_at_125 rfl (lv_at hl 3 rfl) ?_
                refine va_get (D := D) (ci := 5) (v := .ref (ad 2)) (C := R_Model) (T := F_Model) (N := 24) hx hb hts in_Model hown hK hP 0 (wl_to (by decide) (MO_at)) rfl 3 (by decide) (hts _ fl_Model_13) (fun _ h => h) rfl d_Model_at_126 ?_
                refine lv_iload_n hx hb d_Model_at_129 rfl (lv_at hl 0 rfl) ?_
                obtain ⟨j130, hj130, hf⟩ := ob hf
                refine k_iald hx hb hK hP 2 0 (by decide) (OWN_at) rfl hj130 d_Model_at_130 ?_
                refine lv_iload_n hx hb d_Model_at_131 rfl (lv_at hl 4 rfl) ?_
                refine lv_icmp_ne (tgt := 137) hx hb d_Model_at_132 (by decide) (fun h132 => ?_) (fun h132 => ?_)
                · rw [if_neg h132] at hf
                  refine lv_aload_n hx hb d_Model_at_137 rfl (lv_at hl 3 rfl) ?_
                  refine lv_iload_n hx hb d_Model_at_138 rfl (lv_at hl 4 rfl) ?_
                  refine lv_iload_n hx hb d_Model_at_139 rfl (lv_at hl 0 rfl) ?_
                  obtain ⟨r140, hc140, hf⟩ := ob hf
                  refine k_wri (k_vir S (c_Model_nextOf (l := l) (D := D) (ad := ad) (G := G) hc140) g_Model_86 hd_Model_nextOf ⟨rfl, rfl⟩ ⟨Nat.le_of_ble_eq_true rfl, Nat.le_of_ble_eq_true rfl⟩ wl_blind (va_recv hK hP rfl (wl_to (by decide) (MO_at))) (wl_pre hP hK hA) rfl hl.1 rfl (Nat.le_of_ble_eq_true rfl) d_Model_at_140 (Nat.zero_le _) (Nat.zero_le _)) hS (fun _ h => h) (fun H locs hP _ _ hS => ?_)
                  refine lv_istore (lv' := [(4, .int r140.1), (3, .int s0_80), (5, .int s0_47), (0, .ref (ad 0)), (1, .int a), (2, .int b)]) hx hb d_Model_at_143 hl (by decide) rfl (fun ls hl => ?_)
                  refine lv_iload hx hb d_Model_at_145 (lv_at hl 0 rfl) ?_
                  refine lv_iconst (v := (-1)) hx hb d_Model_at_147 (by decide) ?_
                  refine lv_icmp_ne (tgt := 153) hx hb d_Model_at_148 (by decide) (fun h148 => ?_) (fun h148 => ?_)
                  · rw [if_neg h148] at hf
                    refine lv_aload_n hx hb d_Model_at_153 rfl (lv_at hl 3 rfl) ?_
                    refine va_get (D := D) (ci := 5) (v := .ref (ad 5)) (C := R_Model) (T := F_Model) (N := 24) hx hb hts in_Model hown hK hP 0 (wl_to (by decide) (MO_at)) rfl 6 (by decide) (hts _ fl_Model_22) (fun _ h => h) rfl d_Model_at_154 ?_
                    refine lv_bipush (v := 24) hx hb d_Model_at_157 (by decide) ?_
                    refine lv_iload_n hx hb d_Model_at_159 rfl (lv_at hl 4 rfl) ?_
                    refine lv_imul hx hb d_Model_at_160 ?_
                    refine lv_iconst (v := 4) hx hb d_Model_at_161 (by decide) ?_
                    refine lv_iload hx hb d_Model_at_162 (lv_at hl 0 rfl) ?_
                    refine lv_imul hx hb d_Model_at_164 ?_
                    refine lv_iadd hx hb d_Model_at_165 ?_
                    refine lv_iload_n hx hb d_Model_at_166 rfl (lv_at hl 1 rfl) ?_
                    refine lv_iadd hx hb d_Model_at_167 ?_
                    obtain ⟨j168, hj168, hf⟩ := ob hf
                    refine k_iald hx hb hK hP 5 0 (by decide) (TLD_at) rfl hj168 d_Model_at_168 ?_
                    refine lv_istore (lv' := [(5, .int (r140.2 5 0 0 j168)), (4, .int r140.1), (3, .int s0_80), (0, .ref (ad 0)), (1, .int a), (2, .int b)]) hx hb d_Model_at_169 hl (by decide) rfl (fun ls hl => ?_)
                    refine lv_iload hx hb d_Model_at_171 (lv_at hl 0 rfl) ?_
                    refine lv_if_ne (tgt := 192) hx hb d_Model_at_173 (by decide) (fun h173 => ?_) (fun h173 => ?_)
                    · rw [if_neg h173] at hf
                      refine lv_aload_n hx hb d_Model_at_192 rfl (lv_at hl 3 rfl) ?_
                      refine lv_iload hx hb d_Model_at_193 (lv_at hl 0 rfl) ?_
                      refine m_put (t := 0) (a := 0) (b := 0) (x := (r140.2 5 0 0 j168)) (ci := 5) (C := R_Model) (T := F_Model) (N := 24) hx hb hts in_Model t_Model ty_Model nm_Model hown hK hP hA hS tJ 0 (by decide) (Model_fs ad) (fun _ => rfl) ⟨rfl, rfl, rfl⟩ rfl 17 (by decide) (hts _ fl_Model_132) rfl (by decide +kernel) (fun _ => ⟨Nat.le_of_ble_eq_true rfl, rfl⟩) d_Model_at_195 (fun H locs hP hS => ?_)
                      refine lv_aload_n hx hb d_Model_at_198 rfl (lv_at hl 3 rfl) ?_
                      refine va_get (D := D) (ci := 5) (v := .int ((mset r140.2 0 0 0 17 (r140.2 5 0 0 j168)) 0 0 0 19)) (C := R_Model) (T := F_Model) (N := 24) hx hb hts in_Model hown hK hP 0 (wl_to (by decide) (MO_at)) rfl 19 (by decide) (hts _ fl_Model_138) (fun _ h => h) rfl d_Model_at_199 ?_
                      refine lv_iconst (v := 1) hx hb d_Model_at_202 (by decide) ?_
                      refine lv_icmp_ne (tgt := 210) hx hb d_Model_at_203 (by decide) (fun h203 => ?_) (fun h203 => ?_)
                      · rw [if_neg h203] at hf
                        refine lv_bipush (v := 8) hx hb d_Model_at_210 (by decide) ?_
                        refine lv_iload hx hb d_Model_at_212 (lv_at hl 1 rfl) ?_
                        refine lv_iadd hx hb d_Model_at_214 ?_
                        cases hf
                        exact w_iret hx hb hr hlk hP hS d_Model_at_215
                      · rw [if_pos h203] at hf
                        refine lv_iconst (v := 2) hx hb d_Model_at_206 (by decide) ?_
                        refine lv_goto (tgt := 215) hx hb d_Model_at_207 (by decide) ?_
                        cases hf
                        exact w_iret hx hb hr hlk hP hS d_Model_at_215
                    · rw [if_pos h173] at hf
                      refine lv_aload_n hx hb d_Model_at_176 rfl (lv_at hl 3 rfl) ?_
                      refine va_get (D := D) (ci := 5) (v := .int (r140.2 0 0 0 17)) (C := R_Model) (T := F_Model) (N := 24) hx hb hts in_Model hown hK hP 0 (wl_to (by decide) (MO_at)) rfl 17 (by decide) (hts _ fl_Model_132) (fun _ h => h) rfl d_Model_at_177 ?_
                      refine lv_if_gt (tgt := 190) hx hb d_Model_at_180 (by decide) (fun h180 => ?_) (fun h180 => ?_)
                      · rw [if_pos h180] at hf
                        refine lv_iconst (v := 4) hx hb d_Model_at_190 (by decide) ?_
                        cases hf
                        exact w_iret hx hb hr hlk hP hS d_Model_at_191
                      · rw [if_neg h180] at hf
                        refine lv_aload_n hx hb d_Model_at_183 rfl (lv_at hl 3 rfl) ?_
                        refine va_get (D := D) (ci := 5) (v := .int (r140.2 0 0 0 18)) (C := R_Model) (T := F_Model) (N := 24) hx hb hts in_Model hown hK hP 0 (wl_to (by decide) (MO_at)) rfl 18 (by decide) (hts _ fl_Model_135) (fun _ h => h) rfl d_Model_at_184 ?_
                        refine lv_if_le (tgt := 192) hx hb d_Model_at_187 (by decide) (fun h187 => ?_) (fun h187 => ?_)
                        · rw [if_pos h187] at hf
                          refine lv_aload_n hx hb d_Model_at_192 rfl (lv_at hl 3 rfl) ?_
                          refine lv_iload hx hb d_Model_at_193 (lv_at hl 0 rfl) ?_
                          refine m_put (t := 0) (a := 0) (b := 0) (x := (r140.2 5 0 0 j168)) (ci := 5) (C := R_Model) (T := F_Model) (N := 24) hx hb hts in_Model t_Model ty_Model nm_Model hown hK hP hA hS tJ 0 (by decide) (Model_fs ad) (fun _ => rfl) ⟨rfl, rfl, rfl⟩ rfl 17 (by decide) (hts _ fl_Model_132) rfl (by decide +kernel) (fun _ => ⟨Nat.le_of_ble_eq_true rfl, rfl⟩) d_Model_at_195 (fun H locs hP hS => ?_)
                          refine lv_aload_n hx hb d_Model_at_198 rfl (lv_at hl 3 rfl) ?_
                          refine va_get (D := D) (ci := 5) (v := .int ((mset r140.2 0 0 0 17 (r140.2 5 0 0 j168)) 0 0 0 19)) (C := R_Model) (T := F_Model) (N := 24) hx hb hts in_Model hown hK hP 0 (wl_to (by decide) (MO_at)) rfl 19 (by decide) (hts _ fl_Model_138) (fun _ h => h) rfl d_Model_at_199 ?_
                          refine lv_iconst (v := 1) hx hb d_Model_at_202 (by decide) ?_
                          refine lv_icmp_ne (tgt := 210) hx hb d_Model_at_203 (by decide) (fun h203 => ?_) (fun h203 => ?_)
                          · rw [if_neg h203] at hf
                            refine lv_bipush (v := 8) hx hb d_Model_at_210 (by decide) ?_
                            refine lv_iload hx hb d_Model_at_212 (lv_at hl 1 rfl) ?_
                            refine lv_iadd hx hb d_Model_at_214 ?_
                            cases hf
                            exact w_iret hx hb hr hlk hP hS d_Model_at_215
                          · rw [if_pos h203] at hf
                            refine lv_iconst (v := 2) hx hb d_Model_at_206 (by decide) ?_
                            refine lv_goto (tgt := 215) hx hb d_Model_at_207 (by decide) ?_
                            cases hf
                            exact w_iret hx hb hr hlk hP hS d_Model_at_215
                        · rw [if_neg h187] at hf
                          refine lv_iconst (v := 4) hx hb d_Model_at_190 (by decide) ?_
                          cases hf
                          exact w_iret hx hb hr hlk hP hS d_Model_at_191
                  · rw [if_pos h148] at hf
                    refine lv_iconst (v := 1) hx hb d_Model_at_151 (by decide) ?_
                    cases hf
                    exact w_iret hx hb hr hlk hP hS d_Model_at_152
                · rw [if_pos h132] at hf
                  refine lv_iconst (v := 0) hx hb d_Model_at_135 (by decide) ?_
                  cases hf
                  exact w_iret hx hb hr hlk hP hS d_Model_at_136
            · rw [if_pos h85] at hf
              refine lv_aload_n hx hb d_Model_at_88 rfl (lv_at hl 3 rfl) ?_
              refine va_get (D := D) (ci := 5) (v := .int ((mset M 0 0 0 17 s0_63) 0 0 0 18)) (C := R_Model) (T := F_Model) (N := 24) hx hb hts in_Model hown hK hP 0 (wl_to (by decide) (MO_at)) rfl 18 (by decide) (hts _ fl_Model_135) (fun _ h => h) rfl d_Model_at_89 ?_
              refine lv_if_le (tgt := 118) hx hb d_Model_at_92 (by decide) (fun h92 => ?_) (fun h92 => ?_)
              · rw [if_pos h92] at hf
                refine lv_aload_n hx hb d_Model_at_118 rfl (lv_at hl 3 rfl) ?_
                refine va_get (D := D) (ci := 5) (v := .int ((mset M 0 0 0 17 s0_63) 0 0 0 17)) (C := R_Model) (T := F_Model) (N := 24) hx hb hts in_Model hown hK hP 0 (wl_to (by decide) (MO_at)) rfl 17 (by decide) (hts _ fl_Model_132) (fun _ h => h) rfl d_Model_at_119 ?_
                refine lv_if_ne (tgt := 137) hx hb d_Model_at_122 (by decide) (fun h122 => ?_) (fun h122 => ?_)
                · rw [if_neg h122] at hf
                  refine lv_aload_n hx hb d_Model_at_137 rfl (lv_at hl 3 rfl) ?_
                  refine lv_iload_n hx hb d_Model_at_138 rfl (lv_at hl 4 rfl) ?_
                  refine lv_iload_n hx hb d_Model_at_139 rfl (lv_at hl 0 rfl) ?_
                  obtain ⟨r140, hc140, hf⟩ := ob hf
                  refine k_wri (k_vir S (c_Model_nextOf (l := l) (D := D) (ad := ad) (G := G) hc140) g_Model_86 hd_Model_nextOf ⟨rfl, rfl⟩ ⟨Nat.le_of_ble_eq_true rfl, Nat.le_of_ble_eq_true rfl⟩ wl_blind (va_recv hK hP rfl (wl_to (by decide) (MO_at))) (wl_pre hP hK hA) rfl hl.1 rfl (Nat.le_of_ble_eq_true rfl) d_Model_at_140 (Nat.zero_le _) (Nat.zero_le _)) hS (fun _ h => h) (fun H locs hP _ _ hS => ?_)
                  refine lv_istore (lv' := [(4, .int r140.1), (3, .int s0_80), (5, .int s0_47), (0, .ref (ad 0)), (1, .int a), (2, .int b)]) hx hb d_Model_at_143 hl (by decide) rfl (fun ls hl => ?_)
                  refine lv_iload hx hb d_Model_at_145 (lv_at hl 0 rfl) ?_
                  refine lv_iconst (v := (-1)) hx hb d_Model_at_147 (by decide) ?_
                  refine lv_icmp_ne (tgt := 153) hx hb d_Model_at_148 (by decide) (fun h148 => ?_) (fun h148 => ?_)
                  · rw [if_neg h148] at hf
                    refine lv_aload_n hx hb d_Model_at_153 rfl (lv_at hl 3 rfl) ?_
                    refine va_get (D := D) (ci := 5) (v := .ref (ad 5)) (C := R_Model) (T := F_Model) (N := 24) hx hb hts in_Model hown hK hP 0 (wl_to (by decide) (MO_at)) rfl 6 (by decide) (hts _ fl_Model_22) (fun _ h => h) rfl d_Model_at_154 ?_
                    refine lv_bipush (v := 24) hx hb d_Model_at_157 (by decide) ?_
                    refine lv_iload_n hx hb d_Model_at_159 rfl (lv_at hl 4 rfl) ?_
                    refine lv_imul hx hb d_Model_at_160 ?_
                    refine lv_iconst (v := 4) hx hb d_Model_at_161 (by decide) ?_
                    refine lv_iload hx hb d_Model_at_162 (lv_at hl 0 rfl) ?_
                    refine lv_imul hx hb d_Model_at_164 ?_
                    refine lv_iadd hx hb d_Model_at_165 ?_
                    refine lv_iload_n hx hb d_Model_at_166 rfl (lv_at hl 1 rfl) ?_
                    refine lv_iadd hx hb d_Model_at_167 ?_
                    obtain ⟨j168, hj168, hf⟩ := ob hf
                    refine k_iald hx hb hK hP 5 0 (by decide) (TLD_at) rfl hj168 d_Model_at_168 ?_
                    refine lv_istore (lv' := [(5, .int (r140.2 5 0 0 j168)), (4, .int r140.1), (3, .int s0_80), (0, .ref (ad 0)), (1, .int a), (2, .int b)]) hx hb d_Model_at_169 hl (by decide) rfl (fun ls hl => ?_)
                    refine lv_iload hx hb d_Model_at_171 (lv_at hl 0 rfl) ?_
                    refine lv_if_ne (tgt := 192) hx hb d_Model_at_173 (by decide) (fun h173 => ?_) (fun h173 => ?_)
                    · rw [if_neg h173] at hf
                      refine lv_aload_n hx hb d_Model_at_192 rfl (lv_at hl 3 rfl) ?_
                      refine lv_iload hx hb d_Model_at_193 (lv_at hl 0 rfl) ?_
                      refine m_put (t := 0) (a := 0) (b := 0) (x := (r140.2 5 0 0 j168)) (ci := 5) (C := R_Model) (T := F_Model) (N := 24) hx hb hts in_Model t_Model ty_Model nm_Model hown hK hP hA hS tJ 0 (by decide) (Model_fs ad) (fun _ => rfl) ⟨rfl, rfl, rfl⟩ rfl 17 (by decide) (hts _ fl_Model_132) rfl (by decide +kernel) (fun _ => ⟨Nat.le_of_ble_eq_true rfl, rfl⟩) d_Model_at_195 (fun H locs hP hS => ?_)
                      refine lv_aload_n hx hb d_Model_at_198 rfl (lv_at hl 3 rfl) ?_
                      refine va_get (D := D) (ci := 5) (v := .int ((mset r140.2 0 0 0 17 (r140.2 5 0 0 j168)) 0 0 0 19)) (C := R_Model) (T := F_Model) (N := 24) hx hb hts in_Model hown hK hP 0 (wl_to (by decide) (MO_at)) rfl 19 (by decide) (hts _ fl_Model_138) (fun _ h => h) rfl d_Model_at_199 ?_
                      refine lv_iconst (v := 1) hx hb d_Model_at_202 (by decide) ?_
                      refine lv_icmp_ne (tgt := 210) hx hb d_Model_at_203 (by decide) (fun h203 => ?_) (fun h203 => ?_)
                      · rw [if_neg h203] at hf
                        refine lv_bipush (v := 8) hx hb d_Model_at_210 (by decide) ?_
                        refine lv_iload hx hb d_Model_at_212 (lv_at hl 1 rfl) ?_
                        refine lv_iadd hx hb d_Model_at_214 ?_
                        cases hf
                        exact w_iret hx hb hr hlk hP hS d_Model_at_215
                      · rw [if_pos h203] at hf
                        refine lv_iconst (v := 2) hx hb d_Model_at_206 (by decide) ?_
                        refine lv_goto (tgt := 215) hx hb d_Model_at_207 (by decide) ?_
                        cases hf
                        exact w_iret hx hb hr hlk hP hS d_Model_at_215
                    · rw [if_pos h173] at hf
                      refine lv_aload_n hx hb d_Model_at_176 rfl (lv_at hl 3 rfl) ?_
                      refine va_get (D := D) (ci := 5) (v := .int (r140.2 0 0 0 17)) (C := R_Model) (T := F_Model) (N := 24) hx hb hts in_Model hown hK hP 0 (wl_to (by decide) (MO_at)) rfl 17 (by decide) (hts _ fl_Model_132) (fun _ h => h) rfl d_Model_at_177 ?_
                      refine lv_if_gt (tgt := 190) hx hb d_Model_at_180 (by decide) (fun h180 => ?_) (fun h180 => ?_)
                      · rw [if_pos h180] at hf
                        refine lv_iconst (v := 4) hx hb d_Model_at_190 (by decide) ?_
                        cases hf
                        exact w_iret hx hb hr hlk hP hS d_Model_at_191
                      · rw [if_neg h180] at hf
                        refine lv_aload_n hx hb d_Model_at_183 rfl (lv_at hl 3 rfl) ?_
                        refine va_get (D := D) (ci := 5) (v := .int (r140.2 0 0 0 18)) (C := R_Model) (T := F_Model) (N := 24) hx hb hts in_Model hown hK hP 0 (wl_to (by decide) (MO_at)) rfl 18 (by decide) (hts _ fl_Model_135) (fun _ h => h) rfl d_Model_at_184 ?_
                        refine lv_if_le (tgt := 192) hx hb d_Model_at_187 (by decide) (fun h187 => ?_) (fun h187 => ?_)
                        · rw [if_pos h187] at hf
                          refine lv_aload_n hx hb d_Model_at_192 rfl (lv_at hl 3 rfl) ?_
                          refine lv_iload hx hb d_Model_at_193 (lv_at hl 0 rfl) ?_
                          refine m_put (t := 0) (a := 0) (b := 0) (x := (r140.2 5 0 0 j168)) (ci := 5) (C := R_Model) (T := F_Model) (N := 24) hx hb hts in_Model t_Model ty_Model nm_Model hown hK hP hA hS tJ 0 (by decide) (Model_fs ad) (fun _ => rfl) ⟨rfl, rfl, rfl⟩ rfl 17 (by decide) (hts _ fl_Model_132) rfl (by decide +kernel) (fun _ => ⟨Nat.le_of_ble_eq_true rfl, rfl⟩) d_Model_at_195 (fun H locs hP hS => ?_)
                          refine lv_aload_n hx hb d_Model_at_198 rfl (lv_at hl 3 rfl) ?_
                          refine va_get (D := D) (ci := 5) (v := .int ((mset r140.2 0 0 0 17 (r140.2 5 0 0 j168)) 0 0 0 19)) (C := R_Model) (T := F_Model) (N := 24) hx hb hts in_Model hown hK hP 0 (wl_to (by decide) (MO_at)) rfl 19 (by decide) (hts _ fl_Model_138) (fun _ h => h) rfl d_Model_at_199 ?_
                          refine lv_iconst (v := 1) hx hb d_Model_at_202 (by decide) ?_
                          refine lv_icmp_ne (tgt := 210) hx hb d_Model_at_203 (by decide) (fun h203 => ?_) (fun h203 => ?_)
                          · rw [if_neg h203] at hf
                            refine lv_bipush (v := 8) hx hb d_Model_at_210 (by decide) ?_
                            refine lv_iload hx hb d_Model_at_212 (lv_at hl 1 rfl) ?_
                            refine lv_iadd hx hb d_Model_at_214 ?_
                            cases hf
                            exact w_iret hx hb hr hlk hP hS d_Model_at_215
                          · rw [if_pos h203] at hf
                            refine lv_iconst (v := 2) hx hb d_Model_at_206 (by decide) ?_
                            refine lv_goto (tgt := 215) hx hb d_Model_at_207 (by decide) ?_
                            cases hf
                            exact w_iret hx hb hr hlk hP hS d_Model_at_215
                        · rw [if_neg h187] at hf
                          refine lv_iconst (v := 4) hx hb d_Model_at_190 (by decide) ?_
                          cases hf
                          exact w_iret hx hb hr hlk hP hS d_Model_at_191
                  · rw [if_pos h148] at hf
                    refine lv_iconst (v := 1) hx hb d_Model_at_151 (by decide) ?_
                    cases hf
                    exact w_iret hx hb hr hlk hP hS d_Model_at_152
                · rw [if_pos h122] at hf
                  refine lv_aload_n hx hb d_Model_at_125 rfl (lv_at hl 3 rfl) ?_
                  refine va_get (D := D) (ci := 5) (v := .ref (ad 2)) (C := R_Model) (T := F_Model) (N := 24) hx hb hts in_Model hown hK hP 0 (wl_to (by decide) (MO_at)) rfl 3 (by decide) (hts _ fl_Model_13) (fun _ h => h) rfl d_Model_at_126 ?_
                  refine lv_iload_n hx hb d_Model_at_129 rfl (lv_at hl 0 rfl) ?_
                  obtain ⟨j130, hj130, hf⟩ := ob hf
                  refine k_iald hx hb hK hP 2 0 (by decide) (OWN_at) rfl hj130 d_Model_at_130 ?_
                  refine lv_iload_n hx hb d_Model_at_131 rfl (lv_at hl 4 rfl) ?_
                  refine lv_icmp_ne (tgt := 137) hx hb d_Model_at_132 (by decide) (fun h132 => ?_) (fun h132 => ?_)
                  · rw [if_neg h132] at hf
                    refine lv_aload_n hx hb d_Model_at_137 rfl (lv_at hl 3 rfl) ?_
                    refine lv_iload_n hx hb d_Model_at_138 rfl (lv_at hl 4 rfl) ?_
                    refine lv_iload_n hx hb d_Model_at_139 rfl (lv_at hl 0 rfl) ?_
                    obtain ⟨r140, hc140, hf⟩ := ob hf
                    refine k_wri (k_vir S (c_Model_nextOf (l := l) (D := D) (ad := ad) (G := G) hc140) g_Model_86 hd_Model_nextOf ⟨rfl, rfl⟩ ⟨Nat.le_of_ble_eq_true rfl, Nat.le_of_ble_eq_true rfl⟩ wl_blind (va_recv hK hP rfl (wl_to (by decide) (MO_at))) (wl_pre hP hK hA) rfl hl.1 rfl (Nat.le_of_ble_eq_true rfl) d_Model_at_140 (Nat.zero_le _) (Nat.zero_le _)) hS (fun _ h => h) (fun H locs hP _ _ hS => ?_)
                    refine lv_istore (lv' := [(4, .int r140.1), (3, .int s0_80), (5, .int s0_47), (0, .ref (ad 0)), (1, .int a), (2, .int b)]) hx hb d_Model_at_143 hl (by decide) rfl (fun ls hl => ?_)
                    refine lv_iload hx hb d_Model_at_145 (lv_at hl 0 rfl) ?_
                    refine lv_iconst (v := (-1)) hx hb d_Model_at_147 (by decide) ?_
                    refine lv_icmp_ne (tgt := 153) hx hb d_Model_at_148 (by decide) (fun h148 => ?_) (fun h148 => ?_)
                    · rw [if_neg h148] at hf
                      refine lv_aload_n hx hb d_Model_at_153 rfl (lv_at hl 3 rfl) ?_
                      refine va_get (D := D) (ci := 5) (v := .ref (ad 5)) (C := R_Model) (T := F_Model) (N := 24) hx hb hts in_Model hown hK hP 0 (wl_to (by decide) (MO_at)) rfl 6 (by decide) (hts _ fl_Model_22) (fun _ h => h) rfl d_Model_at_154 ?_
                      refine lv_bipush (v := 24) hx hb d_Model_at_157 (by decide) ?_
                      refine lv_iload_n hx hb d_Model_at_159 rfl (lv_at hl 4 rfl) ?_
                      refine lv_imul hx hb d_Model_at_160 ?_
                      refine lv_iconst (v := 4) hx hb d_Model_at_161 (by decide) ?_
                      refine lv_iload hx hb d_Model_at_162 (lv_at hl 0 rfl) ?_
                      refine lv_imul hx hb d_Model_at_164 ?_
                      refine lv_iadd hx hb d_Model_at_165 ?_
                      refine lv_iload_n hx hb d_Model_at_166 rfl (lv_at hl 1 rfl) ?_
                      refine lv_iadd hx hb d_Model_at_167 ?_
                      obtain ⟨j168, hj168, hf⟩ := ob hf
                      refine k_iald hx hb hK hP 5 0 (by decide) (TLD_at) rfl hj168 d_Model_at_168 ?_
                      refine lv_istore (lv' := [(5, .int (r140.2 5 0 0 j168)), (4, .int r140.1), (3, .int s0_80), (0, .ref (ad 0)), (1, .int a), (2, .int b)]) hx hb d_Model_at_169 hl (by decide) rfl (fun ls hl => ?_)
                      refine lv_iload hx hb d_Model_at_171 (lv_at hl 0 rfl) ?_
                      refine lv_if_ne (tgt := 192) hx hb d_Model_at_173 (by decide) (fun h173 => ?_) (fun h173 => ?_)
                      · rw [if_neg h173] at hf
                        refine lv_aload_n hx hb d_Model_at_192 rfl (lv_at hl 3 rfl) ?_
                        refine lv_iload hx hb d_Model_at_193 (lv_at hl 0 rfl) ?_
                        refine m_put (t := 0) (a := 0) (b := 0) (x := (r140.2 5 0 0 j168)) (ci := 5) (C := R_Model) (T := F_Model) (N := 24) hx hb hts in_Model t_Model ty_Model nm_Model hown hK hP hA hS tJ 0 (by decide) (Model_fs ad) (fun _ => rfl) ⟨rfl, rfl, rfl⟩ rfl 17 (by decide) (hts _ fl_Model_132) rfl (by decide +kernel) (fun _ => ⟨Nat.le_of_ble_eq_true rfl, rfl⟩) d_Model_at_195 (fun H locs hP hS => ?_)
                        refine lv_aload_n hx hb d_Model_at_198 rfl (lv_at hl 3 rfl) ?_
                        refine va_get (D := D) (ci := 5) (v := .int ((mset r140.2 0 0 0 17 (r140.2 5 0 0 j168)) 0 0 0 19)) (C := R_Model) (T := F_Model) (N := 24) hx hb hts in_Model hown hK hP 0 (wl_to (by decide) (MO_at)) rfl 19 (by decide) (hts _ fl_Model_138) (fun _ h => h) rfl d_Model_at_199 ?_
                        refine lv_iconst (v := 1) hx hb d_Model_at_202 (by decide) ?_
                        refine lv_icmp_ne (tgt := 210) hx hb d_Model_at_203 (by decide) (fun h203 => ?_) (fun h203 => ?_)
                        · rw [if_neg h203] at hf
                          refine lv_bipush (v := 8) hx hb d_Model_at_210 (by decide) ?_
                          refine lv_iload hx hb d_Model_at_212 (lv_at hl 1 rfl) ?_
                          refine lv_iadd hx hb d_Model_at_214 ?_
                          cases hf
                          exact w_iret hx hb hr hlk hP hS d_Model_at_215
                        · rw [if_pos h203] at hf
                          refine lv_iconst (v := 2) hx hb d_Model_at_206 (by decide) ?_
                          refine lv_goto (tgt := 215) hx hb d_Model_at_207 (by decide) ?_
                          cases hf
                          exact w_iret hx hb hr hlk hP hS d_Model_at_215
                      · rw [if_pos h173] at hf
                        refine lv_aload_n hx hb d_Model_at_176 rfl (lv_at hl 3 rfl) ?_
                        refine va_get (D := D) (ci := 5) (v := .int (r140.2 0 0 0 17)) (C := R_Model) (T := F_Model) (N := 24) hx hb hts in_Model hown hK hP 0 (wl_to (by decide) (MO_at)) rfl 17 (by decide) (hts _ fl_Model_132) (fun _ h => h) rfl d_Model_at_177 ?_
                        refine lv_if_gt (tgt := 190) hx hb d_Model_at_180 (by decide) (fun h180 => ?_) (fun h180 => ?_)
                        · rw [if_pos h180] at hf
                          refine lv_iconst (v := 4) hx hb d_Model_at_190 (by decide) ?_
                          cases hf
                          exact w_iret hx hb hr hlk hP hS d_Model_at_191
                        · rw [if_neg h180] at hf
                          refine lv_aload_n hx hb d_Model_at_183 rfl (lv_at hl 3 rfl) ?_
                          refine va_get (D := D) (ci := 5) (v := .int (r140.2 0 0 0 18)) (C := R_Model) (T := F_Model) (N := 24) hx hb hts in_Model hown hK hP 0 (wl_to (by decide) (MO_at)) rfl 18 (by decide) (hts _ fl_Model_135) (fun _ h => h) rfl d_Model_at_184 ?_
                          refine lv_if_le (tgt := 192) hx hb d_Model_at_187 (by decide) (fun h187 => ?_) (fun h187 => ?_)
                          · rw [if_pos h187] at hf
                            refine lv_aload_n hx hb d_Model_at_192 rfl (lv_at hl 3 rfl) ?_
                            refine lv_iload hx hb d_Model_at_193 (lv_at hl 0 rfl) ?_
                            refine m_put (t := 0) (a := 0) (b := 0) (x := (r140.2 5 0 0 j168)) (ci := 5) (C := R_Model) (T := F_Model) (N := 24) hx hb hts in_Model t_Model ty_Model nm_Model hown hK hP hA hS tJ 0 (by decide) (Model_fs ad) (fun _ => rfl) ⟨rfl, rfl, rfl⟩ rfl 17 (by decide) (hts _ fl_Model_132) rfl (by decide +kernel) (fun _ => ⟨Nat.le_of_ble_eq_true rfl, rfl⟩) d_Model_at_195 (fun H locs hP hS => ?_)
                            refine lv_aload_n hx hb d_Model_at_198 rfl (lv_at hl 3 rfl) ?_
                            refine va_get (D := D) (ci := 5) (v := .int ((mset r140.2 0 0 0 17 (r140.2 5 0 0 j168)) 0 0 0 19)) (C := R_Model) (T := F_Model) (N := 24) hx hb hts in_Model hown hK hP 0 (wl_to (by decide) (MO_at)) rfl 19 (by decide) (hts _ fl_Model_138) (fun _ h => h) rfl d_Model_at_199 ?_
                            refine lv_iconst (v := 1) hx hb d_Model_at_202 (by decide) ?_
                            refine lv_icmp_ne (tgt := 210) hx hb d_Model_at_203 (by decide) (fun h203 => ?_) (fun h203 => ?_)
                            · rw [if_neg h203] at hf
                              refine lv_bipush (v := 8) hx hb d_Model_at_210 (by decide) ?_
                              refine lv_iload hx hb d_Model_at_212 (lv_at hl 1 rfl) ?_
                              refine lv_iadd hx hb d_Model_at_214 ?_
                              cases hf
                              exact w_iret hx hb hr hlk hP hS d_Model_at_215
                            · rw [if_pos h203] at hf
                              refine lv_iconst (v := 2) hx hb d_Model_at_206 (by decide) ?_
                              refine lv_goto (tgt := 215) hx hb d_Model_at_207 (by decide) ?_
                              cases hf
                              exact w_iret hx hb hr hlk hP hS d_Model_at_215
                          · rw [if_neg h187] at hf
                            refine lv_iconst (v := 4) hx hb d_Model_at_190 (by decide) ?_
                            cases hf
                            exact w_iret hx hb hr hlk hP hS d_Model_at_191
                    · rw [if_pos h148] at hf
                      refine lv_iconst (v := 1) hx hb d_Model_at_151 (by decide) ?_
                      cases hf
                      exact w_iret hx hb hr hlk hP hS d_Model_at_152
                  · rw [if_pos h132] at hf
                    refine lv_iconst (v := 0) hx hb d_Model_at_135 (by decide) ?_
                    cases hf
                    exact w_iret hx hb hr hlk hP hS d_Model_at_136
              · rw [if_neg h92] at hf
                refine lv_iload_n hx hb d_Model_at_95 rfl (lv_at hl 5 rfl) ?_
                refine lv_if_eq (tgt := 112) hx hb d_Model_at_96 (by decide) (fun h96 => ?_) (fun h96 => ?_)
                · rw [if_pos h96] at hf
                  refine lv_aload_n hx hb d_Model_at_112 rfl (lv_at hl 3 rfl) ?_
                  refine lv_iload_n hx hb d_Model_at_113 rfl (lv_at hl 4 rfl) ?_
                  obtain ⟨r114, hc114, hf⟩ := ob hf
                  refine k_rdi (k_vir S (c_Model_looked (l := l) (D := D) (ad := ad) (G := G) hc114) g_Model_150 hd_Model_looked ⟨rfl, rfl⟩ ⟨Nat.le_of_ble_eq_true rfl, Nat.le_of_ble_eq_true rfl⟩ wl_blind (va_recv hK hP rfl (wl_to (by decide) (MO_at))) (wl_pre hP hK hA) rfl hl.1 rfl (Nat.le_of_ble_eq_true rfl) d_Model_at_114 (Nat.zero_le _) (Nat.zero_le _)) ?_
                  cases hf
                  exact w_iret hx hb hr hlk hP hS d_Model_at_117
                · rw [if_neg h96] at hf
                  refine lv_aload_n hx hb d_Model_at_99 rfl (lv_at hl 3 rfl) ?_
                  refine va_get (D := D) (ci := 5) (v := .ref (ad 2)) (C := R_Model) (T := F_Model) (N := 24) hx hb hts in_Model hown hK hP 0 (wl_to (by decide) (MO_at)) rfl 3 (by decide) (hts _ fl_Model_13) (fun _ h => h) rfl d_Model_at_100 ?_
                  refine lv_aload_n hx hb d_Model_at_103 rfl (lv_at hl 3 rfl) ?_
                  refine va_get (D := D) (ci := 5) (v := .int ((mset M 0 0 0 17 s0_63) 0 0 0 16)) (C := R_Model) (T := F_Model) (N := 24) hx hb hts in_Model hown hK hP 0 (wl_to (by decide) (MO_at)) rfl 16 (by decide) (hts _ fl_Model_144) (fun _ h => h) rfl d_Model_at_104 ?_
                  obtain ⟨j107, hj107, hf⟩ := ob hf
                  refine k_iald hx hb hK hP 2 0 (by decide) (OWN_at) rfl hj107 d_Model_at_107 ?_
                  refine lv_iload_n hx hb d_Model_at_108 rfl (lv_at hl 4 rfl) ?_
                  refine lv_icmp_ne (tgt := 118) hx hb d_Model_at_109 (by decide) (fun h109 => ?_) (fun h109 => ?_)
                  · rw [if_neg h109] at hf
                    refine lv_aload_n hx hb d_Model_at_118 rfl (lv_at hl 3 rfl) ?_
                    refine va_get (D := D) (ci := 5) (v := .int ((mset M 0 0 0 17 s0_63) 0 0 0 17)) (C := R_Model) (T := F_Model) (N := 24) hx hb hts in_Model hown hK hP 0 (wl_to (by decide) (MO_at)) rfl 17 (by decide) (hts _ fl_Model_132) (fun _ h => h) rfl d_Model_at_119 ?_
                    refine lv_if_ne (tgt := 137) hx hb d_Model_at_122 (by decide) (fun h122 => ?_) (fun h122 => ?_)
                    · rw [if_neg h122] at hf
                      refine lv_aload_n hx hb d_Model_at_137 rfl (lv_at hl 3 rfl) ?_
                      refine lv_iload_n hx hb d_Model_at_138 rfl (lv_at hl 4 rfl) ?_
                      refine lv_iload_n hx hb d_Model_at_139 rfl (lv_at hl 0 rfl) ?_
                      obtain ⟨r140, hc140, hf⟩ := ob hf
                      refine k_wri (k_vir S (c_Model_nextOf (l := l) (D := D) (ad := ad) (G := G) hc140) g_Model_86 hd_Model_nextOf ⟨rfl, rfl⟩ ⟨Nat.le_of_ble_eq_true rfl, Nat.le_of_ble_eq_true rfl⟩ wl_blind (va_recv hK hP rfl (wl_to (by decide) (MO_at))) (wl_pre hP hK hA) rfl hl.1 rfl (Nat.le_of_ble_eq_true rfl) d_Model_at_140 (Nat.zero_le _) (Nat.zero_le _)) hS (fun _ h => h) (fun H locs hP _ _ hS => ?_)
                      refine lv_istore (lv' := [(4, .int r140.1), (3, .int s0_80), (5, .int s0_47), (0, .ref (ad 0)), (1, .int a), (2, .int b)]) hx hb d_Model_at_143 hl (by decide) rfl (fun ls hl => ?_)
                      refine lv_iload hx hb d_Model_at_145 (lv_at hl 0 rfl) ?_
                      refine lv_iconst (v := (-1)) hx hb d_Model_at_147 (by decide) ?_
                      refine lv_icmp_ne (tgt := 153) hx hb d_Model_at_148 (by decide) (fun h148 => ?_) (fun h148 => ?_)
                      · rw [if_neg h148] at hf
                        refine lv_aload_n hx hb d_Model_at_153 rfl (lv_at hl 3 rfl) ?_
                        refine va_get (D := D) (ci := 5) (v := .ref (ad 5)) (C := R_Model) (T := F_Model) (N := 24) hx hb hts in_Model hown hK hP 0 (wl_to (by decide) (MO_at)) rfl 6 (by decide) (hts _ fl_Model_22) (fun _ h => h) rfl d_Model_at_154 ?_
                        refine lv_bipush (v := 24) hx hb d_Model_at_157 (by decide) ?_
                        refine lv_iload_n hx hb d_Model_at_159 rfl (lv_at hl 4 rfl) ?_
                        refine lv_imul hx hb d_Model_at_160 ?_
                        refine lv_iconst (v := 4) hx hb d_Model_at_161 (by decide) ?_
                        refine lv_iload hx hb d_Model_at_162 (lv_at hl 0 rfl) ?_
                        refine lv_imul hx hb d_Model_at_164 ?_
                        refine lv_iadd hx hb d_Model_at_165 ?_
                        refine lv_iload_n hx hb d_Model_at_166 rfl (lv_at hl 1 rfl) ?_
                        refine lv_iadd hx hb d_Model_at_167 ?_
                        obtain ⟨j168, hj168, hf⟩ := ob hf
                        refine k_iald hx hb hK hP 5 0 (by decide) (TLD_at) rfl hj168 d_Model_at_168 ?_
                        refine lv_istore (lv' := [(5, .int (r140.2 5 0 0 j168)), (4, .int r140.1), (3, .int s0_80), (0, .ref (ad 0)), (1, .int a), (2, .int b)]) hx hb d_Model_at_169 hl (by decide) rfl (fun ls hl => ?_)
                        refine lv_iload hx hb d_Model_at_171 (lv_at hl 0 rfl) ?_
                        refine lv_if_ne (tgt := 192) hx hb d_Model_at_173 (by decide) (fun h173 => ?_) (fun h173 => ?_)
                        · rw [if_neg h173] at hf
                          refine lv_aload_n hx hb d_Model_at_192 rfl (lv_at hl 3 rfl) ?_
                          refine lv_iload hx hb d_Model_at_193 (lv_at hl 0 rfl) ?_
                          refine m_put (t := 0) (a := 0) (b := 0) (x := (r140.2 5 0 0 j168)) (ci := 5) (C := R_Model) (T := F_Model) (N := 24) hx hb hts in_Model t_Model ty_Model nm_Model hown hK hP hA hS tJ 0 (by decide) (Model_fs ad) (fun _ => rfl) ⟨rfl, rfl, rfl⟩ rfl 17 (by decide) (hts _ fl_Model_132) rfl (by decide +kernel) (fun _ => ⟨Nat.le_of_ble_eq_true rfl, rfl⟩) d_Model_at_195 (fun H locs hP hS => ?_)
                          refine lv_aload_n hx hb d_Model_at_198 rfl (lv_at hl 3 rfl) ?_
                          refine va_get (D := D) (ci := 5) (v := .int ((mset r140.2 0 0 0 17 (r140.2 5 0 0 j168)) 0 0 0 19)) (C := R_Model) (T := F_Model) (N := 24) hx hb hts in_Model hown hK hP 0 (wl_to (by decide) (MO_at)) rfl 19 (by decide) (hts _ fl_Model_138) (fun _ h => h) rfl d_Model_at_199 ?_
                          refine lv_iconst (v := 1) hx hb d_Model_at_202 (by decide) ?_
                          refine lv_icmp_ne (tgt := 210) hx hb d_Model_at_203 (by decide) (fun h203 => ?_) (fun h203 => ?_)
                          · rw [if_neg h203] at hf
                            refine lv_bipush (v := 8) hx hb d_Model_at_210 (by decide) ?_
                            refine lv_iload hx hb d_Model_at_212 (lv_at hl 1 rfl) ?_
                            refine lv_iadd hx hb d_Model_at_214 ?_
                            cases hf
                            exact w_iret hx hb hr hlk hP hS d_Model_at_215
                          · rw [if_pos h203] at hf
                            refine lv_iconst (v := 2) hx hb d_Model_at_206 (by decide) ?_
                            refine lv_goto (tgt := 215) hx hb d_Model_at_207 (by decide) ?_
                            cases hf
                            exact w_iret hx hb hr hlk hP hS d_Model_at_215
                        · rw [if_pos h173] at hf
                          refine lv_aload_n hx hb d_Model_at_176 rfl (lv_at hl 3 rfl) ?_
                          refine va_get (D := D) (ci := 5) (v := .int (r140.2 0 0 0 17)) (C := R_Model) (T := F_Model) (N := 24) hx hb hts in_Model hown hK hP 0 (wl_to (by decide) (MO_at)) rfl 17 (by decide) (hts _ fl_Model_132) (fun _ h => h) rfl d_Model_at_177 ?_
                          refine lv_if_gt (tgt := 190) hx hb d_Model_at_180 (by decide) (fun h180 => ?_) (fun h180 => ?_)
                          · rw [if_pos h180] at hf
                            refine lv_iconst (v := 4) hx hb d_Model_at_190 (by decide) ?_
                            cases hf
                            exact w_iret hx hb hr hlk hP hS d_Model_at_191
                          · rw [if_neg h180] at hf
                            refine lv_aload_n hx hb d_Model_at_183 rfl (lv_at hl 3 rfl) ?_
                            refine va_get (D := D) (ci := 5) (v := .int (r140.2 0 0 0 18)) (C := R_Model) (T := F_Model) (N := 24) hx hb hts in_Model hown hK hP 0 (wl_to (by decide) (MO_at)) rfl 18 (by decide) (hts _ fl_Model_135) (fun _ h => h) rfl d_Model_at_184 ?_
                            refine lv_if_le (tgt := 192) hx hb d_Model_at_187 (by decide) (fun h187 => ?_) (fun h187 => ?_)
                            · rw [if_pos h187] at hf
                              refine lv_aload_n hx hb d_Model_at_192 rfl (lv_at hl 3 rfl) ?_
                              refine lv_iload hx hb d_Model_at_193 (lv_at hl 0 rfl) ?_
                              refine m_put (t := 0) (a := 0) (b := 0) (x := (r140.2 5 0 0 j168)) (ci := 5) (C := R_Model) (T := F_Model) (N := 24) hx hb hts in_Model t_Model ty_Model nm_Model hown hK hP hA hS tJ 0 (by decide) (Model_fs ad) (fun _ => rfl) ⟨rfl, rfl, rfl⟩ rfl 17 (by decide) (hts _ fl_Model_132) rfl (by decide +kernel) (fun _ => ⟨Nat.le_of_ble_eq_true rfl, rfl⟩) d_Model_at_195 (fun H locs hP hS => ?_)
                              refine lv_aload_n hx hb d_Model_at_198 rfl (lv_at hl 3 rfl) ?_
                              refine va_get (D := D) (ci := 5) (v := .int ((mset r140.2 0 0 0 17 (r140.2 5 0 0 j168)) 0 0 0 19)) (C := R_Model) (T := F_Model) (N := 24) hx hb hts in_Model hown hK hP 0 (wl_to (by decide) (MO_at)) rfl 19 (by decide) (hts _ fl_Model_138) (fun _ h => h) rfl d_Model_at_199 ?_
                              refine lv_iconst (v := 1) hx hb d_Model_at_202 (by decide) ?_
                              refine lv_icmp_ne (tgt := 210) hx hb d_Model_at_203 (by decide) (fun h203 => ?_) (fun h203 => ?_)
                              · rw [if_neg h203] at hf
                                refine lv_bipush (v := 8) hx hb d_Model_at_210 (by decide) ?_
                                refine lv_iload hx hb d_Model_at_212 (lv_at hl 1 rfl) ?_
                                refine lv_iadd hx hb d_Model_at_214 ?_
                                cases hf
                                exact w_iret hx hb hr hlk hP hS d_Model_at_215
                              · rw [if_pos h203] at hf
                                refine lv_iconst (v := 2) hx hb d_Model_at_206 (by decide) ?_
                                refine lv_goto (tgt := 215) hx hb d_Model_at_207 (by decide) ?_
                                cases hf
                                exact w_iret hx hb hr hlk hP hS d_Model_at_215
                            · rw [if_neg h187] at hf
                              refine lv_iconst (v := 4) hx hb d_Model_at_190 (by decide) ?_
                              cases hf
                              exact w_iret hx hb hr hlk hP hS d_Model_at_191
                      · rw [if_pos h148] at hf
                        refine lv_iconst (v := 1) hx hb d_Model_at_151 (by decide) ?_
                        cases hf
                        exact w_iret hx hb hr hlk hP hS d_Model_at_152
                    · rw [if_pos h122] at hf
                      refine lv_aload_n hx hb d_Model_at_125 rfl (lv_at hl 3 rfl) ?_
                      refine va_get (D := D) (ci := 5) (v := .ref (ad 2)) (C := R_Model) (T := F_Model) (N := 24) hx hb hts in_Model hown hK hP 0 (wl_to (by decide) (MO_at)) rfl 3 (by decide) (hts _ fl_Model_13) (fun _ h => h) rfl d_Model_at_126 ?_
                      refine lv_iload_n hx hb d_Model_at_129 rfl (lv_at hl 0 rfl) ?_
                      obtain ⟨j130, hj130, hf⟩ := ob hf
                      refine k_iald hx hb hK hP 2 0 (by decide) (OWN_at) rfl hj130 d_Model_at_130 ?_
                      refine lv_iload_n hx hb d_Model_at_131 rfl (lv_at hl 4 rfl) ?_
                      refine lv_icmp_ne (tgt := 137) hx hb d_Model_at_132 (by decide) (fun h132 => ?_) (fun h132 => ?_)
                      · rw [if_neg h132] at hf
                        refine lv_aload_n hx hb d_Model_at_137 rfl (lv_at hl 3 rfl) ?_
                        refine lv_iload_n hx hb d_Model_at_138 rfl (lv_at hl 4 rfl) ?_
                        refine lv_iload_n hx hb d_Model_at_139 rfl (lv_at hl 0 rfl) ?_
                        obtain ⟨r140, hc140, hf⟩ := ob hf
                        refine k_wri (k_vir S (c_Model_nextOf (l := l) (D := D) (ad := ad) (G := G) hc140) g_Model_86 hd_Model_nextOf ⟨rfl, rfl⟩ ⟨Nat.le_of_ble_eq_true rfl, Nat.le_of_ble_eq_true rfl⟩ wl_blind (va_recv hK hP rfl (wl_to (by decide) (MO_at))) (wl_pre hP hK hA) rfl hl.1 rfl (Nat.le_of_ble_eq_true rfl) d_Model_at_140 (Nat.zero_le _) (Nat.zero_le _)) hS (fun _ h => h) (fun H locs hP _ _ hS => ?_)
                        refine lv_istore (lv' := [(4, .int r140.1), (3, .int s0_80), (5, .int s0_47), (0, .ref (ad 0)), (1, .int a), (2, .int b)]) hx hb d_Model_at_143 hl (by decide) rfl (fun ls hl => ?_)
                        refine lv_iload hx hb d_Model_at_145 (lv_at hl 0 rfl) ?_
                        refine lv_iconst (v := (-1)) hx hb d_Model_at_147 (by decide) ?_
                        refine lv_icmp_ne (tgt := 153) hx hb d_Model_at_148 (by decide) (fun h148 => ?_) (fun h148 => ?_)
                        · rw [if_neg h148] at hf
                          refine lv_aload_n hx hb d_Model_at_153 rfl (lv_at hl 3 rfl) ?_
                          refine va_get (D := D) (ci := 5) (v := .ref (ad 5)) (C := R_Model) (T := F_Model) (N := 24) hx hb hts in_Model hown hK hP 0 (wl_to (by decide) (MO_at)) rfl 6 (by decide) (hts _ fl_Model_22) (fun _ h => h) rfl d_Model_at_154 ?_
                          refine lv_bipush (v := 24) hx hb d_Model_at_157 (by decide) ?_
                          refine lv_iload_n hx hb d_Model_at_159 rfl (lv_at hl 4 rfl) ?_
                          refine lv_imul hx hb d_Model_at_160 ?_
                          refine lv_iconst (v := 4) hx hb d_Model_at_161 (by decide) ?_
                          refine lv_iload hx hb d_Model_at_162 (lv_at hl 0 rfl) ?_
                          refine lv_imul hx hb d_Model_at_164 ?_
                          refine lv_iadd hx hb d_Model_at_165 ?_
                          refine lv_iload_n hx hb d_Model_at_166 rfl (lv_at hl 1 rfl) ?_
                          refine lv_iadd hx hb d_Model_at_167 ?_
                          obtain ⟨j168, hj168, hf⟩ := ob hf
                          refine k_iald hx hb hK hP 5 0 (by decide) (TLD_at) rfl hj168 d_Model_at_168 ?_
                          refine lv_istore (lv' := [(5, .int (r140.2 5 0 0 j168)), (4, .int r140.1), (3, .int s0_80), (0, .ref (ad 0)), (1, .int a), (2, .int b)]) hx hb d_Model_at_169 hl (by decide) rfl (fun ls hl => ?_)
                          refine lv_iload hx hb d_Model_at_171 (lv_at hl 0 rfl) ?_
                          refine lv_if_ne (tgt := 192) hx hb d_Model_at_173 (by decide) (fun h173 => ?_) (fun h173 => ?_)
                          · rw [if_neg h173] at hf
                            refine lv_aload_n hx hb d_Model_at_192 rfl (lv_at hl 3 rfl) ?_
                            refine lv_iload hx hb d_Model_at_193 (lv_at hl 0 rfl) ?_
                            refine m_put (t := 0) (a := 0) (b := 0) (x := (r140.2 5 0 0 j168)) (ci := 5) (C := R_Model) (T := F_Model) (N := 24) hx hb hts in_Model t_Model ty_Model nm_Model hown hK hP hA hS tJ 0 (by decide) (Model_fs ad) (fun _ => rfl) ⟨rfl, rfl, rfl⟩ rfl 17 (by decide) (hts _ fl_Model_132) rfl (by decide +kernel) (fun _ => ⟨Nat.le_of_ble_eq_true rfl, rfl⟩) d_Model_at_195 (fun H locs hP hS => ?_)
                            refine lv_aload_n hx hb d_Model_at_198 rfl (lv_at hl 3 rfl) ?_
                            refine va_get (D := D) (ci := 5) (v := .int ((mset r140.2 0 0 0 17 (r140.2 5 0 0 j168)) 0 0 0 19)) (C := R_Model) (T := F_Model) (N := 24) hx hb hts in_Model hown hK hP 0 (wl_to (by decide) (MO_at)) rfl 19 (by decide) (hts _ fl_Model_138) (fun _ h => h) rfl d_Model_at_199 ?_
                            refine lv_iconst (v := 1) hx hb d_Model_at_202 (by decide) ?_
                            refine lv_icmp_ne (tgt := 210) hx hb d_Model_at_203 (by decide) (fun h203 => ?_) (fun h203 => ?_)
                            · rw [if_neg h203] at hf
                              refine lv_bipush (v := 8) hx hb d_Model_at_210 (by decide) ?_
                              refine lv_iload hx hb d_Model_at_212 (lv_at hl 1 rfl) ?_
                              refine lv_iadd hx hb d_Model_at_214 ?_
                              cases hf
                              exact w_iret hx hb hr hlk hP hS d_Model_at_215
                            · rw [if_pos h203] at hf
                              refine lv_iconst (v := 2) hx hb d_Model_at_206 (by decide) ?_
                              refine lv_goto (tgt := 215) hx hb d_Model_at_207 (by decide) ?_
                              cases hf
                              exact w_iret hx hb hr hlk hP hS d_Model_at_215
                          · rw [if_pos h173] at hf
                            refine lv_aload_n hx hb d_Model_at_176 rfl (lv_at hl 3 rfl) ?_
                            refine va_get (D := D) (ci := 5) (v := .int (r140.2 0 0 0 17)) (C := R_Model) (T := F_Model) (N := 24) hx hb hts in_Model hown hK hP 0 (wl_to (by decide) (MO_at)) rfl 17 (by decide) (hts _ fl_Model_132) (fun _ h => h) rfl d_Model_at_177 ?_
                            refine lv_if_gt (tgt := 190) hx hb d_Model_at_180 (by decide) (fun h180 => ?_) (fun h180 => ?_)
                            · rw [if_pos h180] at hf
                              refine lv_iconst (v := 4) hx hb d_Model_at_190 (by decide) ?_
                              cases hf
                              exact w_iret hx hb hr hlk hP hS d_Model_at_191
                            · rw [if_neg h180] at hf
                              refine lv_aload_n hx hb d_Model_at_183 rfl (lv_at hl 3 rfl) ?_
                              refine va_get (D := D) (ci := 5) (v := .int (r140.2 0 0 0 18)) (C := R_Model) (T := F_Model) (N := 24) hx hb hts in_Model hown hK hP 0 (wl_to (by decide) (MO_at)) rfl 18 (by decide) (hts _ fl_Model_135) (fun _ h => h) rfl d_Model_at_184 ?_
                              refine lv_if_le (tgt := 192) hx hb d_Model_at_187 (by decide) (fun h187 => ?_) (fun h187 => ?_)
                              · rw [if_pos h187] at hf
                                refine lv_aload_n hx hb d_Model_at_192 rfl (lv_at hl 3 rfl) ?_
                                refine lv_iload hx hb d_Model_at_193 (lv_at hl 0 rfl) ?_
                                refine m_put (t := 0) (a := 0) (b := 0) (x := (r140.2 5 0 0 j168)) (ci := 5) (C := R_Model) (T := F_Model) (N := 24) hx hb hts in_Model t_Model ty_Model nm_Model hown hK hP hA hS tJ 0 (by decide) (Model_fs ad) (fun _ => rfl) ⟨rfl, rfl, rfl⟩ rfl 17 (by decide) (hts _ fl_Model_132) rfl (by decide +kernel) (fun _ => ⟨Nat.le_of_ble_eq_true rfl, rfl⟩) d_Model_at_195 (fun H locs hP hS => ?_)
                                refine lv_aload_n hx hb d_Model_at_198 rfl (lv_at hl 3 rfl) ?_
                                refine va_get (D := D) (ci := 5) (v := .int ((mset r140.2 0 0 0 17 (r140.2 5 0 0 j168)) 0 0 0 19)) (C := R_Model) (T := F_Model) (N := 24) hx hb hts in_Model hown hK hP 0 (wl_to (by decide) (MO_at)) rfl 19 (by decide) (hts _ fl_Model_138) (fun _ h => h) rfl d_Model_at_199 ?_
                                refine lv_iconst (v := 1) hx hb d_Model_at_202 (by decide) ?_
                                refine lv_icmp_ne (tgt := 210) hx hb d_Model_at_203 (by decide) (fun h203 => ?_) (fun h203 => ?_)
                                · rw [if_neg h203] at hf
                                  refine lv_bipush (v := 8) hx hb d_Model_at_210 (by decide) ?_
                                  refine lv_iload hx hb d_Model_at_212 (lv_at hl 1 rfl) ?_
                                  refine lv_iadd hx hb d_Model_at_214 ?_
                                  cases hf
                                  exact w_iret hx hb hr hlk hP hS d_Model_at_215
                                · rw [if_pos h203] at hf
                                  refine lv_iconst (v := 2) hx hb d_Model_at_206 (by decide) ?_
                                  refine lv_goto (tgt := 215) hx hb d_Model_at_207 (by decide) ?_
                                  cases hf
                                  exact w_iret hx hb hr hlk hP hS d_Model_at_215
                              · rw [if_neg h187] at hf
                                refine lv_iconst (v := 4) hx hb d_Model_at_190 (by decide) ?_
                                cases hf
                                exact w_iret hx hb hr hlk hP hS d_Model_at_191
                        · rw [if_pos h148] at hf
                          refine lv_iconst (v := 1) hx hb d_Model_at_151 (by decide) ?_
                          cases hf
                          exact w_iret hx hb hr hlk hP hS d_Model_at_152
                      · rw [if_pos h132] at hf
                        refine lv_iconst (v := 0) hx hb d_Model_at_135 (by decide) ?_
                        cases hf
                        exact w_iret hx hb hr hlk hP hS d_Model_at_136
                  · rw [if_pos h109] at hf
                    refine lv_aload_n hx hb d_Model_at_112 rfl (lv_at hl 3 rfl) ?_
                    refine lv_iload_n hx hb d_Model_at_113 rfl (lv_at hl 4 rfl) ?_
                    obtain ⟨r114, hc114, hf⟩ := ob hf
                    refine k_rdi (k_vir S (c_Model_looked (l := l) (D := D) (ad := ad) (G := G) hc114) g_Model_150 hd_Model_looked ⟨rfl, rfl⟩ ⟨Nat.le_of_ble_eq_true rfl, Nat.le_of_ble_eq_true rfl⟩ wl_blind (va_recv hK hP rfl (wl_to (by decide) (MO_at))) (wl_pre hP hK hA) rfl hl.1 rfl (Nat.le_of_ble_eq_true rfl) d_Model_at_114 (Nat.zero_le _) (Nat.zero_le _)) ?_
                    cases hf
                    exact w_iret hx hb hr hlk hP hS d_Model_at_117
          refine lv_if_eq (tgt := 78) hx hb d_Model_at_68 (by decide) (fun h68 => ?_) (fun h68 => ?_)
          · rw [if_pos h68] at hf
            refine lv_iload hx hb d_Model_at_78 (lv_at hl 1 rfl) ?_
            exact J80 _ _ (lv_sub hl [0, 1, 2, 3, 4, 5] rfl) hf
          · rw [if_neg h68] at hf
            refine lv_aload_n hx hb d_Model_at_71 rfl (lv_at hl 3 rfl) ?_
            refine va_get (D := D) (ci := 5) (v := .int ((mset M 0 0 0 17 s0_63) 0 0 0 16)) (C := R_Model) (T := F_Model) (N := 24) hx hb hts in_Model hown hK hP 0 (wl_to (by decide) (MO_at)) rfl 16 (by decide) (hts _ fl_Model_144) (fun _ h => h) rfl d_Model_at_72 ?_
            refine lv_goto (tgt := 80) hx hb d_Model_at_75 (by decide) ?_
            exact J80 _ _ (lv_sub hl [0, 1, 2, 3, 4, 5] rfl) hf
        refine lv_if_eq (tgt := 59) hx hb d_Model_at_52 (by decide) (fun h52 => ?_) (fun h52 => ?_)
        · rw [if_pos h52] at hf
          refine lv_aload_n hx hb d_Model_at_59 rfl (lv_at hl 3 rfl) ?_
          refine va_get (D := D) (ci := 5) (v := .int (M 0 0 0 17)) (C := R_Model) (T := F_Model) (N := 24) hx hb hts in_Model hown hK hP 0 (wl_to (by decide) (MO_at)) rfl 17 (by decide) (hts _ fl_Model_132) (fun _ h => h) rfl d_Model_at_60 ?_
          exact J63 _ _ (lv_sub hl [0, 1, 2, 3, 4, 5] rfl) hf
        · rw [if_neg h52] at hf
          refine lv_iconst (v := 0) hx hb d_Model_at_55 (by decide) ?_
          refine lv_goto (tgt := 63) hx hb d_Model_at_56 (by decide) ?_
          exact J63 _ _ (lv_sub hl [0, 1, 2, 3, 4, 5] rfl) hf
      refine lv_icmp_ne (tgt := 46) hx hb d_Model_at_39 (by decide) (fun h39 => ?_) (fun h39 => ?_)
      · rw [if_neg h39] at hf
        refine lv_iconst (v := 0) hx hb d_Model_at_46 (by decide) ?_
        exact J47 _ _ (lv_sub hl [0, 1, 2, 3, 4] rfl) hf
      · rw [if_pos h39] at hf
        refine lv_iconst (v := 1) hx hb d_Model_at_42 (by decide) ?_
        refine lv_goto (tgt := 47) hx hb d_Model_at_43 (by decide) ?_
        exact J47 _ _ (lv_sub hl [0, 1, 2, 3, 4] rfl) hf
    · rw [if_pos h26] at hf
      refine lv_iconst (v := 3) hx hb d_Model_at_29 (by decide) ?_
      cases hf
      exact w_iret hx hb hr hlk hP hS d_Model_at_30
def f_Model_send_109 : Nat → Int32 → Mem → Option (Int32 × Mem)
  | 0, _, _ => none
  | k109 + 1, v5_109, N109 =>
    if v5_109 < 8 then (some (v5_109, N109)) else ((f_Model_arrive (v5_109 - 8) (mset N109 0 0 0 19 ((N109 0 0 0 19) - 1))).bind fun r136 => (f_Model_at (v5_109 - 8) 0 r136).bind fun r143 => f_Model_send_109 k109 r143.1 r143.2)
def f_Model_send_j76 (a : Int32) (b : Int32) (d : Int32) (r44 : Int32 × Mem) (s0_76 : Int32) : Option (Int32 × Mem) :=
    (f_Model_arrive a (mset (mset (mset (mset (mset (mset r44.2 0 0 0 16 b) 0 0 0 17 0) 0 0 0 18 s0_76) 0 0 0 19 d) 0 0 0 20 d) 0 0 0 21 0)).bind fun r98 => (f_Model_at a 1 r98).bind fun r104 => f_Model_send_109 1000 r104.1 r104.2
def f_Model_send_j44 (a : Int32) (b : Int32) (z : Int32) (d : Int32) (M : Mem) (s0_44 : Int32) : Option (Int32 × Mem) :=
    (f_Model_good s0_44 M).bind fun r44 => if r44.1 = 0 then (some (0, r44.2)) else (if z = (-1) then (f_Model_send_j76 a b d r44 0) else (f_Model_send_j76 a b d r44 (32 + z)))
def f_Model_send (a : Int32) (b : Int32) (z : Int32) (d : Int32) (M : Mem) : Option (Int32 × Mem) :=
  (f_Model_isRouter a M).bind fun r3 => if r3 = 0 then (f_Model_send_j44 a b z d M 0) else ((f_Model_within b 0 3).bind fun r12 => if r12 = 0 then (f_Model_send_j44 a b z d M 0) else ((f_Model_within z (-1) 3).bind fun r21 => if r21 = 0 then (f_Model_send_j44 a b z d M 0) else ((f_Model_within d 1 255).bind fun r33 => if r33 = 0 then (f_Model_send_j44 a b z d M 0) else (f_Model_send_j44 a b z d M 1))))
abbrev rm_Model_send : Room := { frames := 3, cells := 0, slots := 0, locals := 76 }
set_option maxHeartbeats 4000000 in
set_option maxRecDepth 100000 in
theorem c_Model_send {l : Launch} {D : va_G} {ad : Nat → Nat} {G : Nat → ClassId} {a : Int32} {b : Int32} {z : Int32} {d : Int32}  {M : Mem} {x : Int32 × Mem} (hf : f_Model_send a b z d M = some x) : Met l y_Model_send (wc y_Model_send b_Model_send 7 (some .int)) rm_Model_send (va_Pc [.ref (ad 0), .int a, .int b, .int z, .int d] (tB D ad G M)) (wr_Q (some (.int x.1)) D cls 15 ad (tE ad G x.2)) 0 0 (wl_A 15 ad) := by
  refine k_met (by decide) (Nat.le_of_ble_eq_true rfl) ?_
  intro p e s m args below meth c S hr hlk hB ls hl
  obtain ⟨hx, hb, hml, hown, hts⟩ := id S
  obtain ⟨hP, hK, hA0⟩ := hB
  have hA := wl_own hA0
  have hl : lv_has ls 7 [(0, .ref (ad 0)), (1, .int a), (2, .int b), (3, .int z), (4, .int d)] := hl
  have hS : va_S (wl_A 15 ad) s.heap s.heap [] := va_S.rf
  unfold f_Model_send at hf
  refine lv_aload_n hx hb d_Model_send_0 rfl (lv_at hl 0 rfl) ?_
  refine lv_aload_n hx hb d_Model_send_1 rfl (lv_at hl 0 rfl) ?_
  refine lv_iload_n hx hb d_Model_send_2 rfl (lv_at hl 1 rfl) ?_
  obtain ⟨r3, hc3, hf⟩ := ob hf
  refine k_rdi (k_vir S (c_Model_isRouter (l := l) (D := D) (ad := ad) (G := G) hc3) g_Model_64 hd_Model_isRouter ⟨rfl, rfl⟩ ⟨Nat.le_of_ble_eq_true rfl, Nat.le_of_ble_eq_true rfl⟩ wl_blind (va_recv hK hP rfl (wl_to (by decide) (MO_at))) (wl_pre hP hK hA) rfl hl.1 rfl (Nat.le_of_ble_eq_true rfl) d_Model_send_3 (Nat.zero_le _) (Nat.zero_le _)) ?_
  have J44 : ∀ (s0_44 : Int32) (ls : Array Slot), lv_has ls 7 [(0, .ref (ad 0)), (1, .int a), (2, .int b), (3, .int z), (4, .int d)] → f_Model_send_j44 a b z d M s0_44 = some x → W p l e rm_Model_send s m args below meth c s.heap [] 0 0 (MQ below (wr_Q (some (.int x.1)) D cls 15 ad (tE ad G x.2)) args s 0 0 (wl_A 15 ad)) (F0 m 44 ls [.int s0_44, .ref (ad 0)]) := by
    intro s0_44 ls hl hf
    unfold f_Model_send_j44 at hf
    obtain ⟨r44, hc44, hf⟩ := ob hf
    refine k_wri (k_vir S (c_Model_good (l := l) (D := D) (ad := ad) (G := G) hc44) g_Model_109 hd_Model_good ⟨rfl, rfl⟩ ⟨Nat.le_of_ble_eq_true rfl, Nat.le_of_ble_eq_true rfl⟩ wl_blind (va_recv hK hP rfl (wl_to (by decide) (MO_at))) (wl_pre hP hK hA) rfl hl.1 rfl (Nat.le_of_ble_eq_true rfl) d_Model_send_44 (Nat.zero_le _) (Nat.zero_le _)) hS (fun _ h => h) (fun H locs hP _ _ hS => ?_)
    refine lv_if_ne (tgt := 52) hx hb d_Model_send_47 (by decide) (fun h47 => ?_) (fun h47 => ?_)
    · rw [if_neg h47] at hf
      refine lv_aload_n hx hb d_Model_send_52 rfl (lv_at hl 0 rfl) ?_
      refine lv_iload_n hx hb d_Model_send_53 rfl (lv_at hl 2 rfl) ?_
      refine m_put (t := 0) (a := 0) (b := 0) (x := b) (ci := 5) (C := R_Model) (T := F_Model) (N := 24) hx hb hts in_Model t_Model ty_Model nm_Model hown hK hP hA hS tJ 0 (by decide) (Model_fs ad) (fun _ => rfl) ⟨rfl, rfl, rfl⟩ rfl 16 (by decide) (hts _ fl_Model_144) rfl (by decide +kernel) (fun _ => ⟨Nat.le_of_ble_eq_true rfl, rfl⟩) d_Model_send_54 (fun H locs hP hS => ?_)
      refine lv_aload_n hx hb d_Model_send_57 rfl (lv_at hl 0 rfl) ?_
      refine lv_iconst (v := 0) hx hb d_Model_send_58 (by decide) ?_
      refine m_put (t := 0) (a := 0) (b := 0) (x := 0) (ci := 5) (C := R_Model) (T := F_Model) (N := 24) hx hb hts in_Model t_Model ty_Model nm_Model hown hK hP hA hS tJ 0 (by decide) (Model_fs ad) (fun _ => rfl) ⟨rfl, rfl, rfl⟩ rfl 17 (by decide) (hts _ fl_Model_132) rfl (by decide +kernel) (fun _ => ⟨Nat.le_of_ble_eq_true rfl, rfl⟩) d_Model_send_59 (fun H locs hP hS => ?_)
      refine lv_aload_n hx hb d_Model_send_62 rfl (lv_at hl 0 rfl) ?_
      refine lv_iload_n hx hb d_Model_send_63 rfl (lv_at hl 3 rfl) ?_
      refine lv_iconst (v := (-1)) hx hb d_Model_send_64 (by decide) ?_
      have J76 : ∀ (s0_76 : Int32) (ls : Array Slot), lv_has ls 7 [(0, .ref (ad 0)), (1, .int a), (2, .int b), (3, .int z), (4, .int d)] → f_Model_send_j76 a b d r44 s0_76 = some x → W p l e rm_Model_send s m args below meth c H locs 0 0 (MQ below (wr_Q (some (.int x.1)) D cls 15 ad (tE ad G x.2)) args s 0 0 (wl_A 15 ad)) (F0 m 76 ls [.int s0_76, .ref (ad 0)]) := by
        intro s0_76 ls hl hf
        unfold f_Model_send_j76 at hf
        refine m_put (t := 0) (a := 0) (b := 0) (x := s0_76) (ci := 5) (C := R_Model) (T := F_Model) (N := 24) hx hb hts in_Model t_Model ty_Model nm_Model hown hK hP hA hS tJ 0 (by decide) (Model_fs ad) (fun _ => rfl) ⟨rfl, rfl, rfl⟩ rfl 18 (by decide) (hts _ fl_Model_135) rfl (by decide +kernel) (fun _ => ⟨Nat.le_of_ble_eq_true rfl, rfl⟩) d_Model_send_76 (fun H locs hP hS => ?_)
        refine lv_aload_n hx hb d_Model_send_79 rfl (lv_at hl 0 rfl) ?_
        refine lv_iload hx hb d_Model_send_80 (lv_at hl 4 rfl) ?_
        refine m_put (t := 0) (a := 0) (b := 0) (x := d) (ci := 5) (C := R_Model) (T := F_Model) (N := 24) hx hb hts in_Model t_Model ty_Model nm_Model hown hK hP hA hS tJ 0 (by decide) (Model_fs ad) (fun _ => rfl) ⟨rfl, rfl, rfl⟩ rfl 19 (by decide) (hts _ fl_Model_138) rfl (by decide +kernel) (fun _ => ⟨Nat.le_of_ble_eq_true rfl, rfl⟩) d_Model_send_82 (fun H locs hP hS => ?_)
        refine lv_aload_n hx hb d_Model_send_85 rfl (lv_at hl 0 rfl) ?_
        refine lv_iload hx hb d_Model_send_86 (lv_at hl 4 rfl) ?_
        refine m_put (t := 0) (a := 0) (b := 0) (x := d) (ci := 5) (C := R_Model) (T := F_Model) (N := 24) hx hb hts in_Model t_Model ty_Model nm_Model hown hK hP hA hS tJ 0 (by decide) (Model_fs ad) (fun _ => rfl) ⟨rfl, rfl, rfl⟩ rfl 20 (by decide) (hts _ fl_Model_141) rfl (by decide +kernel) (fun _ => ⟨Nat.le_of_ble_eq_true rfl, rfl⟩) d_Model_send_88 (fun H locs hP hS => ?_)
        refine lv_aload_n hx hb d_Model_send_91 rfl (lv_at hl 0 rfl) ?_
        refine lv_iconst (v := 0) hx hb d_Model_send_92 (by decide) ?_
        refine m_put (t := 0) (a := 0) (b := 0) (x := 0) (ci := 5) (C := R_Model) (T := F_Model) (N := 24) hx hb hts in_Model t_Model ty_Model nm_Model hown hK hP hA hS tJ 0 (by decide) (Model_fs ad) (fun _ => rfl) ⟨rfl, rfl, rfl⟩ rfl 21 (by decide) (hts _ fl_Model_129) rfl (by decide +kernel) (fun _ => ⟨Nat.le_of_ble_eq_true rfl, rfl⟩) d_Model_send_93 (fun H locs hP hS => ?_)
        refine lv_aload_n hx hb d_Model_send_96 rfl (lv_at hl 0 rfl) ?_
        refine lv_iload_n hx hb d_Model_send_97 rfl (lv_at hl 1 rfl) ?_
        obtain ⟨r98, hc98, hf⟩ := ob hf
        refine k_wrv (k_vir S (c_Model_arrive (l := l) (D := D) (ad := ad) (G := G) hc98) g_Model_153 hd_Model_arrive ⟨rfl, rfl⟩ ⟨Nat.le_of_ble_eq_true rfl, Nat.le_of_ble_eq_true rfl⟩ wl_blind (va_recv hK hP rfl (wl_to (by decide) (MO_at))) (wl_pre hP hK hA) rfl hl.1 rfl (Nat.le_of_ble_eq_true rfl) d_Model_send_98 (Nat.zero_le _) (Nat.zero_le _)) hS (fun _ h => h) (fun H locs hP _ _ hS => ?_)
        refine lv_aload_n hx hb d_Model_send_101 rfl (lv_at hl 0 rfl) ?_
        refine lv_iload_n hx hb d_Model_send_102 rfl (lv_at hl 1 rfl) ?_
        refine lv_iconst (v := 1) hx hb d_Model_send_103 (by decide) ?_
        obtain ⟨r104, hc104, hf⟩ := ob hf
        refine k_wri (k_vir S (c_Model_at (l := l) (D := D) (ad := ad) (G := G) hc104) g_Model_156 hd_Model_at ⟨rfl, rfl⟩ ⟨Nat.le_of_ble_eq_true rfl, Nat.le_of_ble_eq_true rfl⟩ wl_blind (va_recv hK hP rfl (wl_to (by decide) (MO_at))) (wl_pre hP hK hA) rfl hl.1 rfl (Nat.le_of_ble_eq_true rfl) d_Model_send_104 (Nat.zero_le _) (Nat.zero_le _)) hS (fun _ h => h) (fun H locs hP _ _ hS => ?_)
        refine lv_istore (lv' := [(5, .int r104.1), (0, .ref (ad 0)), (1, .int a), (2, .int b), (3, .int z), (4, .int d)]) hx hb d_Model_send_107 hl (by decide) rfl (fun ls hl => ?_)
        have L109 : ∀ (k109 : Nat) (v5_109 : Int32) (N109 : Mem) (H : Heap) (locs : List Loc) (ls : Array Slot), lv_has ls 7 [(5, .int v5_109), (0, .ref (ad 0)), (1, .int a), (2, .int b), (3, .int z), (4, .int d)] → va_P D cls (tW ad G N109) H → va_S (wl_A 15 ad) s.heap H locs → f_Model_send_109 k109 v5_109 N109 = some x → W p l e rm_Model_send s m args below meth c H locs 0 0 (MQ below (wr_Q (some (.int x.1)) D cls 15 ad (tE ad G x.2)) args s 0 0 (wl_A 15 ad)) (F0 m 109 ls []) := by
          intro k109
          induction k109 with
          | zero =>
            intro v5_109 N109 H locs ls hl hP hS hf
            simp [f_Model_send_109] at hf
          | succ k109 ih109 =>
            intro v5_109 N109 H locs ls hl hP hS hf
            rw [f_Model_send_109] at hf
            refine lv_iload hx hb d_Model_send_109 (lv_at hl 0 rfl) ?_
            refine lv_bipush (v := 8) hx hb d_Model_send_111 (by decide) ?_
            refine lv_icmp_lt (tgt := 151) hx hb d_Model_send_113 (by decide) (fun h113 => ?_) (fun h113 => ?_)
            · rw [if_pos h113] at hf
              refine lv_iload hx hb d_Model_send_151 (lv_at hl 0 rfl) ?_
              cases hf
              exact w_iret hx hb hr hlk hP hS d_Model_send_153
            · rw [if_neg h113] at hf
              refine lv_iload hx hb d_Model_send_116 (lv_at hl 0 rfl) ?_
              refine lv_bipush (v := 8) hx hb d_Model_send_118 (by decide) ?_
              refine lv_isub hx hb d_Model_send_120 ?_
              refine lv_istore (lv' := [(6, .int (v5_109 - 8)), (5, .int v5_109), (0, .ref (ad 0)), (1, .int a), (2, .int b), (3, .int z), (4, .int d)]) hx hb d_Model_send_121 hl (by decide) rfl (fun ls hl => ?_)
              refine lv_aload_n hx hb d_Model_send_123 rfl (lv_at hl 2 rfl) ?_
              refine lv_dup hx hb d_Model_send_124 rfl ?_
              refine va_get (D := D) (ci := 5) (v := .int (N109 0 0 0 19)) (C := R_Model) (T := F_Model) (N := 24) hx hb hts in_Model hown hK hP 0 (wl_to (by decide) (MO_at)) rfl 19 (by decide) (hts _ fl_Model_138) (fun _ h => h) rfl d_Model_send_125 ?_
              refine lv_iconst (v := 1) hx hb d_Model_send_128 (by decide) ?_
              refine lv_isub hx hb d_Model_send_129 ?_
              refine m_put (t := 0) (a := 0) (b := 0) (x := ((N109 0 0 0 19) - 1)) (ci := 5) (C := R_Model) (T := F_Model) (N := 24) hx hb hts in_Model t_Model ty_Model nm_Model hown hK hP hA hS tJ 0 (by decide) (Model_fs ad) (fun _ => rfl) ⟨rfl, rfl, rfl⟩ rfl 19 (by decide) (hts _ fl_Model_138) rfl (by decide +kernel) (fun _ => ⟨Nat.le_of_ble_eq_true rfl, rfl⟩) d_Model_send_130 (fun H locs hP hS => ?_)
              refine lv_aload_n hx hb d_Model_send_133 rfl (lv_at hl 2 rfl) ?_
              refine lv_iload hx hb d_Model_send_134 (lv_at hl 0 rfl) ?_
              obtain ⟨r136, hc136, hf⟩ := ob hf
              refine k_wrv (k_vir S (c_Model_arrive (l := l) (D := D) (ad := ad) (G := G) hc136) g_Model_153 hd_Model_arrive ⟨rfl, rfl⟩ ⟨Nat.le_of_ble_eq_true rfl, Nat.le_of_ble_eq_true rfl⟩ wl_blind (va_recv hK hP rfl (wl_to (by decide) (MO_at))) (wl_pre hP hK hA) rfl hl.1 rfl (Nat.le_of_ble_eq_true rfl) d_Model_send_136 (Nat.zero_le _) (Nat.zero_le _)) hS (fun _ h => h) (fun H locs hP _ _ hS => ?_)
              refine lv_aload_n hx hb d_Model_send_139 rfl (lv_at hl 2 rfl) ?_
              refine lv_iload hx hb d_Model_send_140 (lv_at hl 0 rfl) ?_
              refine lv_iconst (v := 0) hx hb d_Model_send_142 (by decide) ?_
              obtain ⟨r143, hc143, hf⟩ := ob hf
              refine k_wri (k_vir S (c_Model_at (l := l) (D := D) (ad := ad) (G := G) hc143) g_Model_156 hd_Model_at ⟨rfl, rfl⟩ ⟨Nat.le_of_ble_eq_true rfl, Nat.le_of_ble_eq_true rfl⟩ wl_blind (va_recv hK hP rfl (wl_to (by decide) (MO_at))) (wl_pre hP hK hA) rfl hl.1 rfl (Nat.le_of_ble_eq_true rfl) d_Model_send_143 (Nat.zero_le _) (Nat.zero_le _)) hS (fun _ h => h) (fun H locs hP _ _ hS => ?_)
              refine lv_istore (lv' := [(5, .int r143.1), (6, .int (v5_109 - 8)), (0, .ref (ad 0)), (1, .int a), (2, .int b), (3, .int z), (4, .int d)]) hx hb d_Model_send_146 hl (by decide) rfl (fun ls hl => ?_)
              refine lv_goto (tgt := 109) hx hb d_Model_send_148 (by decide) ?_
              exact ih109 _ _ _ _ _ (lv_sub hl [0, 2, 3, 4, 5, 6] rfl) hP hS hf
        exact L109 _ _ _ _ _ _ (lv_sub hl [0, 1, 2, 3, 4, 5] rfl) hP hS hf
      refine lv_icmp_ne (tgt := 72) hx hb d_Model_send_65 (by decide) (fun h65 => ?_) (fun h65 => ?_)
      · rw [if_neg h65] at hf
        refine lv_bipush (v := 32) hx hb d_Model_send_72 (by decide) ?_
        refine lv_iload_n hx hb d_Model_send_74 rfl (lv_at hl 3 rfl) ?_
        refine lv_iadd hx hb d_Model_send_75 ?_
        exact J76 _ _ (lv_sub hl [0, 1, 2, 3, 4] rfl) hf
      · rw [if_pos h65] at hf
        refine lv_iconst (v := 0) hx hb d_Model_send_68 (by decide) ?_
        refine lv_goto (tgt := 76) hx hb d_Model_send_69 (by decide) ?_
        exact J76 _ _ (lv_sub hl [0, 1, 2, 3, 4] rfl) hf
    · rw [if_pos h47] at hf
      refine lv_iconst (v := 0) hx hb d_Model_send_50 (by decide) ?_
      cases hf
      exact w_iret hx hb hr hlk hP hS d_Model_send_51
  refine lv_if_eq (tgt := 43) hx hb d_Model_send_6 (by decide) (fun h6 => ?_) (fun h6 => ?_)
  · rw [if_pos h6] at hf
    refine lv_iconst (v := 0) hx hb d_Model_send_43 (by decide) ?_
    exact J44 _ _ (lv_sub hl [0, 1, 2, 3, 4] rfl) hf
  · rw [if_neg h6] at hf
    refine lv_iload_n hx hb d_Model_send_9 rfl (lv_at hl 2 rfl) ?_
    refine lv_iconst (v := 0) hx hb d_Model_send_10 (by decide) ?_
    refine lv_iconst (v := 3) hx hb d_Model_send_11 (by decide) ?_
    obtain ⟨r12, hc12, hf⟩ := ob hf
    refine k_rdi (k_sta S (c_Model_within (l := l) (D := D) (ad := ad) (G := G) hc12) g_Model_60 hd_Model_within ⟨rfl, rfl⟩ ⟨Nat.le_of_ble_eq_true rfl, Nat.le_of_ble_eq_true rfl⟩ wl_blind (wl_pre hP hK hA) rfl hl.1 rfl (Nat.le_of_ble_eq_true rfl) d_Model_send_12 (Nat.zero_le _) (Nat.zero_le _)) ?_
    refine lv_if_eq (tgt := 43) hx hb d_Model_send_15 (by decide) (fun h15 => ?_) (fun h15 => ?_)
    · rw [if_pos h15] at hf
      refine lv_iconst (v := 0) hx hb d_Model_send_43 (by decide) ?_
      exact J44 _ _ (lv_sub hl [0, 1, 2, 3, 4] rfl) hf
    · rw [if_neg h15] at hf
      refine lv_iload_n hx hb d_Model_send_18 rfl (lv_at hl 3 rfl) ?_
      refine lv_iconst (v := (-1)) hx hb d_Model_send_19 (by decide) ?_
      refine lv_iconst (v := 3) hx hb d_Model_send_20 (by decide) ?_
      obtain ⟨r21, hc21, hf⟩ := ob hf
      refine k_rdi (k_sta S (c_Model_within (l := l) (D := D) (ad := ad) (G := G) hc21) g_Model_60 hd_Model_within ⟨rfl, rfl⟩ ⟨Nat.le_of_ble_eq_true rfl, Nat.le_of_ble_eq_true rfl⟩ wl_blind (wl_pre hP hK hA) rfl hl.1 rfl (Nat.le_of_ble_eq_true rfl) d_Model_send_21 (Nat.zero_le _) (Nat.zero_le _)) ?_
      refine lv_if_eq (tgt := 43) hx hb d_Model_send_24 (by decide) (fun h24 => ?_) (fun h24 => ?_)
      · rw [if_pos h24] at hf
        refine lv_iconst (v := 0) hx hb d_Model_send_43 (by decide) ?_
        exact J44 _ _ (lv_sub hl [0, 1, 2, 3, 4] rfl) hf
      · rw [if_neg h24] at hf
        refine lv_iload hx hb d_Model_send_27 (lv_at hl 4 rfl) ?_
        refine lv_iconst (v := 1) hx hb d_Model_send_29 (by decide) ?_
        refine lv_sipush (v := 255) hx hb d_Model_send_30 (by decide) ?_
        obtain ⟨r33, hc33, hf⟩ := ob hf
        refine k_rdi (k_sta S (c_Model_within (l := l) (D := D) (ad := ad) (G := G) hc33) g_Model_60 hd_Model_within ⟨rfl, rfl⟩ ⟨Nat.le_of_ble_eq_true rfl, Nat.le_of_ble_eq_true rfl⟩ wl_blind (wl_pre hP hK hA) rfl hl.1 rfl (Nat.le_of_ble_eq_true rfl) d_Model_send_33 (Nat.zero_le _) (Nat.zero_le _)) ?_
        refine lv_if_eq (tgt := 43) hx hb d_Model_send_36 (by decide) (fun h36 => ?_) (fun h36 => ?_)
        · rw [if_pos h36] at hf
          refine lv_iconst (v := 0) hx hb d_Model_send_43 (by decide) ?_
          exact J44 _ _ (lv_sub hl [0, 1, 2, 3, 4] rfl) hf
        · rw [if_neg h36] at hf
          refine lv_iconst (v := 1) hx hb d_Model_send_39 (by decide) ?_
          refine lv_goto (tgt := 44) hx hb d_Model_send_40 (by decide) ?_
          exact J44 _ _ (lv_sub hl [0, 1, 2, 3, 4] rfl) hf
def f_Model_hops (M : Mem) : Option (Int32 × Mem) :=
  some (((mset M 0 0 0 0 0) 0 0 0 21), (mset M 0 0 0 0 0))
abbrev rm_Model_hops : Room := { frames := 0, cells := 0, slots := 0, locals := 0 }
set_option maxHeartbeats 4000000 in
set_option maxRecDepth 100000 in
theorem c_Model_hops {l : Launch} {D : va_G} {ad : Nat → Nat} {G : Nat → ClassId}  {M : Mem} {x : Int32 × Mem} (hf : f_Model_hops M = some x) : Met l y_Model_hops (wc y_Model_hops b_Model_hops 1 (some .int)) rm_Model_hops (va_Pc [.ref (ad 0)] (tB D ad G M)) (wr_Q (some (.int x.1)) D cls 15 ad (tE ad G x.2)) 0 0 (wl_A 15 ad) := by
  refine k_met (by decide) (Nat.le_of_ble_eq_true rfl) ?_
  intro p e s m args below meth c S hr hlk hB ls hl
  obtain ⟨hx, hb, hml, hown, hts⟩ := id S
  obtain ⟨hP, hK, hA0⟩ := hB
  have hA := wl_own hA0
  have hl : lv_has ls 1 [(0, .ref (ad 0))] := hl
  have hS : va_S (wl_A 15 ad) s.heap s.heap [] := va_S.rf
  unfold f_Model_hops at hf
  refine lv_aload_n hx hb d_Model_hops_0 rfl (lv_at hl 0 rfl) ?_
  refine lv_iconst (v := 0) hx hb d_Model_hops_1 (by decide) ?_
  refine m_put (t := 0) (a := 0) (b := 0) (x := 0) (ci := 5) (C := R_Model) (T := F_Model) (N := 24) hx hb hts in_Model t_Model ty_Model nm_Model hown hK hP hA hS tJ 0 (by decide) (Model_fs ad) (fun _ => rfl) ⟨rfl, rfl, rfl⟩ rfl 0 (by decide) (hts _ fl_Model_57) rfl (by decide +kernel) (fun _ => ⟨Nat.le_of_ble_eq_true rfl, rfl⟩) d_Model_hops_2 (fun H locs hP hS => ?_)
  refine lv_aload_n hx hb d_Model_hops_5 rfl (lv_at hl 0 rfl) ?_
  refine va_get (D := D) (ci := 5) (v := .int ((mset M 0 0 0 0 0) 0 0 0 21)) (C := R_Model) (T := F_Model) (N := 24) hx hb hts in_Model hown hK hP 0 (wl_to (by decide) (MO_at)) rfl 21 (by decide) (hts _ fl_Model_129) (fun _ h => h) rfl d_Model_hops_6 ?_
  cases hf
  exact w_iret hx hb hr hlk hP hS d_Model_hops_9
def f_Model_hop (a : Int32) (M : Mem) : Option (Int32 × Mem) :=
  (f_Model_within a 0 ((M 0 0 0 21) - 1)).bind fun r9 => (f_Model_good r9 M).bind fun r12 => if r12.1 = 0 then (some (0, r12.2)) else ((ix a 300).bind fun j23 => some ((r12.2 13 0 0 j23), r12.2))
abbrev rm_Model_hop : Room := { frames := 1, cells := 0, slots := 0, locals := 22 }
set_option maxHeartbeats 4000000 in
set_option maxRecDepth 100000 in
theorem c_Model_hop {l : Launch} {D : va_G} {ad : Nat → Nat} {G : Nat → ClassId} {a : Int32}  {M : Mem} {x : Int32 × Mem} (hf : f_Model_hop a M = some x) : Met l y_Model_hop (wc y_Model_hop b_Model_hop 2 (some .int)) rm_Model_hop (va_Pc [.ref (ad 0), .int a] (tB D ad G M)) (wr_Q (some (.int x.1)) D cls 15 ad (tE ad G x.2)) 0 0 (wl_A 15 ad) := by
  refine k_met (by decide) (Nat.le_of_ble_eq_true rfl) ?_
  intro p e s m args below meth c S hr hlk hB ls hl
  obtain ⟨hx, hb, hml, hown, hts⟩ := id S
  obtain ⟨hP, hK, hA0⟩ := hB
  have hA := wl_own hA0
  have hl : lv_has ls 2 [(0, .ref (ad 0)), (1, .int a)] := hl
  have hS : va_S (wl_A 15 ad) s.heap s.heap [] := va_S.rf
  unfold f_Model_hop at hf
  refine lv_aload_n hx hb d_Model_hop_0 rfl (lv_at hl 0 rfl) ?_
  refine lv_iload_n hx hb d_Model_hop_1 rfl (lv_at hl 1 rfl) ?_
  refine lv_iconst (v := 0) hx hb d_Model_hop_2 (by decide) ?_
  refine lv_aload_n hx hb d_Model_hop_3 rfl (lv_at hl 0 rfl) ?_
  refine va_get (D := D) (ci := 5) (v := .int (M 0 0 0 21)) (C := R_Model) (T := F_Model) (N := 24) hx hb hts in_Model hown hK hP 0 (wl_to (by decide) (MO_at)) rfl 21 (by decide) (hts _ fl_Model_129) (fun _ h => h) rfl d_Model_hop_4 ?_
  refine lv_iconst (v := 1) hx hb d_Model_hop_7 (by decide) ?_
  refine lv_isub hx hb d_Model_hop_8 ?_
  obtain ⟨r9, hc9, hf⟩ := ob hf
  refine k_rdi (k_sta S (c_Model_within (l := l) (D := D) (ad := ad) (G := G) hc9) g_Model_60 hd_Model_within ⟨rfl, rfl⟩ ⟨Nat.le_of_ble_eq_true rfl, Nat.le_of_ble_eq_true rfl⟩ wl_blind (wl_pre hP hK hA) rfl hl.1 rfl (Nat.le_of_ble_eq_true rfl) d_Model_hop_9 (Nat.zero_le _) (Nat.zero_le _)) ?_
  obtain ⟨r12, hc12, hf⟩ := ob hf
  refine k_wri (k_vir S (c_Model_good (l := l) (D := D) (ad := ad) (G := G) hc12) g_Model_109 hd_Model_good ⟨rfl, rfl⟩ ⟨Nat.le_of_ble_eq_true rfl, Nat.le_of_ble_eq_true rfl⟩ wl_blind (va_recv hK hP rfl (wl_to (by decide) (MO_at))) (wl_pre hP hK hA) rfl hl.1 rfl (Nat.le_of_ble_eq_true rfl) d_Model_hop_12 (Nat.zero_le _) (Nat.zero_le _)) hS (fun _ h => h) (fun H locs hP _ _ hS => ?_)
  refine lv_if_eq (tgt := 27) hx hb d_Model_hop_15 (by decide) (fun h15 => ?_) (fun h15 => ?_)
  · rw [if_pos h15] at hf
    refine lv_iconst (v := 0) hx hb d_Model_hop_27 (by decide) ?_
    cases hf
    exact w_iret hx hb hr hlk hP hS d_Model_hop_28
  · rw [if_neg h15] at hf
    refine lv_aload_n hx hb d_Model_hop_18 rfl (lv_at hl 0 rfl) ?_
    refine va_get (D := D) (ci := 5) (v := .ref (ad 13)) (C := R_Model) (T := F_Model) (N := 24) hx hb hts in_Model hown hK hP 0 (wl_to (by decide) (MO_at)) rfl 22 (by decide) (hts _ fl_Model_47) (fun _ h => h) rfl d_Model_hop_19 ?_
    refine lv_iload_n hx hb d_Model_hop_22 rfl (lv_at hl 1 rfl) ?_
    obtain ⟨j23, hj23, hf⟩ := ob hf
    refine k_iald hx hb hK hP 13 0 (by decide) (WHE_at) rfl hj23 d_Model_hop_23 ?_
    refine lv_goto (tgt := 28) hx hb d_Model_hop_24 (by decide) ?_
    cases hf
    exact w_iret hx hb hr hlk hP hS d_Model_hop_28
def f_Model_entry (a : Int32) (M : Mem) : Option (Int32 × Mem) :=
  (f_Model_within a 0 ((M 0 0 0 21) - 1)).bind fun r9 => (f_Model_good r9 M).bind fun r12 => if r12.1 = 0 then (some (0, r12.2)) else ((ix a 300).bind fun j23 => some ((r12.2 14 0 0 j23), r12.2))
abbrev rm_Model_entry : Room := { frames := 1, cells := 0, slots := 0, locals := 22 }
set_option maxHeartbeats 4000000 in
set_option maxRecDepth 100000 in
theorem c_Model_entry {l : Launch} {D : va_G} {ad : Nat → Nat} {G : Nat → ClassId} {a : Int32}  {M : Mem} {x : Int32 × Mem} (hf : f_Model_entry a M = some x) : Met l y_Model_entry (wc y_Model_entry b_Model_entry 2 (some .int)) rm_Model_entry (va_Pc [.ref (ad 0), .int a] (tB D ad G M)) (wr_Q (some (.int x.1)) D cls 15 ad (tE ad G x.2)) 0 0 (wl_A 15 ad) := by
  refine k_met (by decide) (Nat.le_of_ble_eq_true rfl) ?_
  intro p e s m args below meth c S hr hlk hB ls hl
  obtain ⟨hx, hb, hml, hown, hts⟩ := id S
  obtain ⟨hP, hK, hA0⟩ := hB
  have hA := wl_own hA0
  have hl : lv_has ls 2 [(0, .ref (ad 0)), (1, .int a)] := hl
  have hS : va_S (wl_A 15 ad) s.heap s.heap [] := va_S.rf
  unfold f_Model_entry at hf
  refine lv_aload_n hx hb d_Model_entry_0 rfl (lv_at hl 0 rfl) ?_
  refine lv_iload_n hx hb d_Model_entry_1 rfl (lv_at hl 1 rfl) ?_
  refine lv_iconst (v := 0) hx hb d_Model_entry_2 (by decide) ?_
  refine lv_aload_n hx hb d_Model_entry_3 rfl (lv_at hl 0 rfl) ?_
  refine va_get (D := D) (ci := 5) (v := .int (M 0 0 0 21)) (C := R_Model) (T := F_Model) (N := 24) hx hb hts in_Model hown hK hP 0 (wl_to (by decide) (MO_at)) rfl 21 (by decide) (hts _ fl_Model_129) (fun _ h => h) rfl d_Model_entry_4 ?_
  refine lv_iconst (v := 1) hx hb d_Model_entry_7 (by decide) ?_
  refine lv_isub hx hb d_Model_entry_8 ?_
  obtain ⟨r9, hc9, hf⟩ := ob hf
  refine k_rdi (k_sta S (c_Model_within (l := l) (D := D) (ad := ad) (G := G) hc9) g_Model_60 hd_Model_within ⟨rfl, rfl⟩ ⟨Nat.le_of_ble_eq_true rfl, Nat.le_of_ble_eq_true rfl⟩ wl_blind (wl_pre hP hK hA) rfl hl.1 rfl (Nat.le_of_ble_eq_true rfl) d_Model_entry_9 (Nat.zero_le _) (Nat.zero_le _)) ?_
  obtain ⟨r12, hc12, hf⟩ := ob hf
  refine k_wri (k_vir S (c_Model_good (l := l) (D := D) (ad := ad) (G := G) hc12) g_Model_109 hd_Model_good ⟨rfl, rfl⟩ ⟨Nat.le_of_ble_eq_true rfl, Nat.le_of_ble_eq_true rfl⟩ wl_blind (va_recv hK hP rfl (wl_to (by decide) (MO_at))) (wl_pre hP hK hA) rfl hl.1 rfl (Nat.le_of_ble_eq_true rfl) d_Model_entry_12 (Nat.zero_le _) (Nat.zero_le _)) hS (fun _ h => h) (fun H locs hP _ _ hS => ?_)
  refine lv_if_eq (tgt := 27) hx hb d_Model_entry_15 (by decide) (fun h15 => ?_) (fun h15 => ?_)
  · rw [if_pos h15] at hf
    refine lv_iconst (v := 0) hx hb d_Model_entry_27 (by decide) ?_
    cases hf
    exact w_iret hx hb hr hlk hP hS d_Model_entry_28
  · rw [if_neg h15] at hf
    refine lv_aload_n hx hb d_Model_entry_18 rfl (lv_at hl 0 rfl) ?_
    refine va_get (D := D) (ci := 5) (v := .ref (ad 14)) (C := R_Model) (T := F_Model) (N := 24) hx hb hts in_Model hown hK hP 0 (wl_to (by decide) (MO_at)) rfl 23 (by decide) (hts _ fl_Model_50) (fun _ h => h) rfl d_Model_entry_19 ?_
    refine lv_iload_n hx hb d_Model_entry_22 rfl (lv_at hl 1 rfl) ?_
    obtain ⟨j23, hj23, hf⟩ := ob hf
    refine k_iald hx hb hK hP 14 0 (by decide) (ENT_at) rfl hj23 d_Model_entry_23 ?_
    refine lv_goto (tgt := 28) hx hb d_Model_entry_24 (by decide) ?_
    cases hf
    exact w_iret hx hb hr hlk hP hS d_Model_entry_28
