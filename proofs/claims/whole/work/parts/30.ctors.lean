/-! the constructors -/
abbrev zs (G : Nat → ClassId) (N : Nat) : va_E := .inl (G 0, N, .inl (fun _ => 0))
abbrev fl (G : Nat → ClassId) (N : Nat) (v : Int32) : va_E := .inl (G 0, N, .inl (fun k => if k < N then v else 0))
abbrev gr (G : Nat → ClassId) (N b : Nat) : va_E := .inl (G 1, N, .inr (.inr (.inr (.inr (fun i => if i < N then some (b + i) else none)))))
theorem gr_eq {G : Nat → ClassId} {N b : Nat} {f : Nat → Nat} (h : ∀ i, i < N → f i = b + i) : (.inl (G 1, N, .inr (.inr (.inr (.inr (fun i => if i < N then some (f i) else none))))) : va_E) = gr G N b := by
  have e : (fun i => if i < N then some (f i) else none) = fun i => if i < N then some (b + i) else none := by
    funext i
    by_cases hi : i < N
    · rw [if_pos hi, if_pos hi, h i hi]
    · rw [if_neg hi, if_neg hi]
  rw [e]
set_option maxHeartbeats 400000 in
set_option maxRecDepth 100000 in
theorem i_Mail {l : Launch} {D : va_G} {G : Nat → ClassId} {h j i : Nat} {E : Nat → va_E} (hi : i < j) (he : E i = .inr (2, [.null, .int 0, .int 0])) :
    Met l y_Mail_init (wc y_Mail_init b_Mail_init 1 none) { frames := 1, cells := 1, slots := 240, locals := 20 } (va_Pc [.ref (h + i)] (ctB D G h j E)) (ctQ D h (j + 1) (fun E' => E' i = .inr (2, [.ref (h + j), .int 0, .int 0]) ∧ E' j = zs G 240 ∧ ∀ a, a < j → a ≠ i → E' a = E a)) 1 240 (fun q => h ≤ q) := by
  refine k_metC (by decide) (Nat.le_of_ble_eq_true rfl) ?_
  intro p e s m args below meth c S hin hr hlk hB ls hl
  obtain ⟨hx, hb, hml, hown, hts⟩ := id S
  obtain ⟨hz, hP, hK, hk⟩ := hB
  have hl : lv_has ls 1 [(0, .ref (h + i))] := hl
  have hS : va_S (fun q => h ≤ q) s.heap s.heap [] := va_S.rf
  refine lv_aload_n hx hb d_Mail_init_0 rfl (lv_at hl 0 rfl) ?_
  refine W.objInit hx hb hown (hts _ oi_Mail) (hts _ oi_m) (hts _ oi_c) rfl (by rw [hml]; exact hl.1) rfl d_Mail_init_1 (Nat.le_of_ble_eq_true rfl) (Nat.le_of_ble_eq_true rfl) ?_
  refine W.eq (g2 := F0 m 4 ls []) rfl ?_
  refine lv_aload_n hx hb d_Mail_init_4 rfl (lv_at hl 0 rfl) ?_
  refine lv_sipush (v := 240) hx hb d_Mail_init_5 (by decide) ?_
  refine p_newa (atype := .int) (ty := .int) (a0 := (240, .inl (fun _ => 0))) (N' := 240) hx hb (hts _ ac_int) rfl hK hP hz hS 0 rfl (fun q => q) rfl (by decide) (by decide) (by decide) (by decide) (by decide) d_Mail_init_8 (fun H hP hz hS => ?_)
  refine p_putF (v := .ref (h + j)) (ty := .array .int) (C := R_Mail) (T := F_Mail) (N := 3) hx hb hts in_Mail t_Mail ty_Mail nm_Mail hown hK hP hz hS (show i < j + 1 by omega) ((va_up_ne _ _ (by omega)).trans he) rfl 0 (by decide) (hts _ fi_Mail_9) rfl hin rfl (by decide +kernel) rfl rfl (Nat.le_of_ble_eq_true rfl) d_Mail_init_10 (fun H locs hP hz hS => ?_)
  exact i_ret hx hb hr hlk ⟨va_up_self _ _ _, (va_up_ne _ _ (by omega)).trans (va_up_self _ _ _), fun a ha hne => (va_up_ne _ _ hne).trans (va_up_ne _ _ (by omega))⟩ hz hP hS d_Mail_init_13
set_option maxHeartbeats 400000 in
set_option maxRecDepth 100000 in
theorem i_Packet {l : Launch} {D : va_G} {G : Nat → ClassId} {h j i : Nat} {E : Nat → va_E} (hi : i < j) (he : E i = .inr (4, [.null, .null, .int 0, .int 0, .int 0, .int 0, .int 0])) :
    Met l y_Packet_init (wc y_Packet_init b_Packet_init 1 none) { frames := 1, cells := 2, slots := 510, locals := 20 } (va_Pc [.ref (h + i)] (ctB D G h j E)) (ctQ D h (j + 2) (fun E' => E' i = .inr (4, [.ref (h + j), .ref (h + (j + 1)), .int 0, .int 0, .int 0, .int 0, .int 0]) ∧ E' j = zs G 255 ∧ E' (j + 1) = zs G 255 ∧ ∀ a, a < j → a ≠ i → E' a = E a)) 2 510 (fun q => h ≤ q) := by
  refine k_metC (by decide) (Nat.le_of_ble_eq_true rfl) ?_
  intro p e s m args below meth c S hin hr hlk hB ls hl
  obtain ⟨hx, hb, hml, hown, hts⟩ := id S
  obtain ⟨hz, hP, hK, hk⟩ := hB
  have hl : lv_has ls 1 [(0, .ref (h + i))] := hl
  have hS : va_S (fun q => h ≤ q) s.heap s.heap [] := va_S.rf
  refine lv_aload_n hx hb d_Packet_init_0 rfl (lv_at hl 0 rfl) ?_
  refine W.objInit hx hb hown (hts _ oi_Packet) (hts _ oi_m) (hts _ oi_c) rfl (by rw [hml]; exact hl.1) rfl d_Packet_init_1 (Nat.le_of_ble_eq_true rfl) (Nat.le_of_ble_eq_true rfl) ?_
  refine W.eq (g2 := F0 m 4 ls []) rfl ?_
  refine lv_aload_n hx hb d_Packet_init_4 rfl (lv_at hl 0 rfl) ?_
  refine lv_sipush (v := 255) hx hb d_Packet_init_5 (by decide) ?_
  refine p_newa (atype := .int) (ty := .int) (a0 := (255, .inl (fun _ => 0))) (N' := 255) hx hb (hts _ ac_int) rfl hK hP hz hS 0 rfl (fun q => q) rfl (by decide) (by decide) (by decide) (by decide) (by decide) d_Packet_init_8 (fun H hP hz hS => ?_)
  have he1 := (va_up_ne E (k := j) (zs G 255) (show i ≠ j by omega)).trans he
  refine p_putF (v := .ref (h + j)) (ty := .array .int) (C := R_Packet) (T := F_Packet) (N := 7) hx hb hts in_Packet t_Packet ty_Packet nm_Packet hown hK hP hz hS (show i < j + 1 by omega) he1 rfl 0 (by decide) (hts _ fi_Packet_9) rfl hin rfl (by decide +kernel) rfl rfl (Nat.le_of_ble_eq_true rfl) d_Packet_init_10 (fun H locs hP hz hS => ?_)
  refine lv_aload_n hx hb d_Packet_init_13 rfl (lv_at hl 0 rfl) ?_
  refine lv_sipush (v := 255) hx hb d_Packet_init_14 (by decide) ?_
  refine p_newa (atype := .int) (ty := .int) (a0 := (255, .inl (fun _ => 0))) (N' := 255) hx hb (hts _ ac_int) rfl hK hP hz hS 0 rfl (fun q => q) rfl (by decide) (by decide) (by decide) (by decide) (by decide) d_Packet_init_17 (fun H hP hz hS => ?_)
  refine p_putF (v := .ref (h + (j + 1))) (ty := .array .int) (C := R_Packet) (T := F_Packet) (N := 7) hx hb hts in_Packet t_Packet ty_Packet nm_Packet hown hK hP hz hS (show i < j + 1 + 1 by omega) ((va_up_ne _ _ (by omega)).trans (va_up_self _ _ _)) rfl 1 (by decide) (hts _ fi_Packet_15) rfl hin rfl (by decide +kernel) rfl rfl (Nat.le_of_ble_eq_true rfl) d_Packet_init_19 (fun H locs hP hz hS => ?_)
  exact i_ret hx hb hr hlk ⟨va_up_self _ _ _, (va_up_ne _ _ (by omega)).trans ((va_up_ne _ _ (by omega)).trans ((va_up_ne _ _ (by omega)).trans (va_up_self _ _ _))), (va_up_ne _ _ (by omega)).trans (va_up_self _ _ _), fun a ha hne => (va_up_ne _ _ hne).trans ((va_up_ne _ _ (by omega)).trans ((va_up_ne _ _ hne).trans (va_up_ne _ _ (by omega))))⟩ hz hP hS d_Packet_init_22
set_option maxHeartbeats 400000 in
set_option maxRecDepth 100000 in
theorem i_Router {l : Launch} {D : va_G} {G : Nat → ClassId} {h j i : Nat} {E : Nat → va_E} (hi : i < j) (he : E i = .inr (3, [.null, .null, .null])) :
    Met l y_Router_init (wc y_Router_init b_Router_init 1 none) { frames := 1, cells := 9, slots := 42, locals := 20 } (va_Pc [.ref (h + i)] (ctB D G h j E)) (ctQ D h (j + 9) (fun E' => E' i = .inr (3, [.ref (h + j), .ref (h + (j + 1)), .ref (h + (j + 8))]) ∧ E' j = zs G 4 ∧ E' (j + 1) = gr G 6 (h + (j + 2)) ∧ (∀ q, q < 6 → E' (j + 2 + q) = zs G 4) ∧ E' (j + 8) = zs G 8 ∧ ∀ a, a < j → a ≠ i → E' a = E a)) 9 42 (fun q => h ≤ q) := by
  refine k_metC (by decide) (Nat.le_of_ble_eq_true rfl) ?_
  intro p e s m args below meth c S hin hr hlk hB ls hl
  obtain ⟨hx, hb, hml, hown, hts⟩ := id S
  obtain ⟨hz, hP, hK, hk⟩ := hB
  have hl : lv_has ls 1 [(0, .ref (h + i))] := hl
  have hS : va_S (fun q => h ≤ q) s.heap s.heap [] := va_S.rf
  refine lv_aload_n hx hb d_Router_init_0 rfl (lv_at hl 0 rfl) ?_
  refine W.objInit hx hb hown (hts _ oi_Router) (hts _ oi_m) (hts _ oi_c) rfl (by rw [hml]; exact hl.1) rfl d_Router_init_1 (Nat.le_of_ble_eq_true rfl) (Nat.le_of_ble_eq_true rfl) ?_
  refine W.eq (g2 := F0 m 4 ls []) rfl ?_
  refine lv_aload_n hx hb d_Router_init_4 rfl (lv_at hl 0 rfl) ?_
  refine lv_iconst (v := 4) hx hb d_Router_init_5 (by decide) ?_
  refine p_newa (atype := .int) (ty := .int) (a0 := (4, .inl (fun _ => 0))) (N' := 4) hx hb (hts _ ac_int) rfl hK hP hz hS 0 rfl (fun q => q) rfl (by decide) (by decide) (by decide) (by decide) (by decide) d_Router_init_6 (fun H hP hz hS => ?_)
  have he1 := (va_up_ne E (k := j) (zs G 4) (show i ≠ j by omega)).trans he
  refine p_putF (v := .ref (h + j)) (ty := .array .int) (C := R_Router) (T := F_Router) (N := 3) hx hb hts in_Router t_Router ty_Router nm_Router hown hK hP hz hS (show i < j + 1 by omega) he1 rfl 0 (by decide) (hts _ fi_Router_9) rfl hin rfl (by decide +kernel) rfl rfl (Nat.le_of_ble_eq_true rfl) d_Router_init_8 (fun H locs hP hz hS => ?_)
  generalize hE2 : va_up (va_up E j (zs G 4)) i (.inr (3, [Value.null, Value.null, Value.null].set 0 (.ref (h + j)))) = E2 at hP
  have g1 : E2 i = .inr (3, [.ref (h + j), .null, .null]) := by rw [← hE2]; exact va_up_self _ _ _
  have g2 : E2 j = zs G 4 := by rw [← hE2, va_up_ne _ _ (by omega)]; exact va_up_self _ _ _
  have g3 : ∀ a, a < j → a ≠ i → E2 a = E a := fun a ha hne => by rw [← hE2, va_up_ne _ _ hne, va_up_ne _ _ (by omega)]
  clear hE2
  refine lv_aload_n hx hb d_Router_init_11 rfl (lv_at hl 0 rfl) ?_
  refine lv_bipush (v := 6) hx hb d_Router_init_12 (by decide) ?_
  refine lv_iconst (v := 4) hx hb d_Router_init_14 (by decide) ?_
  refine p_mna (N' := 6) (K' := 4) hx hb hown (hts _ cl_Router_15) hk.1 (hts _ ac_int) hK hP hz hS rfl rfl (by decide) (by decide) (by decide) (by decide) (by decide) (by decide) (by decide) (by decide) d_Router_init_15 (fun H hP hz hS => ?_)
  generalize hE3 : (fun a => if a = j + 1 then Sum.inl (G 1, 6, Sum.inr (Sum.inr (Sum.inr (Sum.inr (fun i => if i < 6 then some (h + (j + 1 + 1 + i)) else none))))) else if j + 1 < a then Sum.inl (G 0, 4, Sum.inl (fun _ => 0)) else E2 a) = E3 at hP
  have g4 : E3 (j + 1) = gr G 6 (h + (j + 2)) := by
    rw [← hE3]
    show (if j + 1 = j + 1 then _ else _) = _
    rw [if_pos rfl]
    exact gr_eq (fun i _ => by omega)
  have g5 : ∀ a, j + 1 < a → E3 a = zs G 4 := fun a ha => by rw [← hE3]; show (if a = j + 1 then _ else if j + 1 < a then _ else _) = _; rw [if_neg (by omega), if_pos ha]
  have g6 : ∀ a, a < j + 1 → E3 a = E2 a := fun a ha => by rw [← hE3]; show (if a = j + 1 then _ else if j + 1 < a then _ else _) = _; rw [if_neg (by omega), if_neg (by omega)]
  clear hE3
  refine p_putF (v := .ref (h + (j + 1))) (ty := .array (.array .int)) (C := R_Router) (T := F_Router) (N := 3) hx hb hts in_Router t_Router ty_Router nm_Router hown hK hP hz hS (show i < j + 1 + 1 + 6 by omega) ((g6 i (by omega)).trans g1) rfl 1 (by decide) (hts _ fi_Router_17) rfl hin rfl (by decide +kernel) rfl rfl (Nat.le_of_ble_eq_true rfl) d_Router_init_19 (fun H locs hP hz hS => ?_)
  refine lv_aload_n hx hb d_Router_init_22 rfl (lv_at hl 0 rfl) ?_
  refine lv_bipush (v := 8) hx hb d_Router_init_23 (by decide) ?_
  refine p_newa (atype := .int) (ty := .int) (a0 := (8, .inl (fun _ => 0))) (N' := 8) hx hb (hts _ ac_int) rfl hK hP hz hS 0 rfl (fun q => q) rfl (by decide) (by decide) (by decide) (by decide) (by decide) d_Router_init_25 (fun H hP hz hS => ?_)
  refine p_putF (v := .ref (h + (j + 1 + 1 + 6))) (ty := .array .int) (C := R_Router) (T := F_Router) (N := 3) hx hb hts in_Router t_Router ty_Router nm_Router hown hK hP hz hS (show i < j + 1 + 1 + 6 + 1 by omega) ((va_up_ne _ _ (by omega)).trans (va_up_self _ _ _)) rfl 2 (by decide) (hts _ fi_Router_20) rfl hin rfl (by decide +kernel) rfl rfl (Nat.le_of_ble_eq_true rfl) d_Router_init_27 (fun H locs hP hz hS => ?_)
  refine i_ret hx hb hr hlk ⟨va_up_self _ _ _, ?_, ?_, ?_, ?_, ?_⟩ hz hP hS d_Router_init_30
  · rw [va_up_ne _ _ (by omega), va_up_ne _ _ (by omega), va_up_ne _ _ (by omega), g6 j (by omega)]; exact g2
  · rw [va_up_ne _ _ (by omega), va_up_ne _ _ (by omega), va_up_ne _ _ (by omega)]; exact g4
  · intro q hq
    rw [va_up_ne _ _ (by omega), va_up_ne _ _ (by omega), va_up_ne _ _ (by omega)]; exact g5 _ (by omega)
  · rw [va_up_ne _ _ (by omega)]; exact va_up_self _ _ _
  · intro a ha hne
    rw [va_up_ne _ _ hne, va_up_ne _ _ (by omega), va_up_ne _ _ hne, g6 a (by omega)]; exact g3 a ha hne
set_option maxHeartbeats 400000 in
set_option maxRecDepth 100000 in
theorem i_fill {l : Launch} {D : va_G} {G : Nat → ClassId} {h j i : Nat} {E : Nat → va_E} {N : Nat} {v : Int32} (hi : i < j) (he : E i = zs G N) (hN : N < 2 ^ 31) :
    Met l y_Arr_fill (wc y_Arr_fill b_Arr_fill 4 none) { frames := 0, cells := 0, slots := 0, locals := 0 } (va_Pc [.ref (h + i), .int v] (ctB D G h j E)) (ctQ D h j (fun E' => E' i = fl G N v ∧ ∀ a, a < j → a ≠ i → E' a = E a)) 0 0 (fun q => h ≤ q) := by
  refine k_metC (by decide) (Nat.le_of_ble_eq_true rfl) ?_
  intro p e s m args below meth c S hin hr hlk hB ls hl
  obtain ⟨hx, hb, hml, hown, hts⟩ := id S
  obtain ⟨hz, hP, hK, hk⟩ := hB
  have hl : lv_has ls 4 [(0, .ref (h + i)), (1, .int v)] := hl
  have hS : va_S (fun q => h ≤ q) s.heap s.heap [] := va_S.rf
  have L : ∀ (d k : Nat) (F : Nat → va_E) (H : Heap) (locs : List Loc) (ls : Array Slot), k + d = N → F i = .inl (G 0, N, .inl (fun a => if a < k then v else 0)) → (∀ a, a < j → a ≠ i → F a = E a) → lv_has ls 4 [(3, .int (nI N)), (2, .int (nI k)), (0, .ref (h + i)), (1, .int v)] → va_P D cls (aw h j F) H → H.size = h + j → va_S (fun q => h ≤ q) s.heap H locs →
      W p l e { frames := 0, cells := 0, slots := 0, locals := 0 } s m args below meth c H locs 0 0 (MQ below (ctQ D h j (fun E' => E' i = fl G N v ∧ ∀ a, a < j → a ≠ i → E' a = E a)) args s 0 0 (fun q => h ≤ q)) (F0 m 5 ls []) := by
    intro d
    induction d with
    | zero =>
      intro k F H locs ls hkd hF ho hl hP hz hS
      have hk9 : k = N := by omega
      subst hk9
      refine lv_iload_n hx hb d_Arr_fill_5 rfl (lv_at hl 1 rfl) ?_
      refine lv_iload_n hx hb d_Arr_fill_6 rfl (lv_at hl 0 rfl) ?_
      refine lv_icmp_ge (tgt := 20) hx hb d_Arr_fill_7 (by decide) (fun _ => ?_) (fun h9 => absurd (nI_le (Nat.le_refl k) hN) h9)
      exact i_ret hx hb hr hlk ⟨hF, ho⟩ hz hP hS d_Arr_fill_20
    | succ d ih =>
      intro k F H locs ls hkd hF ho hl hP hz hS
      refine lv_iload_n hx hb d_Arr_fill_5 rfl (lv_at hl 1 rfl) ?_
      refine lv_iload_n hx hb d_Arr_fill_6 rfl (lv_at hl 0 rfl) ?_
      refine lv_icmp_ge (tgt := 20) hx hb d_Arr_fill_7 (by decide) (fun h9 => absurd h9 (nI_ge (by omega) hN)) (fun _ => ?_)
      refine lv_aload_n hx hb d_Arr_fill_10 rfl (lv_at hl 2 rfl) ?_
      refine lv_iload_n hx hb d_Arr_fill_11 rfl (lv_at hl 1 rfl) ?_
      refine lv_iload_n hx hb d_Arr_fill_12 rfl (lv_at hl 3 rfl) ?_
      refine p_iast hx hb hK hP hz hS hi 0 hF rfl (ix_nI (show k < N by omega) hN) d_Arr_fill_13 (fun H locs hP hz hS => ?_)
      refine lv_iinc (v := nI k + 1) (lv' := [(2, .int (nI k + 1)), (3, .int (nI N)), (0, .ref (h + i)), (1, .int v)]) hx hb d_Arr_fill_14 hl (k := 1) rfl rfl (by decide) rfl (fun ls hl => ?_)
      refine lv_goto (tgt := 5) hx hb d_Arr_fill_17 (by decide) ?_
      rw [nI_1] at hl
      refine ih (k + 1) _ H locs ls (by omega) ?_ (fun a ha hne => (va_up_ne _ _ hne).trans (ho a ha hne)) (lv_sub hl [1, 0, 2, 3] rfl) hP hz hS
      rw [va_up_self]
      have e9 : upd (fun a => if a < k then v else 0) k v = fun a => if a < k + 1 then v else 0 := by
        funext a
        unfold upd
        by_cases h1 : a = k
        · rw [if_pos h1, if_pos (by omega)]
        · rw [if_neg h1]
          show (if a < k then v else 0) = if a < k + 1 then v else 0
          by_cases h2 : a < k
          · rw [if_pos h2, if_pos (by omega)]
          · rw [if_neg h2, if_neg (by omega)]
      rw [e9]
  refine lv_iconst (v := 0) hx hb d_Arr_fill_0 (by decide) ?_
  refine lv_istore_n (lv' := [(2, .int 0), (0, .ref (h + i)), (1, .int v)]) hx hb d_Arr_fill_1 rfl hl (by decide) rfl (fun ls hl => ?_)
  refine lv_aload_n hx hb d_Arr_fill_2 rfl (lv_at hl 1 rfl) ?_
  refine va_alen (v := nI N) hx hb hK hP i 0 (wl_to hi he) rfl rfl d_Arr_fill_3 ?_
  refine lv_istore_n (lv' := [(3, .int (nI N)), (2, .int 0), (0, .ref (h + i)), (1, .int v)]) hx hb d_Arr_fill_4 rfl hl (by decide) rfl (fun ls hl => ?_)
  refine L N 0 E s.heap [] ls (by omega) ?_ (fun _ _ _ => rfl) hl hP hz hS
  have e0 : (fun a : Nat => if a < 0 then v else (0 : Int32)) = fun _ => 0 := by
    funext a
    rw [if_neg (Nat.not_lt_zero a)]
  rw [e0]
  exact he
set_option maxHeartbeats 1000000 in
set_option maxRecDepth 100000 in
theorem i_Ways {l : Launch} {D : va_G} {G : Nat → ClassId} {h j i n : Nat} {E : Nat → va_E} (hn : 2 ≤ n ∧ n ≤ 6) (hi : i < j) (he : E i = .inr (1, [.int 0, .null, .null, .null])) :
    Met l y_Ways_init (wc y_Ways_init b_Ways_init 3 none) { frames := 1, cells := 13, slots := 74, locals := 30 } (va_Pc [.ref (h + i), .int (nI n)] (ctB D G h j E)) (ctQ D h (j + 7 + n) (fun E' => E' i = .inr (1, [.int (nI n), .ref (h + j), .ref (h + (j + 1 + n)), .ref (h + (j + 2 + n))]) ∧ E' j = gr G n (h + (j + 1)) ∧ (∀ a, a < n → E' (j + 1 + a) = zs G n) ∧ E' (j + 1 + n) = fl G 4 (-1) ∧ E' (j + 2 + n) = gr G 4 (h + (j + 3 + n)) ∧ (∀ q, q < 4 → E' (j + 3 + n + q) = fl G n 1000) ∧ ∀ a, a < j → a ≠ i → E' a = E a)) 13 74 (fun q => h ≤ q) := by
  refine k_metC (by decide) (Nat.le_of_ble_eq_true rfl) ?_
  intro p e s m args below meth c S hin hr hlk hB ls hl
  obtain ⟨hx, hb, hml, hown, hts⟩ := id S
  obtain ⟨hz, hP, hK, hk⟩ := hB
  have hnn : n * n ≤ 36 := Nat.mul_le_mul hn.2 hn.2
  have hl : lv_has ls 3 [(0, .ref (h + i)), (1, .int (nI n))] := hl
  have hS : va_S (fun q => h ≤ q) s.heap s.heap [] := va_S.rf
  refine lv_aload_n hx hb d_Ways_init_0 rfl (lv_at hl 0 rfl) ?_
  refine W.objInit hx hb hown (hts _ oi_Ways) (hts _ oi_m) (hts _ oi_c) rfl (by rw [hml]; exact hl.1) rfl d_Ways_init_1 (Nat.le_of_ble_eq_true rfl) (Nat.le_of_ble_eq_true rfl) ?_
  refine W.eq (g2 := F0 m 4 ls []) rfl ?_
  refine lv_aload_n hx hb d_Ways_init_4 rfl (lv_at hl 0 rfl) ?_
  refine lv_iload_n hx hb d_Ways_init_5 rfl (lv_at hl 1 rfl) ?_
  refine p_putF (v := .int (nI n)) (ty := .int) (C := R_Ways) (T := F_Ways) (N := 4) hx hb hts in_Ways t_Ways ty_Ways nm_Ways hown hK hP hz hS hi he rfl 0 (by decide) (hts _ fi_Ways_9) rfl hin rfl (by decide +kernel) rfl rfl (Nat.le_of_ble_eq_true rfl) d_Ways_init_6 (fun H locs hP hz hS => ?_)
  refine lv_aload_n hx hb d_Ways_init_9 rfl (lv_at hl 0 rfl) ?_
  refine lv_iload_n hx hb d_Ways_init_10 rfl (lv_at hl 1 rfl) ?_
  refine lv_iload_n hx hb d_Ways_init_11 rfl (lv_at hl 1 rfl) ?_
  refine p_mna (N' := n) (K' := n) hx hb hown (hts _ cl_Ways_15) hk.1 (hts _ ac_int) hK hP hz hS rfl rfl (nI_pos (by omega)) (nI_pos (by omega)) (nI_clamp (by omega)) (nI_clamp (by omega)) (by omega) (by omega) (by show 0 + (1 + n) ≤ 13; omega) (by show 0 + (n + n * n) ≤ 74; omega) d_Ways_init_12 (fun H hP hz hS => ?_)
  refine W.widen (k := 7) (n := 42) (by omega) (by omega) ?_
  generalize hE3 : (fun a => if a = j then Sum.inl (G 1, n, Sum.inr (Sum.inr (Sum.inr (Sum.inr (fun i => if i < n then some (h + (j + 1 + i)) else none))))) else if j < a then Sum.inl (G 0, n, Sum.inl (fun _ => 0)) else va_up E i (.inr (1, [Value.int 0, Value.null, Value.null, Value.null].set 0 (.int (nI n)))) a) = E3 at hP
  have g1 : E3 j = gr G n (h + (j + 1)) := by
    rw [← hE3]
    show (if j = j then _ else _) = _
    rw [if_pos rfl]
    exact gr_eq (fun i _ => by omega)
  have g2 : ∀ a, j < a → E3 a = zs G n := fun a ha => by rw [← hE3]; show (if a = j then _ else if j < a then _ else _) = _; rw [if_neg (by omega), if_pos ha]
  have g3 : ∀ a, a < j → E3 a = va_up E i (.inr (1, [Value.int (nI n), Value.null, Value.null, Value.null])) a := fun a ha => by rw [← hE3]; show (if a = j then _ else if j < a then _ else _) = _; rw [if_neg (by omega), if_neg (by omega)]; rfl
  clear hE3
  refine p_putF (v := .ref (h + j)) (ty := .array (.array .int)) (C := R_Ways) (T := F_Ways) (N := 4) hx hb hts in_Ways t_Ways ty_Ways nm_Ways hown hK hP hz hS (show i < j + 1 + n by omega) ((g3 i hi).trans (va_up_self _ _ _)) rfl 1 (by decide) (hts _ fi_Ways_17) rfl hin rfl (by decide +kernel) rfl rfl (Nat.le_of_ble_eq_true rfl) d_Ways_init_16 (fun H locs hP hz hS => ?_)
  refine lv_aload_n hx hb d_Ways_init_19 rfl (lv_at hl 0 rfl) ?_
  refine lv_iconst (v := 4) hx hb d_Ways_init_20 (by decide) ?_
  refine p_newa (atype := .int) (ty := .int) (a0 := (4, .inl (fun _ => 0))) (N' := 4) hx hb (hts _ ac_int) rfl hK hP hz hS 0 rfl (fun q => q) rfl (by decide) (by decide) (by decide) (by decide) (by decide) d_Ways_init_21 (fun H hP hz hS => ?_)
  refine p_putF (v := .ref (h + (j + 1 + n))) (ty := .array .int) (C := R_Ways) (T := F_Ways) (N := 4) hx hb hts in_Ways t_Ways ty_Ways nm_Ways hown hK hP hz hS (show i < j + 1 + n + 1 by omega) ((va_up_ne _ _ (by omega)).trans (va_up_self _ _ _)) rfl 2 (by decide) (hts _ fi_Ways_20) rfl hin rfl (by decide +kernel) rfl rfl (Nat.le_of_ble_eq_true rfl) d_Ways_init_23 (fun H locs hP hz hS => ?_)
  generalize hE5 : va_up (va_up (va_up E3 i (.inr (1, [Value.int (nI n), Value.null, Value.null, Value.null].set 1 (.ref (h + j))))) (j + 1 + n) (zs G 4)) i (.inr (1, ([Value.int (nI n), Value.null, Value.null, Value.null].set 1 (.ref (h + j))).set 2 (.ref (h + (j + 1 + n))))) = E5 at hP
  have f1 : E5 i = .inr (1, [.int (nI n), .ref (h + j), .ref (h + (j + 1 + n)), .null]) := by rw [← hE5]; exact va_up_self _ _ _
  have f2 : E5 (j + 1 + n) = zs G 4 := by rw [← hE5, va_up_ne _ _ (by omega)]; exact va_up_self _ _ _
  have f3 : ∀ a, a < j + 1 + n → a ≠ i → E5 a = E3 a := fun a ha hne => by rw [← hE5, va_up_ne _ _ hne, va_up_ne _ _ (by omega), va_up_ne _ _ hne]
  clear hE5
  refine lv_aload_n hx hb d_Ways_init_26 rfl (lv_at hl 0 rfl) ?_
  refine va_get (D := D) (ci := 1) (v := .ref (h + (j + 1 + n))) (C := R_Ways) (T := F_Ways) (N := 4) hx hb hts in_Ways hown hK hP i (wl_to (show i < j + 1 + n + 1 by omega) f1) rfl 2 (by decide) (hts _ fi_Ways_20) (fun _ h => h) rfl d_Ways_init_27 ?_
  refine lv_iconst (v := (-1)) hx hb d_Ways_init_30 (by decide) ?_
  refine k_ct (k_sta S (i_fill (l := l) (D := D) (G := G) (h := h) (j := j + 1 + n + 1) (i := j + 1 + n) (E := E5) (N := 4) (v := -1) (by omega) f2 (by decide)) g_Ways_24 hd_Arr_fill ⟨rfl, rfl⟩ ⟨Nat.le_of_ble_eq_true rfl, Nat.le_of_ble_eq_true rfl⟩ ctB_blind (ctB_pre hz hP hK hk) rfl hl.1 rfl (Nat.le_of_ble_eq_true rfl) d_Ways_init_31 (by decide) (by decide)) hS (fun E6 H locs hE6 hP hz hS => ?_)
  obtain ⟨q1, q2⟩ := hE6
  refine lv_aload_n hx hb d_Ways_init_34 rfl (lv_at hl 0 rfl) ?_
  refine lv_iconst (v := 4) hx hb d_Ways_init_35 (by decide) ?_
  refine lv_iload_n hx hb d_Ways_init_36 rfl (lv_at hl 1 rfl) ?_
  refine p_mna (N' := 4) (K' := n) hx hb hown (hts _ cl_Ways_15) hk.1 (hts _ ac_int) hK hP hz hS rfl rfl (by decide) (nI_pos (by omega)) (by decide) (nI_clamp (by omega)) (by omega) (by omega) (by decide) (by show 42 + 4 + 0 + (4 + 4 * n) ≤ 74; omega) d_Ways_init_37 (fun H hP hz hS => ?_)
  refine W.widen (k := 13) (n := 74) (by omega) (by omega) ?_
  generalize hE7 : (fun a => if a = j + 1 + n + 1 then Sum.inl (G 1, 4, Sum.inr (Sum.inr (Sum.inr (Sum.inr (fun i => if i < 4 then some (h + (j + 1 + n + 1 + 1 + i)) else none))))) else if j + 1 + n + 1 < a then Sum.inl (G 0, n, Sum.inl (fun _ => 0)) else E6 a) = E7 at hP
  have r1 : E7 (j + 2 + n) = gr G 4 (h + (j + 3 + n)) := by
    rw [← hE7]
    show (if j + 2 + n = j + 1 + n + 1 then _ else _) = _
    rw [if_pos (by omega)]
    exact gr_eq (fun i _ => by omega)
  have r2 : ∀ a, j + 2 + n < a → E7 a = zs G n := fun a ha => by rw [← hE7]; show (if a = j + 1 + n + 1 then _ else if j + 1 + n + 1 < a then _ else _) = _; rw [if_neg (by omega), if_pos (by omega)]
  have r3 : ∀ a, a < j + 2 + n → E7 a = E6 a := fun a ha => by rw [← hE7]; show (if a = j + 1 + n + 1 then _ else if j + 1 + n + 1 < a then _ else _) = _; rw [if_neg (by omega), if_neg (by omega)]
  clear hE7
  have hP : va_P D cls (aw h (j + 7 + n) E7) H := by rw [show j + 7 + n = j + 1 + n + 1 + 1 + 4 by omega]; exact hP
  have hz : H.size = h + (j + 7 + n) := by rw [hz]; omega
  refine W.eq (g2 := F0 m 41 ls [.ref (h + (j + 2 + n)), .ref (h + i)]) (by rw [show j + 1 + n + 1 = j + 2 + n by omega]) ?_
  refine p_putF (v := .ref (h + (j + 2 + n))) (ty := .array (.array .int)) (C := R_Ways) (T := F_Ways) (N := 4) hx hb hts in_Ways t_Ways ty_Ways nm_Ways hown hK hP hz hS (show i < j + 7 + n by omega) ((r3 i (by omega)).trans ((q2 i (by omega) (by omega)).trans f1)) rfl 3 (by decide) (hts _ fi_Ways_30) rfl hin rfl (by decide +kernel) rfl rfl (Nat.le_of_ble_eq_true rfl) d_Ways_init_41 (fun H locs hP hz hS => ?_)
  generalize hE8 : va_up E7 i (.inr (1, [Value.int (nI n), Value.ref (h + j), Value.ref (h + (j + 1 + n)), Value.null].set 3 (.ref (h + (j + 2 + n))))) = E8 at hP
  have u1 : E8 i = .inr (1, [.int (nI n), .ref (h + j), .ref (h + (j + 1 + n)), .ref (h + (j + 2 + n))]) := by rw [← hE8]; exact va_up_self _ _ _
  have u2 : ∀ a, a ≠ i → E8 a = E7 a := fun a hne => by rw [← hE8]; exact va_up_ne _ _ hne
  clear hE8
  refine lv_iconst (v := 0) hx hb d_Ways_init_44 (by decide) ?_
  refine lv_istore_n (lv' := [(2, .int 0), (0, .ref (h + i)), (1, .int (nI n))]) hx hb d_Ways_init_45 rfl hl (by decide) rfl (fun ls hl => ?_)
  have L : ∀ (d k : Nat) (F : Nat → va_E) (H : Heap) (locs : List Loc) (ls : Array Slot), k + d = 4 → (∀ a, a < j + 3 + n → F a = E8 a) → (∀ q, q < k → F (j + 3 + n + q) = fl G n 1000) → (∀ q, k ≤ q → q < 4 → F (j + 3 + n + q) = zs G n) → lv_has ls 3 [(2, .int (nI k)), (0, .ref (h + i)), (1, .int (nI n))] → va_P D cls (aw h (j + 7 + n) F) H → H.size = h + (j + 7 + n) → va_S (fun q => h ≤ q) s.heap H locs →
      W p l e { frames := 1, cells := 13, slots := 74, locals := 30 } s m args below meth c H locs 13 74 (MQ below (ctQ D h (j + 7 + n) (fun E' => E' i = .inr (1, [.int (nI n), .ref (h + j), .ref (h + (j + 1 + n)), .ref (h + (j + 2 + n))]) ∧ E' j = gr G n (h + (j + 1)) ∧ (∀ a, a < n → E' (j + 1 + a) = zs G n) ∧ E' (j + 1 + n) = fl G 4 (-1) ∧ E' (j + 2 + n) = gr G 4 (h + (j + 3 + n)) ∧ (∀ q, q < 4 → E' (j + 3 + n + q) = fl G n 1000) ∧ ∀ a, a < j → a ≠ i → E' a = E a)) args s 13 74 (fun q => h ≤ q)) (F0 m 46 ls []) := by
    intro d
    induction d with
    | zero =>
      intro k F H locs ls hkd w1 w2 w3 hl hP hz hS
      have hk9 : k = 4 := by omega
      subst hk9
      refine lv_iload_n hx hb d_Ways_init_46 rfl (lv_at hl 0 rfl) ?_
      refine lv_iconst (v := 4) hx hb d_Ways_init_47 (by decide) ?_
      refine lv_icmp_ge (tgt := 69) hx hb d_Ways_init_48 (by decide) (fun _ => ?_) (fun h9 => absurd h9 (by decide))
      refine i_ret hx hb hr hlk ⟨(w1 i (by omega)).trans u1, ?_, fun a ha => ?_, ?_, ?_, w2, fun a ha hne => ?_⟩ hz hP hS d_Ways_init_69
      · rw [w1 j (by omega), u2 j (by omega), r3 j (by omega), q2 j (by omega) (by omega), f3 j (by omega) (by omega)]; exact g1
      · rw [w1 _ (by omega), u2 _ (by omega), r3 _ (by omega), q2 _ (by omega) (by omega), f3 _ (by omega) (by omega)]; exact g2 _ (by omega)
      · rw [w1 _ (by omega), u2 _ (by omega), r3 _ (by omega)]; exact q1
      · rw [w1 _ (by omega), u2 _ (by omega)]; exact r1
      · rw [w1 a (by omega), u2 a hne, r3 a (by omega), q2 a (by omega) (by omega), f3 a (by omega) hne, g3 a ha]; exact va_up_ne _ _ hne
    | succ d ih =>
      intro k F H locs ls hkd w1 w2 w3 hl hP hz hS
      refine lv_iload_n hx hb d_Ways_init_46 rfl (lv_at hl 0 rfl) ?_
      refine lv_iconst (v := 4) hx hb d_Ways_init_47 (by decide) ?_
      refine lv_icmp_ge (tgt := 69) hx hb d_Ways_init_48 (by decide) (fun h9 => absurd h9 (nI_ge (a := k) (b := 4) (by omega) (by decide))) (fun _ => ?_)
      refine lv_aload_n hx hb d_Ways_init_51 rfl (lv_at hl 1 rfl) ?_
      refine va_get (D := D) (ci := 1) (v := .ref (h + (j + 2 + n))) (C := R_Ways) (T := F_Ways) (N := 4) hx hb hts in_Ways hown hK hP i (wl_to (show i < j + 7 + n by omega) ((w1 i (by omega)).trans u1)) rfl 3 (by decide) (hts _ fi_Ways_30) (fun _ h => h) rfl d_Ways_init_52 ?_
      refine lv_iload_n hx hb d_Ways_init_55 rfl (lv_at hl 0 rfl) ?_
      refine k_rald (r := h + (j + 3 + n + k)) hx hb hK hP (j + 2 + n) 1 (by omega) ((w1 _ (by omega)).trans ((u2 _ (by omega)).trans r1)) rfl (ix_nI (show k < 4 by omega) (by decide)) (by rw [if_pos (by omega)]; congr 1; omega) d_Ways_init_56 ?_
      refine lv_sipush (v := 1000) hx hb d_Ways_init_57 (by decide) ?_
      refine k_ct (k_sta S (i_fill (l := l) (D := D) (G := G) (h := h) (j := j + 7 + n) (i := j + 3 + n + k) (E := F) (N := n) (v := 1000) (by omega) (w3 k (Nat.le_refl _) (by omega)) (by omega)) g_Ways_24 hd_Arr_fill ⟨rfl, rfl⟩ ⟨Nat.le_of_ble_eq_true rfl, Nat.le_of_ble_eq_true rfl⟩ ctB_blind (ctB_pre hz hP hK hk) rfl hl.1 rfl (Nat.le_of_ble_eq_true rfl) d_Ways_init_60 (by decide) (by decide)) hS (fun F2 H locs hF2 hP hz hS => ?_)
      obtain ⟨z1, z2⟩ := hF2
      refine lv_iinc (v := nI k + 1) (lv' := [(2, .int (nI k + 1)), (0, .ref (h + i)), (1, .int (nI n))]) hx hb d_Ways_init_63 hl (k := 0) rfl rfl (by decide) rfl (fun ls hl => ?_)
      refine lv_goto (tgt := 46) hx hb d_Ways_init_66 (by decide) ?_
      rw [nI_1] at hl
      refine ih (k + 1) F2 H locs ls (by omega) (fun a ha => (z2 a (by omega) (by omega)).trans (w1 a ha)) (fun q hq => ?_) (fun q hq1 hq2 => (z2 _ (by omega) (by omega)).trans (w3 q (by omega) hq2)) hl hP hz hS
      by_cases hqk : q = k
      · subst hqk; exact z1
      · exact (z2 _ (by omega) (by omega)).trans (w2 q (by omega))
  exact L 4 0 E8 H locs ls (by omega) (fun _ _ => rfl) (fun q hq => absurd hq (Nat.not_lt_zero _)) (fun q _ hq => (u2 _ (by omega)).trans (r2 _ (by omega))) hl hP hz hS
