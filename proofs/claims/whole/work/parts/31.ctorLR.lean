/-! the class's own constructor -/
abbrev szI (n0 : Int32) : Int32 := if 2 < (if n0 < 6 then n0 else 6) then (if n0 < 6 then n0 else 6) else 2
def rtS (G : Nat → ClassId) (h n : Nat) (F : Nat → va_E) (r : Nat) : Prop := F (12 + n + 10 * r) = .inr (3, [.ref (h + (13 + n + 10 * r)), .ref (h + (14 + n + 10 * r)), .ref (h + (21 + n + 10 * r))]) ∧ F (13 + n + 10 * r) = zs G 4 ∧ F (14 + n + 10 * r) = gr G 6 (h + (15 + n + 10 * r)) ∧ (∀ q, q < 6 → F (15 + n + 10 * r + q) = zs G 4) ∧ F (21 + n + 10 * r) = zs G 8
def wyS (G : Nat → ClassId) (h n : Nat) (F : Nat → va_E) : Prop := F 1 = .inr (1, [.int (nI n), .ref (h + 2), .ref (h + (3 + n)), .ref (h + (4 + n))]) ∧ F 2 = gr G n (h + 3) ∧ (∀ a, a < n → F (3 + a) = zs G n) ∧ F (3 + n) = fl G 4 (-1) ∧ F (4 + n) = gr G 4 (h + (5 + n)) ∧ ∀ q, q < 4 → F (5 + n + q) = fl G n 1000
def raS (G : Nat → ClassId) (h n k : Nat) (F : Nat → va_E) : Prop := ∃ f : Nat → Option Nat, F (11 + n) = .inl (G 2, n, .inr (.inr (.inr (.inr f)))) ∧ ∀ r, r < k → f r = some (h + (12 + n + 10 * r))
def lrS (G : Nat → ClassId) (h n : Nat) (F : Nat → va_E) : Prop := F 0 = .inr (0, [.int (nI n), .ref (h + 1), .ref (h + (9 + n)), .ref (h + (11 + n)), .ref (h + (12 + 11 * n)), .ref (h + (13 + 11 * n))]) ∧ wyS G h n F ∧ (F (9 + n) = .inr (2, [.ref (h + (10 + n)), .int 0, .int 0]) ∧ F (10 + n) = zs G 240) ∧ raS G h n n F ∧ (∀ r, r < n → rtS G h n F r) ∧
  F (12 + 11 * n) = fl G 4 (-1) ∧ F (13 + 11 * n) = .inr (4, [.ref (h + (14 + 11 * n)), .ref (h + (15 + 11 * n)), .int 0, .int 0, .int 0, .int 0, .int 0]) ∧ F (14 + 11 * n) = zs G 255 ∧ F (15 + 11 * n) = zs G 255
theorem rtS_of {G : Nat → ClassId} {h n r b : Nat} {F F' : Nat → va_E} (h1 : rtS G h n F r) (hb : 22 + n + 10 * r ≤ b) (he : ∀ a, 12 + n ≤ a → a < b → F' a = F a) : rtS G h n F' r := by
  obtain ⟨a1, a2, a3, a4, a5⟩ := h1
  exact ⟨(he _ (by omega) (by omega)).trans a1, (he _ (by omega) (by omega)).trans a2, (he _ (by omega) (by omega)).trans a3, fun q hq => (he _ (by omega) (by omega)).trans (a4 q hq), (he _ (by omega) (by omega)).trans a5⟩
theorem wyS_of {G : Nat → ClassId} {h n : Nat} {F F' : Nat → va_E} (h1 : wyS G h n F) (he : ∀ a, 1 ≤ a → a < 9 + n → F' a = F a) : wyS G h n F' := by
  obtain ⟨a1, a2, a3, a4, a5, a6⟩ := h1
  exact ⟨(he _ (by omega) (by omega)).trans a1, (he _ (by omega) (by omega)).trans a2, fun a ha => (he _ (by omega) (by omega)).trans (a3 a ha), (he _ (by omega) (by omega)).trans a4, (he _ (by omega) (by omega)).trans a5, fun q hq => (he _ (by omega) (by omega)).trans (a6 q hq)⟩
theorem aw_len {D : va_G} {cl : List vw_C} {h j j' : Nat} {E : Nat → va_E} {H : Heap} (e : j = j') (hP : va_P D cl (aw h j E) H) : va_P D cl (aw h j' E) H := e ▸ hP
set_option maxHeartbeats 8000000 in
set_option maxRecDepth 100000 in
theorem i_LR {l : Launch} {D : va_G} {G : Nat → ClassId} {h n : Nat} {E : Nat → va_E} {n0 : Int32} (hn : 2 ≤ n ∧ n ≤ 6) (hsz : szI n0 = nI n) (he : E 0 = .inr (0, [.int 0, .null, .null, .null, .null, .null])) :
    Met l y_LR_init (wc y_LR_init b_LR_init 3 none) { frames := 2, cells := 81, slots := 1118, locals := 60 } (va_Pc [.ref (h + 0), .int n0] (ctB D G h 1 E)) (ctQ D h (16 + 11 * n) (lrS G h n)) 81 1118 (fun q => h ≤ q) := by
  refine k_metC (by decide) (Nat.le_of_ble_eq_true rfl) ?_
  intro p e s m args below meth c S hin hr hlk hB ls hl
  obtain ⟨hx, hb, hml, hown, hts⟩ := id S
  obtain ⟨hz, hP, hK, hk⟩ := hB
  have hl : lv_has ls 3 [(0, .ref (h + 0)), (1, .int n0)] := hl
  have hS : va_S (fun q => h ≤ q) s.heap s.heap [] := va_S.rf
  refine lv_aload_n hx hb d_LR_init_0 rfl (lv_at hl 0 rfl) ?_
  refine W.objInit hx hb hown (hts _ oi_LR) (hts _ oi_m) (hts _ oi_c) rfl (by rw [hml]; exact hl.1) rfl d_LR_init_1 (Nat.le_of_ble_eq_true rfl) (Nat.le_of_ble_eq_true rfl) ?_
  refine W.eq (g2 := F0 m 4 ls []) rfl ?_
  refine lv_aload_n hx hb d_LR_init_4 rfl (lv_at hl 0 rfl) ?_
  refine lv_iconst (v := 2) hx hb d_LR_init_5 (by decide) ?_
  refine lv_bipush (v := 6) hx hb d_LR_init_6 (by decide) ?_
  refine lv_iload_n hx hb d_LR_init_8 rfl (lv_at hl 1 rfl) ?_
  refine va_mmin hx hb (hml.trans hl.1.symm) hown (hts _ ml_LR_9) (hts _ ma_smin) (hts _ ma_ini) (hts _ ma_cmin) (by decide) (Nat.le_of_ble_eq_true rfl) (Nat.zero_le _) (Nat.zero_le _) d_LR_init_9 ?_
  refine va_mmax hx hb (hml.trans hl.1.symm) hown (hts _ ml_LR_15) (hts _ ma_smax) (hts _ ma_ini) (hts _ ma_cmax) (by decide) (Nat.le_of_ble_eq_true rfl) (Nat.zero_le _) (Nat.zero_le _) d_LR_init_12 ?_
  refine W.eq (g2 := F0 m 15 ls [.int (szI n0), .ref (h + 0)]) rfl ?_
  rw [hsz]
  refine p_putF (i := 0) (v := .int (nI n)) (ty := .int) (C := R_LR) (T := F_LR) (N := 6) hx hb hts in_LR t_LR ty_LR nm_LR hown hK hP hz hS (by decide) he rfl 0 (by decide) (hts _ fi_LR_18) rfl hin rfl (by decide +kernel) rfl rfl (Nat.le_of_ble_eq_true rfl) d_LR_init_15 (fun H locs hP hz hS => ?_)
  refine lv_aload_n hx hb d_LR_init_18 rfl (lv_at hl 0 rfl) ?_
  refine p_new (ci := 1) (fs := [.int 0, .null, .null, .null]) (C := R_Ways) (T := F_Ways) (N := 4) hx hb hts in_Ways t_Ways ty_Ways hown (hts _ cl_LR_22) (hts _ cn_Ways) (hts _ ci_Ways) hK hP hz hS rfl (fun k hk => by rcases (show k = 0 ∨ k = 1 ∨ k = 2 ∨ k = 3 by omega) with rfl | rfl | rfl | rfl <;> rfl) (by decide) (by decide) d_LR_init_19 (fun H hP hz hS => ?_)
  refine lv_dup hx hb d_LR_init_22 rfl ?_
  refine lv_aload_n hx hb d_LR_init_23 rfl (lv_at hl 0 rfl) ?_
  refine va_get (D := D) (ci := 0) (v := .int (nI n)) (C := R_LR) (T := F_LR) (N := 6) hx hb hts in_LR hown hK hP 0 (wl_to (show 0 < 1 + 1 by decide) ((va_up_ne _ _ (by decide)).trans (va_up_self _ _ _))) rfl 0 (by decide) (hts _ fi_LR_18) (fun _ h => h) rfl d_LR_init_24 ?_
  refine k_ct (k_ini S (i_Ways (l := l) (D := D) (G := G) (h := h) (j := 1 + 1) (i := 1) hn (by decide) (va_up_self _ _ _)) k_Ways_init ci_Ways ml_LR_24 im_Ways_init rfl hd_Ways_init ⟨rfl, rfl⟩ ⟨Nat.le_of_ble_eq_true rfl, Nat.le_of_ble_eq_true rfl⟩ ctB_blind (ctB_pre hz hP hK hk) rfl hl.1 rfl (Nat.le_of_ble_eq_true rfl) d_LR_init_27 (by decide) (by decide)) hS (fun E2 H locs hE2 hP hz hS => ?_)
  obtain ⟨w1, w2, w3, w4, w5, w6, w7⟩ := hE2
  have hP : va_P D cls (aw h (9 + n) E2) H := by rw [show 9 + n = 1 + 1 + 7 + n by omega]; exact hP
  have hz : H.size = h + (9 + n) := by omega
  have hw : wyS G h n E2 := by
    refine ⟨?_, w2, fun a ha => ?_, ?_, ?_, fun q hq => ?_⟩
    · rw [w1, show 1 + 1 + 1 + n = 3 + n by omega, show 1 + 1 + 2 + n = 4 + n by omega]
    · have := w3 a ha
      rwa [show 1 + 1 + 1 + a = 3 + a by omega] at this
    · rwa [show 1 + 1 + 1 + n = 3 + n by omega] at w4
    · rwa [show 1 + 1 + 2 + n = 4 + n by omega, show 1 + 1 + 3 + n = 5 + n by omega] at w5
    · have := w6 q hq
      rwa [show 1 + 1 + 3 + n + q = 5 + n + q by omega] at this
  have h0 : E2 0 = .inr (0, [.int (nI n), .null, .null, .null, .null, .null]) := (w7 0 (by decide) (by decide)).trans ((va_up_ne _ _ (by decide)).trans (va_up_self _ _ _))
  clear w1 w2 w3 w4 w5 w6 w7
  refine p_putF (i := 0) (v := .ref (h + 1)) (ty := .object R_Ways) (C := R_LR) (T := F_LR) (N := 6) hx hb hts in_LR t_LR ty_LR nm_LR hown hK hP hz hS (by omega) h0 rfl 1 (by decide) (hts _ fi_LR_27) rfl hin rfl (by decide +kernel) rfl rfl (Nat.le_of_ble_eq_true rfl) d_LR_init_30 (fun H locs hP hz hS => ?_)
  refine lv_aload_n hx hb d_LR_init_33 rfl (lv_at hl 0 rfl) ?_
  refine p_new (ci := 2) (fs := [.null, .int 0, .int 0]) (C := R_Mail) (T := F_Mail) (N := 3) hx hb hts in_Mail t_Mail ty_Mail hown (hts _ cl_LR_31) (hts _ cn_Mail) (hts _ ci_Mail) hK hP hz hS rfl (fun k hk => by rcases (show k = 0 ∨ k = 1 ∨ k = 2 by omega) with rfl | rfl | rfl <;> rfl) (by decide) (by decide) d_LR_init_34 (fun H hP hz hS => ?_)
  refine lv_dup hx hb d_LR_init_37 rfl ?_
  refine k_ct (k_iniN S (i_Mail (l := l) (D := D) (G := G) (h := h) (j := 9 + n + 1) (i := 9 + n) (by omega) (va_up_self _ _ _)) k_Mail_init ci_Mail hk.2.2.1 im_Mail_init rfl hd_Mail_init ⟨rfl, rfl⟩ ⟨Nat.le_of_ble_eq_true rfl, Nat.le_of_ble_eq_true rfl⟩ ctB_blind (ctB_pre hz hP hK hk) rfl hl.1 rfl (Nat.le_of_ble_eq_true rfl) d_LR_init_38 (by decide) (by decide)) hS (fun E3 H locs hE3 hP hz hS => ?_)
  obtain ⟨m1, m2, m3⟩ := hE3
  have h1 : E3 0 = .inr (0, [.int (nI n), .ref (h + 1), .null, .null, .null, .null]) := (m3 0 (by omega) (by omega)).trans ((va_up_ne _ _ (by omega)).trans (va_up_self _ _ _))
  have hw : wyS G h n E3 := wyS_of hw (fun a ha1 ha2 => (m3 a (by omega) (by omega)).trans ((va_up_ne _ _ (by omega)).trans (va_up_ne _ _ (by omega))))
  clear m3
  refine p_putF (i := 0) (v := .ref (h + (9 + n))) (ty := .object R_Mail) (C := R_LR) (T := F_LR) (N := 6) hx hb hts in_LR t_LR ty_LR nm_LR hown hK hP hz hS (by omega) h1 rfl 2 (by decide) (hts _ fi_LR_34) rfl hin rfl (by decide +kernel) rfl rfl (Nat.le_of_ble_eq_true rfl) d_LR_init_41 (fun H locs hP hz hS => ?_)
  refine lv_aload_n hx hb d_LR_init_44 rfl (lv_at hl 0 rfl) ?_
  refine lv_aload_n hx hb d_LR_init_45 rfl (lv_at hl 0 rfl) ?_
  refine va_get (D := D) (ci := 0) (v := .int (nI n)) (C := R_LR) (T := F_LR) (N := 6) hx hb hts in_LR hown hK hP 0 (wl_to (show 0 < 9 + n + 1 + 1 by omega) (va_up_self _ _ _)) rfl 0 (by decide) (hts _ fi_LR_18) (fun _ h => h) rfl d_LR_init_46 ?_
  refine p_anew (N' := n) hx hb hown (hts _ cl_LR_38) hk.2.1 hK hP hz hS 2 rfl (nI_pos (by omega)) (nI_clamp (by omega)) (by omega) (by decide) (by show 0 + 4 + 74 + 3 + 240 + n ≤ 1118; omega) d_LR_init_49 (fun H hP hz hS => ?_)
  refine W.widen (k := 17) (n := 327) (by omega) (by omega) ?_
  refine p_putF (i := 0) (v := .ref (h + (9 + n + 1 + 1))) (ty := .array (.object R_Router)) (C := R_LR) (T := F_LR) (N := 6) hx hb hts in_LR t_LR ty_LR nm_LR hown hK hP hz hS (by omega) ((va_up_ne _ _ (by omega)).trans (va_up_self _ _ _)) rfl 3 (by decide) (hts _ fi_LR_40) rfl hin rfl (by decide +kernel) rfl rfl (Nat.le_of_ble_eq_true rfl) d_LR_init_52 (fun H locs hP hz hS => ?_)
  generalize hE5 : va_up (va_up (va_up E3 0 (.inr (0, [Value.int (nI n), Value.ref (h + 1), Value.null, Value.null, Value.null, Value.null].set 2 (.ref (h + (9 + n)))))) (9 + n + 1 + 1) (.inl (G 2, n, .inr (.inr (.inr (.inr (fun _ => none))))))) 0 (.inr (0, ([Value.int (nI n), Value.ref (h + 1), Value.null, Value.null, Value.null, Value.null].set 2 (.ref (h + (9 + n)))).set 3 (.ref (h + (9 + n + 1 + 1))))) = E5 at hP
  have c0 : E5 0 = .inr (0, [.int (nI n), .ref (h + 1), .ref (h + (9 + n)), .ref (h + (11 + n)), .null, .null]) := by
    rw [← hE5, va_up_self, show 9 + n + 1 + 1 = 11 + n by omega]
    rfl
  have c1 : E5 (11 + n) = .inl (G 2, n, .inr (.inr (.inr (.inr (fun _ => none))))) := by
    rw [← hE5, va_up_ne _ _ (by omega), show 11 + n = 9 + n + 1 + 1 by omega]
    exact va_up_self _ _ _
  have c2 : ∀ a, 1 ≤ a → a < 11 + n → E5 a = E3 a := fun a ha1 ha2 => by rw [← hE5, va_up_ne _ _ (by omega), va_up_ne _ _ (by omega), va_up_ne _ _ (by omega)]
  clear hE5
  have hw : wyS G h n E5 := wyS_of hw (fun a ha1 ha2 => c2 a ha1 (by omega))
  have hm : E5 (9 + n) = .inr (2, [.ref (h + (10 + n)), .int 0, .int 0]) ∧ E5 (10 + n) = zs G 240 := by
    refine ⟨?_, ?_⟩
    · rw [c2 _ (by omega) (by omega), m1, show 9 + n + 1 = 10 + n by omega]
    · rw [c2 _ (by omega) (by omega), show 10 + n = 9 + n + 1 by omega]; exact m2
  have hP : va_P D cls (aw h (12 + n) E5) H := by rw [show 12 + n = 9 + n + 1 + 1 + 1 by omega]; exact hP
  have hz : H.size = h + (12 + n) := by rw [hz]; omega
  refine lv_iconst (v := 0) hx hb d_LR_init_55 (by decide) ?_
  refine lv_istore_n (lv' := [(2, .int 0), (0, .ref (h + 0)), (1, .int n0)]) hx hb d_LR_init_56 rfl hl (by decide) rfl (fun ls hl => ?_)
  have L : ∀ (d k : Nat) (F : Nat → va_E) (H : Heap) (locs : List Loc) (ls : Array Slot), k + d = n → (∀ a, a < 11 + n → F a = E5 a) → raS G h n k F → (∀ r, r < k → rtS G h n F r) → lv_has ls 3 [(2, .int (nI k)), (0, .ref (h + 0)), (1, .int n0)] → va_P D cls (aw h (12 + n + 10 * k) F) H → H.size = h + (12 + n + 10 * k) → va_S (fun q => h ≤ q) s.heap H locs →
      W p l e { frames := 2, cells := 81, slots := 1118, locals := 60 } s m args below meth c H locs (17 + 10 * k) (327 + 45 * k) (MQ below (ctQ D h (16 + 11 * n) (lrS G h n)) args s 81 1118 (fun q => h ≤ q)) (F0 m 57 ls []) := by
    intro d
    induction d with
    | zero =>
      intro k F H locs ls hkd y1 y2 y3 hl hP hz hS
      have hk9 : k = n := by omega
      subst hk9
      refine W.widen (k := 77) (n := 597) (by omega) (by omega) ?_
      refine lv_iload_n hx hb d_LR_init_57 rfl (lv_at hl 0 rfl) ?_
      refine lv_aload_n hx hb d_LR_init_58 rfl (lv_at hl 1 rfl) ?_
      refine va_get (D := D) (ci := 0) (v := .int (nI k)) (C := R_LR) (T := F_LR) (N := 6) hx hb hts in_LR hown hK hP 0 (wl_to (show 0 < 12 + k + 10 * k by omega) ((y1 0 (by omega)).trans c0)) rfl 0 (by decide) (hts _ fi_LR_18) (fun _ h => h) rfl d_LR_init_59 ?_
      refine lv_icmp_ge (tgt := 84) hx hb d_LR_init_62 (by decide) (fun _ => ?_) (fun h9 => absurd (nI_le (Nat.le_refl k) (by omega)) h9)
      refine lv_aload_n hx hb d_LR_init_84 rfl (lv_at hl 1 rfl) ?_
      refine lv_iconst (v := 4) hx hb d_LR_init_85 (by decide) ?_
      refine p_newa (atype := .int) (ty := .int) (a0 := (4, .inl (fun _ => 0))) (N' := 4) hx hb (hts _ ac_int) rfl hK hP hz hS 0 rfl (fun q => q) rfl (by decide) (by decide) (by decide) (by decide) (by decide) d_LR_init_86 (fun H hP hz hS => ?_)
      refine p_putF (i := 0) (v := .ref (h + (12 + k + 10 * k))) (ty := .array .int) (C := R_LR) (T := F_LR) (N := 6) hx hb hts in_LR t_LR ty_LR nm_LR hown hK hP hz hS (by omega) ((va_up_ne _ _ (by omega)).trans ((y1 0 (by omega)).trans c0)) rfl 4 (by decide) (hts _ fi_LR_45) rfl hin rfl (by decide +kernel) rfl rfl (Nat.le_of_ble_eq_true rfl) d_LR_init_88 (fun H locs hP hz hS => ?_)
      refine lv_aload_n hx hb d_LR_init_91 rfl (lv_at hl 1 rfl) ?_
      refine va_get (D := D) (ci := 0) (v := .ref (h + (12 + k + 10 * k))) (C := R_LR) (T := F_LR) (N := 6) hx hb hts in_LR hown hK hP 0 (wl_to (show 0 < 12 + k + 10 * k + 1 by omega) (va_up_self _ _ _)) rfl 4 (by decide) (hts _ fi_LR_45) (fun _ h => h) rfl d_LR_init_92 ?_
      refine lv_iconst (v := (-1)) hx hb d_LR_init_95 (by decide) ?_
      refine k_ct (k_sta S (i_fill (l := l) (D := D) (G := G) (h := h) (j := 12 + k + 10 * k + 1) (i := 12 + k + 10 * k) (N := 4) (v := -1) (by omega) ((va_up_ne _ _ (by omega)).trans (va_up_self _ _ _)) (by decide)) g_LR_49 hd_Arr_fill ⟨rfl, rfl⟩ ⟨Nat.le_of_ble_eq_true rfl, Nat.le_of_ble_eq_true rfl⟩ ctB_blind (ctB_pre hz hP hK hk) rfl hl.1 rfl (Nat.le_of_ble_eq_true rfl) d_LR_init_96 (by decide) (by decide)) hS (fun F2 H locs hF2 hP hz hS => ?_)
      obtain ⟨z1, z2⟩ := hF2
      have z3 : F2 0 = .inr (0, [.int (nI k), .ref (h + 1), .ref (h + (9 + k)), .ref (h + (11 + k)), .ref (h + (12 + 11 * k)), .null]) := by
        rw [z2 0 (by omega) (by omega), va_up_self, show 12 + k + 10 * k = 12 + 11 * k by omega]
        rfl
      have z4 : ∀ a, 1 ≤ a → a < 12 + k + 10 * k → F2 a = F a := fun a ha1 ha2 => by rw [z2 a (by omega) (by omega), va_up_ne _ _ (by omega), va_up_ne _ _ (by omega)]
      refine lv_aload_n hx hb d_LR_init_99 rfl (lv_at hl 1 rfl) ?_
      refine p_new (ci := 4) (fs := [.null, .null, .int 0, .int 0, .int 0, .int 0, .int 0]) (C := R_Packet) (T := F_Packet) (N := 7) hx hb hts in_Packet t_Packet ty_Packet hown (hts _ cl_LR_55) (hts _ cn_Packet) (hts _ ci_Packet) hK hP hz hS rfl (fun k hk => by rcases (show k = 0 ∨ k = 1 ∨ k = 2 ∨ k = 3 ∨ k = 4 ∨ k = 5 ∨ k = 6 by omega) with rfl | rfl | rfl | rfl | rfl | rfl | rfl <;> rfl) (by decide) (by decide) d_LR_init_100 (fun H hP hz hS => ?_)
      refine lv_dup hx hb d_LR_init_103 rfl ?_
      refine k_ct (k_iniN S (i_Packet (l := l) (D := D) (G := G) (h := h) (j := 12 + k + 10 * k + 1 + 1) (i := 12 + k + 10 * k + 1) (by omega) (va_up_self _ _ _)) k_Packet_init ci_Packet hk.2.2.2.2 im_Packet_init rfl hd_Packet_init ⟨rfl, rfl⟩ ⟨Nat.le_of_ble_eq_true rfl, Nat.le_of_ble_eq_true rfl⟩ ctB_blind (ctB_pre hz hP hK hk) rfl hl.1 rfl (Nat.le_of_ble_eq_true rfl) d_LR_init_104 (by decide) (by decide)) hS (fun F3 H locs hF3 hP hz hS => ?_)
      obtain ⟨x1, x2, x3, x4⟩ := hF3
      have x5 : ∀ a, a < 12 + k + 10 * k + 1 → F3 a = F2 a := fun a ha => (x4 a (by omega) (by omega)).trans (va_up_ne _ _ (by omega))
      refine p_putF (i := 0) (v := .ref (h + (12 + k + 10 * k + 1))) (ty := .object R_Packet) (C := R_LR) (T := F_LR) (N := 6) hx hb hts in_LR t_LR ty_LR nm_LR hown hK hP hz hS (by omega) ((x5 0 (by omega)).trans z3) rfl 5 (by decide) (hts _ fi_LR_58) rfl hin rfl (by decide +kernel) rfl rfl (Nat.le_of_ble_eq_true rfl) d_LR_init_107 (fun H locs hP hz hS => ?_)
      have hP := aw_len (show 12 + k + 10 * k + 1 + 1 + 2 = 16 + 11 * k by omega) hP
      have hz : H.size = h + (16 + 11 * k) := by omega
      have v1 : ∀ a, 1 ≤ a → a < 12 + k + 10 * k → va_up F3 0 (.inr (0, [Value.int (nI k), Value.ref (h + 1), Value.ref (h + (9 + k)), Value.ref (h + (11 + k)), Value.ref (h + (12 + 11 * k)), Value.null].set 5 (.ref (h + (12 + k + 10 * k + 1))))) a = F a := fun a ha1 ha2 => by rw [va_up_ne _ _ (by omega), x5 a (by omega), z4 a ha1 ha2]
      refine i_ret hx hb hr hlk ⟨?_, ?_, ⟨?_, ?_⟩, ?_, ?_, ?_, ?_, ?_, ?_⟩ hz hP hS d_LR_init_110
      · rw [va_up_self, show 12 + k + 10 * k + 1 = 13 + 11 * k by omega]; rfl
      · exact wyS_of hw (fun a ha1 ha2 => (v1 a ha1 (by omega)).trans (y1 a (by omega)))
      · rw [v1 _ (by omega) (by omega), y1 _ (by omega)]; exact hm.1
      · rw [v1 _ (by omega) (by omega), y1 _ (by omega)]; exact hm.2
      · obtain ⟨f, f1, f2⟩ := y2
        exact ⟨f, (v1 _ (by omega) (by omega)).trans f1, f2⟩
      · intro r hr9
        exact rtS_of (b := 12 + k + 10 * k) (y3 r hr9) (by omega) (fun a ha1 ha2 => v1 a (by omega) ha2)
      · rw [va_up_ne _ _ (by omega), show 12 + 11 * k = 12 + k + 10 * k by omega, x5 _ (by omega)]; exact z1
      · rw [va_up_ne _ _ (by omega), show 13 + 11 * k = 12 + k + 10 * k + 1 by omega, show 14 + 11 * k = 12 + k + 10 * k + 1 + 1 by omega, show 15 + 11 * k = 12 + k + 10 * k + 1 + 1 + 1 by omega]; exact x1
      · rw [va_up_ne _ _ (by omega), show 14 + 11 * k = 12 + k + 10 * k + 1 + 1 by omega]; exact x2
      · rw [va_up_ne _ _ (by omega), show 15 + 11 * k = 12 + k + 10 * k + 1 + 1 + 1 by omega]; exact x3
    | succ d ih =>
      intro k F H locs ls hkd y1 y2 y3 hl hP hz hS
      refine lv_iload_n hx hb d_LR_init_57 rfl (lv_at hl 0 rfl) ?_
      refine lv_aload_n hx hb d_LR_init_58 rfl (lv_at hl 1 rfl) ?_
      refine va_get (D := D) (ci := 0) (v := .int (nI n)) (C := R_LR) (T := F_LR) (N := 6) hx hb hts in_LR hown hK hP 0 (wl_to (show 0 < 12 + n + 10 * k by omega) ((y1 0 (by omega)).trans c0)) rfl 0 (by decide) (hts _ fi_LR_18) (fun _ h => h) rfl d_LR_init_59 ?_
      refine lv_icmp_ge (tgt := 84) hx hb d_LR_init_62 (by decide) (fun h9 => absurd h9 (nI_ge (by omega) (by omega))) (fun _ => ?_)
      refine lv_aload_n hx hb d_LR_init_65 rfl (lv_at hl 1 rfl) ?_
      refine va_get (D := D) (ci := 0) (v := .ref (h + (11 + n))) (C := R_LR) (T := F_LR) (N := 6) hx hb hts in_LR hown hK hP 0 (wl_to (show 0 < 12 + n + 10 * k by omega) ((y1 0 (by omega)).trans c0)) rfl 3 (by decide) (hts _ fi_LR_40) (fun _ h => h) rfl d_LR_init_66 ?_
      refine lv_iload_n hx hb d_LR_init_69 rfl (lv_at hl 0 rfl) ?_
      refine p_new (ci := 3) (fs := [.null, .null, .null]) (C := R_Router) (T := F_Router) (N := 3) hx hb hts in_Router t_Router ty_Router hown (hts _ cl_LR_38) (hts _ cn_Router) (hts _ ci_Router) hK hP hz hS rfl (fun k hk => by rcases (show k = 0 ∨ k = 1 ∨ k = 2 by omega) with rfl | rfl | rfl <;> rfl) (by show 17 + 10 * k + 1 ≤ 81; omega) (by show 327 + 45 * k + 3 ≤ 1118; omega) d_LR_init_70 (fun H hP hz hS => ?_)
      refine lv_dup hx hb d_LR_init_73 rfl ?_
      refine k_ct (k_iniN S (i_Router (l := l) (D := D) (G := G) (h := h) (j := 12 + n + 10 * k + 1) (i := 12 + n + 10 * k) (by omega) (va_up_self _ _ _)) k_Router_init ci_Router hk.2.2.2.1 im_Router_init rfl hd_Router_init ⟨rfl, rfl⟩ ⟨Nat.le_of_ble_eq_true rfl, Nat.le_of_ble_eq_true rfl⟩ ctB_blind (ctB_pre hz hP hK hk) rfl hl.1 rfl (Nat.le_of_ble_eq_true rfl) d_LR_init_74 (by show 17 + 10 * k + 1 + 9 ≤ 81; omega) (by show 327 + 45 * k + 3 + 42 ≤ 1118; omega)) hS (fun F2 H locs hF2 hP hz hS => ?_)
      obtain ⟨z1, z2, z3, z4, z5, z6⟩ := hF2
      have z7 : ∀ a, a < 12 + n + 10 * k → F2 a = F a := fun a ha => (z6 a (by omega) (by omega)).trans (va_up_ne _ _ (by omega))
      obtain ⟨f, f1, f2⟩ := y2
      refine p_aast (i := 11 + n) (i2 := 12 + n + 10 * k) hx hb hK hP hz hS (by omega) 2 3 (by omega) ((z7 _ (by omega)).trans f1) rfl z1 rfl (ix_nI (show k < n by omega) (by omega)) d_LR_init_77 (fun H locs hP hz hS => ?_)
      refine lv_iinc (v := nI k + 1) (lv' := [(2, .int (nI k + 1)), (0, .ref (h + 0)), (1, .int n0)]) hx hb d_LR_init_78 hl (k := 0) rfl rfl (by decide) rfl (fun ls hl => ?_)
      refine lv_goto (tgt := 57) hx hb d_LR_init_81 (by decide) ?_
      rw [nI_1] at hl
      refine W.widen (k := 17 + 10 * (k + 1)) (n := 327 + 45 * (k + 1)) (by omega) (by omega) ?_
      have hP := aw_len (show 12 + n + 10 * k + 1 + 9 = 12 + n + 10 * (k + 1) by omega) hP
      have hz : H.size = h + (12 + n + 10 * (k + 1)) := by omega
      refine ih (k + 1) _ H locs ls (by omega) (fun a ha => ?_) ⟨_, va_up_self _ _ _, fun r hr9 => ?_⟩ (fun r hr9 => ?_) hl hP hz hS
      · rw [va_up_ne _ _ (by omega), z7 a (by omega)]; exact y1 a ha
      · by_cases hrk : r = k
        · subst hrk; exact va_up_self _ _ _
        · rw [va_up_ne _ _ hrk]; exact f2 r (by omega)
      · by_cases hrk : r = k
        · subst hrk
          refine ⟨?_, ?_, ?_, fun q hq => ?_, ?_⟩
          · rw [va_up_ne _ _ (by omega), z1, show 12 + n + 10 * r + 1 = 13 + n + 10 * r by omega, show 13 + n + 10 * r + 1 = 14 + n + 10 * r by omega, show 13 + n + 10 * r + 8 = 21 + n + 10 * r by omega]
          · rw [va_up_ne _ _ (by omega), show 13 + n + 10 * r = 12 + n + 10 * r + 1 by omega]; exact z2
          · rw [va_up_ne _ _ (by omega), show 14 + n + 10 * r = 12 + n + 10 * r + 1 + 1 by omega, show 15 + n + 10 * r = 12 + n + 10 * r + 1 + 2 by omega]; exact z3
          · rw [va_up_ne _ _ (by omega), show 15 + n + 10 * r + q = 12 + n + 10 * r + 1 + 2 + q by omega]; exact z4 q hq
          · rw [va_up_ne _ _ (by omega), show 21 + n + 10 * r = 12 + n + 10 * r + 1 + 8 by omega]; exact z5
        · exact rtS_of (b := 12 + n + 10 * k) (y3 r (by omega)) (by omega) (fun a ha1 ha2 => (va_up_ne _ _ (by omega)).trans (z7 a ha2))
  exact L n 0 E5 H locs ls (by omega) (fun _ _ => rfl) ⟨_, c1, fun r hr9 => absurd hr9 (Nat.not_lt_zero _)⟩ (fun r hr9 => absurd hr9 (Nat.not_lt_zero _)) hl hP hz hS
