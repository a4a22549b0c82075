/-! the law's walk from its entry to its end, for any relation that does what Sim asks -/
abbrev cellV (L : Nat) (xs : Nat → Int32) : Int32 := if 0 < L then xs 0 else 0
def cellB (b L : Nat) (xs : Nat → Int32) (U : State) : Prop := va_X b L xs U U.heap ∧ b < U.heap.size ∧ L ≤ 2561
theorem cellB_blind {b L : Nat} {xs : Nat → Int32} {av : List Value} : FrameBlind (va_Pc av (cellB b L xs)) := fun a U g mk h =>
  ⟨h.1, va_X.moved (u := U) (U := U.calling g mk a) (Vm.Alike.refl U.vm) h.2.1, h.2.2⟩
theorem c_Law_cell {l : Launch} {b L : Nat} {xs : Nat → Int32} : Met l y_Law_cell (wc y_Law_cell b_Law_cell 2 (some .int)) { frames := 0, cells := 0, slots := 0, locals := 0 } (va_Pc [.ref b, .int 0] (cellB b L xs)) (rd_Q (some (.int (cellV L xs)))) 0 0 (fun _ => False) := by
  refine k_met (by decide) (Nat.le_of_ble_eq_true rfl) ?_
  intro p e s m args below meth c S hr hlk hB ls hl
  obtain ⟨hx, hb, hml, hown, hts⟩ := id S
  obtain ⟨hX, hbl, hL⟩ := hB
  have hl : lv_has ls 2 [(0, .ref b), (1, .int 0)] := hl
  have hS : va_S (fun _ => False) s.heap s.heap [] := va_S.rf
  refine lv_iload_n hx hb d_Law_cell_0 rfl (lv_at hl 1 rfl) ?_
  refine lv_aload_n hx hb d_Law_cell_1 rfl (lv_at hl 0 rfl) ?_
  refine va_slen (A := fun _ => False) hx hb hX hbl (fun h => h) hS d_Law_cell_2 ?_
  by_cases h0 : 0 < L
  · rw [show cellV L xs = xs 0 from if_pos h0]
    refine lv_icmp_ge (tgt := 12) hx hb d_Law_cell_3 (by decide) (fun h1 => absurd h1 (nI_ge (a := 0) h0 (by omega))) (fun _ => ?_)
    refine lv_aload_n hx hb d_Law_cell_6 rfl (lv_at hl 0 rfl) ?_
    refine lv_iload_n hx hb d_Law_cell_7 rfl (lv_at hl 1 rfl) ?_
    refine va_sld (A := fun _ => False) hx hb hX hbl (fun h => h) hS (nI_in (c := 0) h0 (by omega)) d_Law_cell_8 ?_
    refine lv_goto (tgt := 13) hx hb d_Law_cell_9 (by decide) ?_
    exact r_iret hx hb hr hlk d_Law_cell_13
  · rw [show cellV L xs = 0 from if_neg h0]
    have e : L = 0 := by omega
    subst e
    refine lv_icmp_ge (tgt := 12) hx hb d_Law_cell_3 (by decide) (fun _ => ?_) (fun h1 => absurd (by decide) h1)
    refine lv_iconst (v := 0) hx hb d_Law_cell_12 (by decide) ?_
    exact r_iret hx hb hr hlk d_Law_cell_13
theorem sz_of (x : Int32) : ∃ n, (2 ≤ n ∧ n ≤ 6) ∧ szI x = nI n := by
  unfold szI
  by_cases h1 : x < 6
  · rw [if_pos h1]
    by_cases h2 : 2 < x
    · rw [if_pos h2]
      obtain ⟨j, hj, rfl⟩ := nI_of2 (x := x) (M := 6) (n := 6) (by decide) (fun h => absurd (Int32.lt_trans h2 h) (by decide)) (Int32.le_of_lt h1)
      refine ⟨j, ⟨?_, hj⟩, rfl⟩
      have := (nI_ltI (a := 2) (b := j) (by decide) (by omega)).mp h2
      omega
    · rw [if_neg h2]
      exact ⟨2, ⟨by decide, by decide⟩, rfl⟩
  · rw [if_neg h1, if_pos (by decide)]
    exact ⟨6, ⟨by decide, by decide⟩, rfl⟩
theorem sub5 {i L : Nat} (hi : i ≤ 4000) (h : L ≤ 2561) : nI L - 5 < nI i ↔ L < i + 5 := by
  have e : (nI L - 5 : Int32).toInt = (L : Int) - 5 := by
    rw [Int32.toInt_sub, nI_toInt (by omega), show (5 : Int32).toInt = 5 by decide]
    exact Int.bmod_eq_of_le (by omega) (by omega)
  rw [Int32.lt_iff_toInt_lt, e, nI_toInt (by omega)]
  omega
theorem and15 (x : Int32) : ∃ k, k < 16 ∧ x &&& 15 = nI k := by
  refine ⟨(x.toBitVec &&& 15#32).toNat, ?_, Int32.toBitVec_inj.mp ?_⟩
  · rw [BitVec.toNat_and]
    exact Nat.lt_of_le_of_lt Nat.and_le_right (by decide)
  · rw [Int32.toBitVec_and]
    show _ = BitVec.ofNat 32 _
    rw [BitVec.ofNat_toNat]
    simp
theorem wl_same {D : va_G} {cl : List vw_C} {K : Nat} {ad ad' : Nat → Nat} {en en' : Nat → va_E} {H : Heap} (h : ∀ k, k < K → ad k = ad' k ∧ en k = en' k) (hP : va_P D cl (wl K ad en) H) : va_P D cl (wl K ad' en') H := by
  intro k q hq
  obtain ⟨hk, rfl⟩ := wl_get hq
  have := hP k _ (wl_at hk)
  rw [(h k hk).1, (h k hk).2] at this
  exact this
section LE
variable {p : Program} {l : Launch} {e : Env} {s : State} {m : MethodId} {below : List Frame} {meth : Method} {c : Code} {b L n : Nat} {xs : Nat → Int32} {D : va_G} {G : Nat → ClassId} {R : Nat → Mem → Mem → Prop}
set_option maxHeartbeats 4000000 in
set_option maxRecDepth 100000 in
theorem law_loop (hl0 : l.stackTraces = false) (S : CallFix p m c code 7 s #[Value.ref b] WS R_law) (hr : meth.sig.returnType = ret) (hlk : meth.locks = false) (hK : va_K D cls (tyL G) s) (hZ : tz s.heap.size s) (hX : va_X b L xs s s.heap) (hbl : b < s.heap.size) (hn : 2 ≤ n ∧ n ≤ 6) (hL : L ≤ 2561) (Rs : Sim R) :
    ∀ (d i cells slots : Nat) (M N : Mem) (v : Nat → Int64) (H : Heap) (locs : List Loc) (ls : Array Slot), L ≤ i + 5 * d + 4 → i ≤ 2600 → cells + d ≤ 601024 → slots + 6 * d ≤ 7293000 → R n M N → LI D G n s.heap.size M N v s.heap H locs → lv_has ls 7 [(4, .int (nI i)), (0, .ref b), (1, .ref (cad s.heap.size n 0)), (2, .ref (tad s.heap.size n 0)), (3, .ref (oad s.heap.size n))] →
      W p l e room_1 s m #[Value.ref b] below meth c H locs cells slots (lw_Z below #[Value.ref b] s) (F0 m 33 ls []) := by
  obtain ⟨hx, hb, hml, hown, hts⟩ := id S
  obtain ⟨-, r0, r1, r2, r3, r4, r5, r6, r7, r8, r9, r10, r11, r12, r13, r14, r15⟩ := Rs
  intro d
  induction d with
  | zero =>
    intro i cells slots M N v H locs ls h1 h2 h3 h4 hR hI hl
    refine lv_iload hx hb d_law_33 (lv_at hl 0 rfl) ?_
    refine lv_aload_n hx hb d_law_35 rfl (lv_at hl 1 rfl) ?_
    refine va_slen hx hb hX hbl (Nat.not_le.mpr hbl) hI.2.2.2 d_law_36 ?_
    refine lv_iconst (v := 5) hx hb d_law_37 (by decide) ?_
    refine lv_isub hx hb d_law_38 ?_
    refine lv_icmp_gt (tgt := 1057) hx hb d_law_39 (by decide) (fun _ => ?_) (fun h9 => absurd ((sub5 (by omega) hL).mpr (by omega)) h9)
    refine lv_iconst (v := 1) hx hb d_law_1057 (by decide) ?_
    refine W.widen (k := 601024) (n := 7293000) (by omega) (by omega) ?_
    refine W.forget (locs := []) (L := locs) hI.2.2.2.2.2 ?_
    exact lw_ret hx hb hr hlk d_law_1058
  | succ d ih =>
    intro i cells slots M N v H locs ls h1 h2 h3 h4 hR hI hl
    refine lv_iload hx hb d_law_33 (lv_at hl 0 rfl) ?_
    refine lv_aload_n hx hb d_law_35 rfl (lv_at hl 1 rfl) ?_
    refine va_slen hx hb hX hbl (Nat.not_le.mpr hbl) hI.2.2.2 d_law_36 ?_
    refine lv_iconst (v := 5) hx hb d_law_37 (by decide) ?_
    refine lv_isub hx hb d_law_38 ?_
    refine lv_icmp_gt (tgt := 1057) hx hb d_law_39 (by decide) (fun _ => ?_) (fun h9 => ?_)
    · refine lv_iconst (v := 1) hx hb d_law_1057 (by decide) ?_
      refine W.widen (k := 601024) (n := 7293000) (by omega) (by omega) ?_
      refine W.forget (locs := []) (L := locs) hI.2.2.2.2.2 ?_
      exact lw_ret hx hb hr hlk d_law_1058
    · have hi : i + 5 ≤ L := Nat.not_lt.mp fun q => h9 ((sub5 (by omega) hL).mpr q)
      have hi4 : i + 4 < L := by omega
      have J : ∀ (M N : Mem) (v : Nat → Int64) (H : Heap) (locs : List Loc) (ls : Array Slot), R n M N → LI D G n s.heap.size M N v s.heap H locs → lv_has ls 7 [(4, .int (nI i)), (0, .ref b), (1, .ref (cad s.heap.size n 0)), (2, .ref (tad s.heap.size n 0)), (3, .ref (oad s.heap.size n))] → W p l e room_1 s m #[Value.ref b] below meth c H locs (cells + 1) (slots + 6) (lw_Z below #[Value.ref b] s) (F0 m 1051 ls []) := by
        intro M N v H locs ls hR hI hl
        refine lv_iinc (v := nI (i + 5)) (lv' := [(4, .int (nI (i + 5))), (0, .ref b), (1, .ref (cad s.heap.size n 0)), (2, .ref (tad s.heap.size n 0)), (3, .ref (oad s.heap.size n))]) hx hb d_law_1051 hl (k := 0) rfl (nI_add i 5) (by decide) rfl (fun ls hl => ?_)
        refine lv_goto (tgt := 33) hx hb d_law_1054 (by decide) ?_
        exact ih (i + 5) (cells + 1) (slots + 6) M N v H locs ls (by omega) (by omega) (by omega) (by omega) hR hI hl
      have hc : cells + 1 ≤ 601024 := by omega
      have hs : slots + 6 ≤ 7293000 := by omega
      refine lv_aload_n hx hb d_law_42 rfl (lv_at hl 1 rfl) ?_
      refine lv_iload hx hb d_law_43 (lv_at hl 0 rfl) ?_
      refine va_sld hx hb hX hbl (Nat.not_le.mpr hbl) hI.2.2.2 (nI_in (by omega) (by omega)) d_law_45 ?_
      refine lv_bipush (v := 15) hx hb d_law_46 (by decide) ?_
      refine lv_iand hx hb d_law_48 ?_
      obtain ⟨k, hk, ek⟩ := and15 (xs (nI i).toNatClampNeg)
      rw [ek]
      rcases (show k = 0 ∨ k = 1 ∨ k = 2 ∨ k = 3 ∨ k = 4 ∨ k = 5 ∨ k = 6 ∨ k = 7 ∨ k = 8 ∨ k = 9 ∨ k = 10 ∨ k = 11 ∨ k = 12 ∨ k = 13 ∨ k = 14 ∨ k = 15 by omega) with rfl | rfl | rfl | rfl | rfl | rfl | rfl | rfl | rfl | rfl | rfl | rfl | rfl | rfl | rfl | rfl
      · exact lv_tableIn (off := 79) (tgt := 128) hx hb d_law_49 (by decide +kernel) (by decide +kernel) (by decide +kernel) (by decide) (law_link hl0 S hK hZ hX hbl hn hL hi4 r0 hR hI hl hc hs J)
      · exact lv_tableIn (off := 159) (tgt := 208) hx hb d_law_49 (by decide +kernel) (by decide +kernel) (by decide +kernel) (by decide) (law_own hl0 S hK hZ hX hbl hn hL hi4 r1 hR hI hl hc hs J)
      · exact lv_tableIn (off := 227) (tgt := 276) hx hb d_law_49 (by decide +kernel) (by decide +kernel) (by decide +kernel) (by decide) (law_serve hl0 S hK hZ hX hbl hn hL hi4 r2 hR hI hl hc hs J)
      · exact lv_tableIn (off := 295) (tgt := 344) hx hb d_law_49 (by decide +kernel) (by decide +kernel) (by decide +kernel) (by decide) (law_step hl0 S hK hZ hX hbl hn hL hi4 r3 hR hI hl hc hs J)
      · exact lv_tableIn (off := 363) (tgt := 412) hx hb d_law_49 (by decide +kernel) (by decide +kernel) (by decide +kernel) (by decide) (law_run hl0 S hK hZ hX hbl hn hL hi4 r4 hR hI hl hc hs J)
      · exact lv_tableIn (off := 419) (tgt := 468) hx hb d_law_49 (by decide +kernel) (by decide +kernel) (by decide +kernel) (by decide) (law_waiting hl0 S hK hZ hX hbl hn hL hi4 r5 hR hI hl hc hs J)
      · exact lv_tableIn (off := 432) (tgt := 481) hx hb d_law_49 (by decide +kernel) (by decide +kernel) (by decide +kernel) (by decide) (law_lost hl0 S hK hZ hX hbl hn hL hi4 r6 hR hI hl hc hs J)
      · exact lv_tableIn (off := 445) (tgt := 494) hx hb d_law_49 (by decide +kernel) (by decide +kernel) (by decide +kernel) (by decide) (law_distance hl0 S hK hZ hX hbl hn hL hi4 r7 hR hI hl hc hs J)
      · exact lv_tableIn (off := 513) (tgt := 562) hx hb d_law_49 (by decide +kernel) (by decide +kernel) (by decide +kernel) (by decide) (law_next hl0 S hK hZ hX hbl hn hL hi4 r8 hR hI hl hc hs J)
      · exact lv_tableIn (off := 581) (tgt := 630) hx hb d_law_49 (by decide +kernel) (by decide +kernel) (by decide +kernel) (by decide) (law_label hl0 S hK hZ hX hbl hn hL hi4 r9 hR hI hl hc hs J)
      · exact lv_tableIn (off := 649) (tgt := 698) hx hb d_law_49 (by decide +kernel) (by decide +kernel) (by decide +kernel) (by decide) (law_told hl0 S hK hZ hX hbl hn hL hi4 r10 hR hI hl hc hs J)
      · exact lv_tableIn (off := 729) (tgt := 778) hx hb d_law_49 (by decide +kernel) (by decide +kernel) (by decide +kernel) (by decide) (law_taken hl0 S hK hZ hX hbl hn hL hi4 r11 hR hI hl hc hs J)
      · exact lv_tableIn (off := 785) (tgt := 834) hx hb d_law_49 (by decide +kernel) (by decide +kernel) (by decide +kernel) (by decide) (law_send hl0 S hK hZ hX hbl hn hL hi4 r12 hR hI hl hc hs J)
      · exact lv_tableIn (off := 877) (tgt := 926) hx hb d_law_49 (by decide +kernel) (by decide +kernel) (by decide +kernel) (by decide) (law_hops hl0 S hK hZ hX hbl hn hL hi4 r13 hR hI hl hc hs J)
      · exact lv_tableIn (off := 890) (tgt := 939) hx hb d_law_49 (by decide +kernel) (by decide +kernel) (by decide +kernel) (by decide) (law_hop hl0 S hK hZ hX hbl hn hL hi4 r14 hR hI hl hc hs J)
      · exact lv_tableIn (off := 946) (tgt := 995) hx hb d_law_49 (by decide +kernel) (by decide +kernel) (by decide +kernel) (by decide) (law_entry hl0 S hK hZ hX hbl hn hL hi4 r15 hR hI hl hc hs J)
set_option maxHeartbeats 4000000 in
set_option maxRecDepth 100000 in
theorem law_start (hl0 : l.stackTraces = false) (Rs : Sim R) (hL : L ≤ 2561) (C0 : lw_At p s m meth c b L xs) : W p l e room_1 s m #[Value.ref b] below meth c s.heap [] 0 0 (lw_Z below #[Value.ref b] s) (entryFrame m ([Value.ref b] : List Value).toArray 7) := by
  obtain ⟨hx, hb, hr, hml, hown, hts, hX, hbl, hlk, hg⟩ := C0
  have hw : ∀ w ∈ WS, w.before #[Value.ref b] s = true := fun w h => hts w (List.mem_filter.mp h).1
  have S : CallFix p m c code 7 s #[Value.ref b] WS R_law := ⟨hx, hb, hml, hown, hw⟩
  obtain ⟨D, G, hK⟩ := en_K hts
  have hk := en_kz hts
  have hZ := en_tz hts hg
  obtain ⟨n, hn, hsz⟩ := sz_of (cellV L xs)
  have hl := lv_entry [Value.ref b] (n := 7) (Nat.le_of_ble_eq_true rfl)
  rw [lg_entry_eq]
  generalize (lg_sl [Value.ref b] ++ List.replicate (7 - (lg_sl [Value.ref b]).length) Slot.unset).toArray = ls at hl ⊢
  have hl : lv_has ls 7 [(0, .ref b)] := hl
  have hS : va_S (fun q => s.heap.size ≤ q) s.heap s.heap [] := va_S.rf
  have hP : va_P D cls (aw s.heap.size 0 (fun _ => .inr (0, []))) s.heap := fun k q hq => absurd (wl_get hq).1 (Nat.not_lt_zero k)
  refine W.eq (g2 := F0 m 0 ls []) rfl ?_
  refine p_new (h := s.heap.size) (j := 0) (ci := 0) (fs := [.int 0, .null, .null, .null, .null, .null]) (C := R_LR) (T := F_LR) (N := 6) hx hb hw in_LR t_LR ty_LR hown (hw _ cl_law_8) (hw _ cn_LR) (hw _ ci_LR) hK hP rfl hS rfl (fun k hk => by rcases (show k = 0 ∨ k = 1 ∨ k = 2 ∨ k = 3 ∨ k = 4 ∨ k = 5 by omega) with rfl | rfl | rfl | rfl | rfl | rfl <;> rfl) (by decide) (by decide) d_law_0 (fun H hP hz hS => ?_)
  refine lv_dup hx hb d_law_3 rfl ?_
  refine lv_aload_n hx hb d_law_4 rfl (lv_at hl 0 rfl) ?_
  refine lv_iconst (v := 0) hx hb d_law_5 (by decide) ?_
  have cb : ∀ (H : Heap) (locs : List Loc), va_S (fun q => s.heap.size ≤ q) s.heap H locs → ∀ U : State, U.heap = H → s.WarmedH U.vm → cellB b L xs U := fun H locs hS U hU hW => by
    have hX9 : va_X b L xs s U.heap := va_X.kept hX (by rw [hU]; exact hS.2.1 b hbl (Nat.not_le.mpr hbl))
    exact ⟨va_X.moved hW.alike hX9, by rw [hU]; exact Nat.lt_of_lt_of_le hbl hS.1, hL⟩
  refine k_rdi (k_sta S (c_Law_cell (l := l) (b := b) (L := L) (xs := xs)) gs_56 hd_Law_cell ⟨rfl, rfl⟩ ⟨Nat.le_of_ble_eq_true rfl, Nat.le_of_ble_eq_true rfl⟩ cellB_blind (cb H [] hS) rfl hl.1 rfl (Nat.le_of_ble_eq_true rfl) d_law_6 (by decide) (by decide)) ?_
  refine k_ct (k_ini S (i_LR (l := l) (D := D) (G := G) (h := s.heap.size) (n := n) hn hsz (va_up_self _ _ _)) k_LR_init ci_LR ml_law_62 im_LR_init rfl hd_LR_init ⟨rfl, rfl⟩ ⟨Nat.le_of_ble_eq_true rfl, Nat.le_of_ble_eq_true rfl⟩ ctB_blind (ctB_pre hz hP hK hk) rfl hl.1 rfl (Nat.le_of_ble_eq_true rfl) d_law_9 (by decide) (by decide)) hS (fun E2 H locs hE2 hP hz hS => ?_)
  have hC := lr_cW hn.1 hE2 hP
  refine W.forget (locs := []) (L := locs) hS.2.2 ?_
  refine lv_astore_n (lv' := [(1, .ref (s.heap.size + 0)), (0, .ref b)]) hx hb d_law_12 rfl hl (by decide) rfl (fun ls hl => ?_)
  have hP2 : va_P D cls (aw (s.heap.size + (16 + 11 * n)) 0 (fun _ => .inr (0, []))) H := fun k q hq => absurd (wl_get hq).1 (Nat.not_lt_zero k)
  have hS2 : va_S (fun q => s.heap.size + (16 + 11 * n) ≤ q) H H [] := va_S.rf
  have up : ∀ (H2 : Heap) (locs2 : List Loc), va_S (fun q => s.heap.size + (16 + 11 * n) ≤ q) H H2 locs2 → va_S (fun q => s.heap.size ≤ q) s.heap H2 locs2 := fun H2 locs2 h =>
    ⟨Nat.le_trans hS.1 h.1, fun q h1 h2 => by rw [h.2.1 q (Nat.lt_of_lt_of_le h1 hS.1) (fun z => h2 (by have z : s.heap.size + (16 + 11 * n) ≤ q := z; show s.heap.size ≤ q; omega))]; exact hS.2.1 q h1 h2, fun q hq => by have := h.2.2 q hq; have this : s.heap.size + (16 + 11 * n) ≤ q.base := this; show s.heap.size ≤ q.base; omega⟩
  refine p_new (h := s.heap.size + (16 + 11 * n)) (j := 0) (ci := 5) (fs := [.int 0, .int 0, .null, .null, .null, .null, .null, .null, .int 0, .int 0, .null, .null, .null, .null, .null, .null, .int 0, .int 0, .int 0, .int 0, .int 0, .int 0, .null, .null]) (C := R_Model) (T := F_Model) (N := 24) hx hb hw in_Model t_Model ty_Model hown (hw _ cl_law_65) (hw _ cn_Model) (hw _ ci_Model) hK hP2 hz hS2 rfl (fun k hk => by rcases (show k = 0 ∨ k = 1 ∨ k = 2 ∨ k = 3 ∨ k = 4 ∨ k = 5 ∨ k = 6 ∨ k = 7 ∨ k = 8 ∨ k = 9 ∨ k = 10 ∨ k = 11 ∨ k = 12 ∨ k = 13 ∨ k = 14 ∨ k = 15 ∨ k = 16 ∨ k = 17 ∨ k = 18 ∨ k = 19 ∨ k = 20 ∨ k = 21 ∨ k = 22 ∨ k = 23 by omega) with rfl | rfl | rfl | rfl | rfl | rfl | rfl | rfl | rfl | rfl | rfl | rfl | rfl | rfl | rfl | rfl | rfl | rfl | rfl | rfl | rfl | rfl | rfl | rfl <;> rfl) (by decide) (by decide) d_law_13 (fun H2 hP hz hS2 => ?_)
  refine lv_dup hx hb d_law_16 rfl ?_
  refine lv_aload_n hx hb d_law_17 rfl (lv_at hl 1 rfl) ?_
  refine lv_iconst (v := 0) hx hb d_law_18 (by decide) ?_
  refine k_rdi (k_sta S (c_Law_cell (l := l) (b := b) (L := L) (xs := xs)) gs_56 hd_Law_cell ⟨rfl, rfl⟩ ⟨Nat.le_of_ble_eq_true rfl, Nat.le_of_ble_eq_true rfl⟩ cellB_blind (cb H2 [] (up _ _ hS2)) rfl hl.1 rfl (Nat.le_of_ble_eq_true rfl) d_law_19 (by decide) (by decide)) ?_
  refine k_ct (k_ini S (i_Model (l := l) (D := D) (G := G) (h := s.heap.size + (16 + 11 * n)) (n := n) hn hsz (va_up_self _ _ _)) k_Model_init ci_Model ml_law_67 im_Model_init rfl hd_Model_init ⟨rfl, rfl⟩ ⟨Nat.le_of_ble_eq_true rfl, Nat.le_of_ble_eq_true rfl⟩ ctB_blind (ctB_pre hz hP hK hk) rfl hl.1 rfl (Nat.le_of_ble_eq_true rfl) d_law_22 (by decide) (by decide)) hS2 (fun E3 H3 locs hE3 hP hz hS2 => ?_)
  refine lv_astore_n (lv' := [(2, .ref (s.heap.size + (16 + 11 * n) + 0)), (1, .ref (s.heap.size + 0)), (0, .ref b)]) hx hb d_law_25 rfl hl (by decide) rfl (fun ls hl => ?_)
  refine lv_iconst (v := 1) hx hb d_law_26 (by decide) ?_
  refine p_newa (atype := .long) (ty := .long) (a0 := (1, .inr (.inl (fun _ => 0)))) (N' := 1) hx hb (hw _ ac_long) rfl hK hP hz hS2 4 rfl (fun q => q) rfl (by decide) (by decide) (by decide) (by decide) (by decide) d_law_27 (fun H4 hP hz hS2 => ?_)
  refine lv_astore_n (lv' := [(3, .ref (s.heap.size + (16 + 11 * n) + 15)), (2, .ref (s.heap.size + (16 + 11 * n) + 0)), (1, .ref (s.heap.size + 0)), (0, .ref b)]) hx hb d_law_29 rfl hl (by decide) rfl (fun ls hl => ?_)
  refine lv_iconst (v := 1) hx hb d_law_30 (by decide) ?_
  refine lv_istore (lv' := [(4, .int 1), (3, .ref (s.heap.size + (16 + 11 * n) + 15)), (2, .ref (s.heap.size + (16 + 11 * n) + 0)), (1, .ref (s.heap.size + 0)), (0, .ref b)]) hx hb d_law_31 hl (by decide) rfl (fun ls hl => ?_)
  refine law_loop hl0 S hr hlk hK hZ hX hbl hn hL Rs 513 1 _ _ (M0 n) (N0 n) (fun _ => 0) H4 _ ls (by omega) (by decide) (Nat.le_of_ble_eq_true rfl) (Nat.le_of_ble_eq_true rfl) (Rs.1 n hn) ⟨?_, ?_, ?_, up _ _ hS2⟩ (lv_sub hl [0, 4, 3, 2, 1] rfl)
  · refine hC.kept (fun k q hq => ?_)
    have hlt := (hC k q hq).lt
    obtain ⟨hk9, rfl⟩ := wl_get hq
    exact hS2.2.1 _ hlt (fun z => by have := ((cad_ok (h := s.heap.size) hn.1).2 k hk9).2; have z : s.heap.size + (16 + 11 * n) ≤ cad s.heap.size n k := z; omega)
  · intro k q hq
    obtain ⟨hk9, rfl⟩ := wl_get hq
    have h9 := hP k _ (wl_at (Nat.lt_succ_of_lt hk9))
    rw [va_up_ne _ _ (Nat.ne_of_lt hk9), hE3 k hk9] at h9
    exact h9
  · intro k q hq
    rw [o_one hq]
    have h9 := hP 15 _ (wl_at (by decide))
    rw [va_up_self] at h9
    exact h9
end LE
