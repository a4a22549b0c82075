/-! what a relation of the two states must do for the law -/
def Sim_init (R : Nat → Mem → Mem → Prop) : Prop := ∀ n : Nat, 2 ≤ n ∧ n ≤ 6 → R n (M0 n) (N0 n)
def Sim_link (R : Nat → Mem → Mem → Prop) : Prop := ∀ (n : Nat) (M N : Mem) (a : Int32) (b : Int32) (z : Int32), 2 ≤ n ∧ n ≤ 6 → R n M N → (∃ (x : Int32 × Mem) (y : Int32 × Mem), f_LR_link n a b z M = some x ∧ f_Model_link a b z N = some y ∧ y.2 0 0 0 0 = 0 ∧ x.1 = y.1 ∧ R n x.2 y.2) ∨ ∃ y : Int32 × Mem, g_LR_link n a b z M = none ∧ f_Model_link a b z N = some y ∧ y.2 0 0 0 0 = 1 ∧ R n M y.2
def Sim_own (R : Nat → Mem → Mem → Prop) : Prop := ∀ (n : Nat) (M N : Mem) (a : Int32) (b : Int32), 2 ≤ n ∧ n ≤ 6 → R n M N → (∃ (x : Int32 × Mem) (y : Int32 × Mem), f_LR_own n a b M = some x ∧ f_Model_own a b N = some y ∧ y.2 0 0 0 0 = 0 ∧ x.1 = y.1 ∧ R n x.2 y.2) ∨ ∃ y : Int32 × Mem, g_LR_own n a b M = none ∧ f_Model_own a b N = some y ∧ y.2 0 0 0 0 = 1 ∧ R n M y.2
def Sim_serve (R : Nat → Mem → Mem → Prop) : Prop := ∀ (n : Nat) (M N : Mem) (a : Int32) (b : Int32), 2 ≤ n ∧ n ≤ 6 → R n M N → (∃ (x : Int32 × Mem) (y : Int32 × Mem), f_LR_serve n a b M = some x ∧ f_Model_serve a b N = some y ∧ y.2 0 0 0 0 = 0 ∧ x.1 = y.1 ∧ R n x.2 y.2) ∨ ∃ y : Int32 × Mem, g_LR_serve n a b M = none ∧ f_Model_serve a b N = some y ∧ y.2 0 0 0 0 = 1 ∧ R n M y.2
def Sim_step (R : Nat → Mem → Mem → Prop) : Prop := ∀ (n : Nat) (M N : Mem) (a : Int32) (b : Int32), 2 ≤ n ∧ n ≤ 6 → R n M N → (∃ (x : Int32 × Mem) (y : Int32 × Mem), f_LR_step n a b M = some x ∧ f_Model_step a b N = some y ∧ y.2 0 0 0 0 = 0 ∧ x.1 = y.1 ∧ R n x.2 y.2) ∨ ∃ y : Int32 × Mem, g_LR_step n a b M = none ∧ f_Model_step a b N = some y ∧ y.2 0 0 0 0 = 1 ∧ R n M y.2
def Sim_run (R : Nat → Mem → Mem → Prop) : Prop := ∀ (n : Nat) (M N : Mem) (a : Int32), 2 ≤ n ∧ n ≤ 6 → R n M N → (∃ (x : Int32 × Mem) (y : Int32 × Mem), f_LR_run n a M = some x ∧ f_Model_run a N = some y ∧ y.2 0 0 0 0 = 0 ∧ x.1 = y.1 ∧ R n x.2 y.2) ∨ ∃ y : Int32 × Mem, g_LR_run n a M = none ∧ f_Model_run a N = some y ∧ y.2 0 0 0 0 = 1 ∧ R n M y.2
def Sim_waiting (R : Nat → Mem → Mem → Prop) : Prop := ∀ (n : Nat) (M N : Mem), 2 ≤ n ∧ n ≤ 6 → R n M N → ∃ (x : Int32) (y : Int32 × Mem), f_LR_waiting n M = some x ∧ f_Model_waiting N = some y ∧ x = y.1 ∧ R n M y.2
def Sim_lost (R : Nat → Mem → Mem → Prop) : Prop := ∀ (n : Nat) (M N : Mem), 2 ≤ n ∧ n ≤ 6 → R n M N → ∃ (x : Int32) (y : Int32 × Mem), f_LR_lost n M = some x ∧ f_Model_lost N = some y ∧ x = y.1 ∧ R n M y.2
def Sim_distance (R : Nat → Mem → Mem → Prop) : Prop := ∀ (n : Nat) (M N : Mem) (a : Int32) (b : Int32), 2 ≤ n ∧ n ≤ 6 → R n M N → (∃ (x : Int32) (y : Int32 × Mem), f_LR_distance n a b M = some x ∧ f_Model_distance a b N = some y ∧ y.2 0 0 0 0 = 0 ∧ x = y.1 ∧ R n M y.2) ∨ ∃ y : Int32 × Mem, g_LR_distance n a b M = none ∧ f_Model_distance a b N = some y ∧ y.2 0 0 0 0 = 1 ∧ R n M y.2
def Sim_next (R : Nat → Mem → Mem → Prop) : Prop := ∀ (n : Nat) (M N : Mem) (a : Int32) (b : Int32), 2 ≤ n ∧ n ≤ 6 → R n M N → (∃ (x : Int32) (y : Int32 × Mem), f_LR_next n a b M = some x ∧ f_Model_next a b N = some y ∧ y.2 0 0 0 0 = 0 ∧ x = y.1 ∧ R n M y.2) ∨ ∃ y : Int32 × Mem, g_LR_next n a b M = none ∧ f_Model_next a b N = some y ∧ y.2 0 0 0 0 = 1 ∧ R n M y.2
def Sim_label (R : Nat → Mem → Mem → Prop) : Prop := ∀ (n : Nat) (M N : Mem) (a : Int32) (b : Int32), 2 ≤ n ∧ n ≤ 6 → R n M N → (∃ (x : Int32) (y : Int32 × Mem), f_LR_label n a b M = some x ∧ f_Model_label a b N = some y ∧ y.2 0 0 0 0 = 0 ∧ x = y.1 ∧ R n M y.2) ∨ ∃ y : Int32 × Mem, g_LR_label n a b M = none ∧ f_Model_label a b N = some y ∧ y.2 0 0 0 0 = 1 ∧ R n M y.2
def Sim_told (R : Nat → Mem → Mem → Prop) : Prop := ∀ (n : Nat) (M N : Mem) (a : Int32) (b : Int32) (z : Int32), 2 ≤ n ∧ n ≤ 6 → R n M N → (∃ (x : Int32) (y : Int32 × Mem), f_LR_told n a b z M = some x ∧ f_Model_told a b z N = some y ∧ y.2 0 0 0 0 = 0 ∧ x = y.1 ∧ R n M y.2) ∨ ∃ y : Int32 × Mem, g_LR_told n a b z M = none ∧ f_Model_told a b z N = some y ∧ y.2 0 0 0 0 = 1 ∧ R n M y.2
def Sim_taken (R : Nat → Mem → Mem → Prop) : Prop := ∀ (n : Nat) (M N : Mem) (a : Int32), 2 ≤ n ∧ n ≤ 6 → R n M N → (∃ (x : Int32) (y : Int32 × Mem), f_LR_taken n a M = some x ∧ f_Model_taken a N = some y ∧ y.2 0 0 0 0 = 0 ∧ x = y.1 ∧ R n M y.2) ∨ ∃ y : Int32 × Mem, g_LR_taken n a M = none ∧ f_Model_taken a N = some y ∧ y.2 0 0 0 0 = 1 ∧ R n M y.2
def Sim_send (R : Nat → Mem → Mem → Prop) : Prop := ∀ (n : Nat) (M N : Mem) (a : Int32) (b : Int32) (z : Int32) (d : Int32), 2 ≤ n ∧ n ≤ 6 → R n M N → (∃ (x : Int32 × Mem) (y : Int32 × Mem), f_LR_send n a b z d M = some x ∧ f_Model_send a b z d N = some y ∧ y.2 0 0 0 0 = 0 ∧ x.1 = y.1 ∧ R n x.2 y.2) ∨ ∃ y : Int32 × Mem, g_LR_send n a b z d M = none ∧ f_Model_send a b z d N = some y ∧ y.2 0 0 0 0 = 1 ∧ R n M y.2
def Sim_hops (R : Nat → Mem → Mem → Prop) : Prop := ∀ (n : Nat) (M N : Mem), 2 ≤ n ∧ n ≤ 6 → R n M N → ∃ (x : Int32) (y : Int32 × Mem), f_LR_hops n M = some x ∧ f_Model_hops N = some y ∧ x = y.1 ∧ R n M y.2
def Sim_hop (R : Nat → Mem → Mem → Prop) : Prop := ∀ (n : Nat) (M N : Mem) (a : Int32), 2 ≤ n ∧ n ≤ 6 → R n M N → (∃ (x : Int32) (y : Int32 × Mem), f_LR_hop n a M = some x ∧ f_Model_hop a N = some y ∧ y.2 0 0 0 0 = 0 ∧ x = y.1 ∧ R n M y.2) ∨ ∃ y : Int32 × Mem, g_LR_hop n a M = none ∧ f_Model_hop a N = some y ∧ y.2 0 0 0 0 = 1 ∧ R n M y.2
def Sim_entry (R : Nat → Mem → Mem → Prop) : Prop := ∀ (n : Nat) (M N : Mem) (a : Int32), 2 ≤ n ∧ n ≤ 6 → R n M N → (∃ (x : Int32) (y : Int32 × Mem), f_LR_entry n a M = some x ∧ f_Model_entry a N = some y ∧ y.2 0 0 0 0 = 0 ∧ x = y.1 ∧ R n M y.2) ∨ ∃ y : Int32 × Mem, g_LR_entry n a M = none ∧ f_Model_entry a N = some y ∧ y.2 0 0 0 0 = 1 ∧ R n M y.2
def Sim (R : Nat → Mem → Mem → Prop) : Prop := Sim_init R ∧ Sim_link R ∧ Sim_own R ∧ Sim_serve R ∧ Sim_step R ∧ Sim_run R ∧ Sim_waiting R ∧ Sim_lost R ∧ Sim_distance R ∧ Sim_next R ∧ Sim_label R ∧ Sim_told R ∧ Sim_taken R ∧ Sim_send R ∧ Sim_hops R ∧ Sim_hop R ∧ Sim_entry R
theorem uL_0 {v : Nat → Int64} {x : Int64} : vp_updL v 0 x (0 : Int32).toNatClampNeg = x := rfl
theorem lg_same (x : Int64) : lg_cmp x x = 0 := by
  unfold lg_cmp
  rw [if_neg (Int64.lt_irrefl), if_pos rfl]
section LC
variable {p : Program} {l : Launch} {e : Env} {s : State} {m : MethodId} {below : List Frame} {meth : Method} {c : Code} {b L i n cells slots : Nat} {xs : Nat → Int32} {D : va_G} {G : Nat → ClassId} {M N : Mem} {v : Nat → Int64} {H : Heap} {locs : List Loc} {ls : Array Slot} {R : Nat → Mem → Mem → Prop} {Q : State → Prop}
set_option maxHeartbeats 4000000 in
set_option maxRecDepth 100000 in
theorem law_link (hl0 : l.stackTraces = false) (S : CallFix p m c code 7 s #[Value.ref b] WS R_law) (hK : va_K D cls (tyL G) s) (hZ : tz s.heap.size s) (hX : va_X b L xs s s.heap) (hbl : b < s.heap.size) (hn : 2 ≤ n ∧ n ≤ 6) (hL : L ≤ 2561) (hi : i + 4 < L) (Rs : Sim_link R) (hR : R n M N) (hI : LI D G n s.heap.size M N v s.heap H locs) (hl : lv_has ls 7 [(4, .int (nI i)), (0, .ref b), (1, .ref (cad s.heap.size n 0)), (2, .ref (tad s.heap.size n 0)), (3, .ref (oad s.heap.size n))]) (hc : cells + 1 ≤ 601024) (hs : slots + 6 ≤ 7293000)
    (kk : ∀ (M N : Mem) (v : Nat → Int64) (H : Heap) (locs : List Loc) (ls : Array Slot), R n M N → LI D G n s.heap.size M N v s.heap H locs → lv_has ls 7 [(4, .int (nI i)), (0, .ref b), (1, .ref (cad s.heap.size n 0)), (2, .ref (tad s.heap.size n 0)), (3, .ref (oad s.heap.size n))] → W p l e room_1 s m #[Value.ref b] below meth c H locs (cells + 1) (slots + 6) Q (F0 m 1051 ls [])) : W p l e room_1 s m #[Value.ref b] below meth c H locs cells slots Q (F0 m 128 ls []) := by
  obtain ⟨hx, hb, hml, hown, hts⟩ := id S
  refine lv_aload_n hx hb d_law_128 rfl (lv_at hl 2 rfl) ?_
  refine sc_arg (k := 1) (q0 := 1) (q4 := 0) (j := 135) hx hb hX hbl hI.2.2.2 hl rfl rfl (by omega) hL rfl d_law_129 d_law_130 d_law_132 rfl d_law_133 d_law_134 ?_
  refine sc_arg (k := 2) (q0 := 1) (q4 := 0) (j := 141) hx hb hX hbl hI.2.2.2 hl rfl rfl (by omega) hL rfl d_law_135 d_law_136 d_law_138 rfl d_law_139 d_law_140 ?_
  refine sc_arg (k := 3) (q0 := 1) (q4 := 0) (j := 147) hx hb hX hbl hI.2.2.2 hl rfl rfl (by omega) hL rfl d_law_141 d_law_142 d_law_144 rfl d_law_145 d_law_146 ?_
  refine lv_aload_n hx hb d_law_147 rfl (lv_at hl 4 rfl) ?_
  rcases Rs n M N (xs (i + 1)) (xs (i + 2)) (xs (i + 3)) hn hR with ⟨x, y, f1, f2, f3, f4, f5⟩ | ⟨y, f1, f2, f3, f5⟩
  · refine q_ok hn.1 hI (k_staW S (l_Law_link (l := l) (h0 := s.heap.size) (D := D) (n := n) (ad := cad s.heap.size n) (G := G) (M := M) (o := oad s.heap.size n) (v := v) f1) gs_68 hd_Law_link ⟨rfl, rfl⟩ ⟨Nat.le_of_ble_eq_true rfl, Nat.le_of_ble_eq_true rfl⟩ oB_blind (LI_c hn.1 hK hZ hI) rfl hl.1 rfl (Nat.le_of_ble_eq_true rfl) d_law_148 (Nat.le_of_succ_le hc) (Nat.le_trans (Nat.le_add_right _ _) hs)) (fun H locs hI => ?_)
    refine lv_istore (lv' := [(5, .int 0), (4, .int (nI i)), (0, .ref b), (1, .ref (cad s.heap.size n 0)), (2, .ref (tad s.heap.size n 0)), (3, .ref (oad s.heap.size n))]) hx hb d_law_151 hl (by decide) rfl (fun ls hl => ?_)
    refine lv_aload_n hx hb d_law_153 rfl (lv_at hl 4 rfl) ?_
    refine sc_arg (k := 1) (q0 := 2) (q4 := 1) (j := 160) hx hb hX hbl hI.2.2.2 hl rfl rfl (by omega) hL rfl d_law_154 d_law_155 d_law_157 rfl d_law_158 d_law_159 ?_
    refine sc_arg (k := 2) (q0 := 2) (q4 := 1) (j := 166) hx hb hX hbl hI.2.2.2 hl rfl rfl (by omega) hL rfl d_law_160 d_law_161 d_law_163 rfl d_law_164 d_law_165 ?_
    refine sc_arg (k := 3) (q0 := 2) (q4 := 1) (j := 172) hx hb hX hbl hI.2.2.2 hl rfl rfl (by omega) hL rfl d_law_166 d_law_167 d_law_169 rfl d_law_170 d_law_171 ?_
    refine q_md hn.1 hI (k_vir S (c_Model_link (l := l) (D := D) (ad := tad s.heap.size n) (G := G) f2) gv_71 hd_Model_link ⟨rfl, rfl⟩ ⟨Nat.le_of_ble_eq_true rfl, Nat.le_of_ble_eq_true rfl⟩ wl_blind (va_recv hK hI.2.1 rfl (wl_to (by decide) (MO_at))) (LI_t hK hI) rfl hl.1 rfl (Nat.le_of_ble_eq_true rfl) d_law_172 (Nat.le_of_succ_le hc) (Nat.le_trans (Nat.le_add_right _ _) hs)) (fun H locs hI => ?_)
    refine lv_istore (lv' := [(6, .int y.1), (5, .int 0), (4, .int (nI i)), (0, .ref b), (1, .ref (cad s.heap.size n 0)), (2, .ref (tad s.heap.size n 0)), (3, .ref (oad s.heap.size n))]) hx hb d_law_175 hl (by decide) rfl (fun ls hl => ?_)
    refine lv_aload_n hx hb d_law_177 rfl (lv_at hl 5 rfl) ?_
    refine k_rdi (k_vir S (c_Model_thrown (l := l) (D := D) (ad := tad s.heap.size n) (G := G) (M := y.2) (x := 0) (congrArg some f3)) gv_72 hd_Model_thrown ⟨rfl, rfl⟩ ⟨Nat.le_of_ble_eq_true rfl, Nat.le_of_ble_eq_true rfl⟩ wl_blind (va_recv hK hI.2.1 rfl (wl_to (by decide) (MO_at))) (LI_t hK hI) rfl hl.1 rfl (Nat.le_of_ble_eq_true rfl) d_law_178 (Nat.le_of_succ_le hc) (Nat.le_trans (Nat.le_add_right _ _) hs)) ?_
    refine lv_iload hx hb d_law_181 (lv_at hl 1 rfl) ?_
    refine lv_icmp_eq (tgt := 188) hx hb d_law_183 (by decide) (fun _ => ?_) (fun h9 => absurd rfl h9)
    refine lv_iload hx hb d_law_188 (lv_at hl 1 rfl) ?_
    refine lv_if_ne (tgt := 205) hx hb d_law_190 (by decide) (fun h9 => absurd rfl h9) (fun _ => ?_)
    refine lv_aload_n hx hb d_law_193 rfl (lv_at hl 6 rfl) ?_
    refine lv_iconst (v := 0) hx hb d_law_194 (by decide) ?_
    refine va_lald (D := D) hx hb hK hI.2.2.1 0 4 rfl rfl (nI_in (c := 0) (by decide) (by decide)) d_law_195 ?_
    rw [uL_0, f4]
    refine lv_iload hx hb d_law_196 (lv_at hl 0 rfl) ?_
    refine lv_i2l (v := y.1.toInt64) hx hb d_law_198 rfl ?_
    refine W.lcmp hx hb d_law_199 ?_
    rw [lg_same]
    refine lv_if_eq (tgt := 205) hx hb d_law_200 (by decide) (fun _ => ?_) (fun h9 => absurd rfl h9)
    refine lv_goto (tgt := 1051) hx hb d_law_205 (by decide) ?_
    exact W.widen (k := cells + 1) (n := slots + 6) (Nat.le_succ _) (Nat.le_add_right _ _) (kk _ _ _ _ _ _ f5 hI (lv_sub hl [2, 3, 4, 5, 6] rfl))
  · refine q_no hI (k_staW S (n_Law_link (l := l) hl0 (h0 := s.heap.size) (D := D) (n := n) (ad := cad s.heap.size n) (G := G) (M := M) (o := oad s.heap.size n) (v := v) f1) gs_68 hd_Law_link ⟨rfl, rfl⟩ ⟨Nat.le_of_ble_eq_true rfl, Nat.le_of_ble_eq_true rfl⟩ oB_blind (LI_c hn.1 hK hZ hI) rfl hl.1 rfl (Nat.le_of_ble_eq_true rfl) d_law_148 hc hs) (fun H locs hI => ?_)
    refine lv_istore (lv' := [(5, .int 1), (4, .int (nI i)), (0, .ref b), (1, .ref (cad s.heap.size n 0)), (2, .ref (tad s.heap.size n 0)), (3, .ref (oad s.heap.size n))]) hx hb d_law_151 hl (by decide) rfl (fun ls hl => ?_)
    refine lv_aload_n hx hb d_law_153 rfl (lv_at hl 4 rfl) ?_
    refine sc_arg (k := 1) (q0 := 2) (q4 := 1) (j := 160) hx hb hX hbl hI.2.2.2 hl rfl rfl (by omega) hL rfl d_law_154 d_law_155 d_law_157 rfl d_law_158 d_law_159 ?_
    refine sc_arg (k := 2) (q0 := 2) (q4 := 1) (j := 166) hx hb hX hbl hI.2.2.2 hl rfl rfl (by omega) hL rfl d_law_160 d_law_161 d_law_163 rfl d_law_164 d_law_165 ?_
    refine sc_arg (k := 3) (q0 := 2) (q4 := 1) (j := 172) hx hb hX hbl hI.2.2.2 hl rfl rfl (by omega) hL rfl d_law_166 d_law_167 d_law_169 rfl d_law_170 d_law_171 ?_
    refine q_md hn.1 hI (k_vir S (c_Model_link (l := l) (D := D) (ad := tad s.heap.size n) (G := G) f2) gv_71 hd_Model_link ⟨rfl, rfl⟩ ⟨Nat.le_of_ble_eq_true rfl, Nat.le_of_ble_eq_true rfl⟩ wl_blind (va_recv hK hI.2.1 rfl (wl_to (by decide) (MO_at))) (LI_t hK hI) rfl hl.1 rfl (Nat.le_of_ble_eq_true rfl) d_law_172 hc hs) (fun H locs hI => ?_)
    refine lv_istore (lv' := [(6, .int y.1), (5, .int 1), (4, .int (nI i)), (0, .ref b), (1, .ref (cad s.heap.size n 0)), (2, .ref (tad s.heap.size n 0)), (3, .ref (oad s.heap.size n))]) hx hb d_law_175 hl (by decide) rfl (fun ls hl => ?_)
    refine lv_aload_n hx hb d_law_177 rfl (lv_at hl 5 rfl) ?_
    refine k_rdi (k_vir S (c_Model_thrown (l := l) (D := D) (ad := tad s.heap.size n) (G := G) (M := y.2) (x := 1) (congrArg some f3)) gv_72 hd_Model_thrown ⟨rfl, rfl⟩ ⟨Nat.le_of_ble_eq_true rfl, Nat.le_of_ble_eq_true rfl⟩ wl_blind (va_recv hK hI.2.1 rfl (wl_to (by decide) (MO_at))) (LI_t hK hI) rfl hl.1 rfl (Nat.le_of_ble_eq_true rfl) d_law_178 hc hs) ?_
    refine lv_iload hx hb d_law_181 (lv_at hl 1 rfl) ?_
    refine lv_icmp_eq (tgt := 188) hx hb d_law_183 (by decide) (fun _ => ?_) (fun h9 => absurd rfl h9)
    refine lv_iload hx hb d_law_188 (lv_at hl 1 rfl) ?_
    refine lv_if_ne (tgt := 205) hx hb d_law_190 (by decide) (fun _ => ?_) (fun h9 => absurd h9 (by decide))
    refine lv_goto (tgt := 1051) hx hb d_law_205 (by decide) ?_
    exact kk _ _ _ _ _ _ f5 hI (lv_sub hl [2, 3, 4, 5, 6] rfl)

set_option maxHeartbeats 4000000 in
set_option maxRecDepth 100000 in
theorem law_own (hl0 : l.stackTraces = false) (S : CallFix p m c code 7 s #[Value.ref b] WS R_law) (hK : va_K D cls (tyL G) s) (hZ : tz s.heap.size s) (hX : va_X b L xs s s.heap) (hbl : b < s.heap.size) (hn : 2 ≤ n ∧ n ≤ 6) (hL : L ≤ 2561) (hi : i + 4 < L) (Rs : Sim_own R) (hR : R n M N) (hI : LI D G n s.heap.size M N v s.heap H locs) (hl : lv_has ls 7 [(4, .int (nI i)), (0, .ref b), (1, .ref (cad s.heap.size n 0)), (2, .ref (tad s.heap.size n 0)), (3, .ref (oad s.heap.size n))]) (hc : cells + 1 ≤ 601024) (hs : slots + 6 ≤ 7293000)
    (kk : ∀ (M N : Mem) (v : Nat → Int64) (H : Heap) (locs : List Loc) (ls : Array Slot), R n M N → LI D G n s.heap.size M N v s.heap H locs → lv_has ls 7 [(4, .int (nI i)), (0, .ref b), (1, .ref (cad s.heap.size n 0)), (2, .ref (tad s.heap.size n 0)), (3, .ref (oad s.heap.size n))] → W p l e room_1 s m #[Value.ref b] below meth c H locs (cells + 1) (slots + 6) Q (F0 m 1051 ls [])) : W p l e room_1 s m #[Value.ref b] below meth c H locs cells slots Q (F0 m 208 ls []) := by
  obtain ⟨hx, hb, hml, hown, hts⟩ := id S
  refine lv_aload_n hx hb d_law_208 rfl (lv_at hl 2 rfl) ?_
  refine sc_arg (k := 1) (q0 := 1) (q4 := 0) (j := 215) hx hb hX hbl hI.2.2.2 hl rfl rfl (by omega) hL rfl d_law_209 d_law_210 d_law_212 rfl d_law_213 d_law_214 ?_
  refine sc_arg (k := 2) (q0 := 1) (q4 := 0) (j := 221) hx hb hX hbl hI.2.2.2 hl rfl rfl (by omega) hL rfl d_law_215 d_law_216 d_law_218 rfl d_law_219 d_law_220 ?_
  refine lv_aload_n hx hb d_law_221 rfl (lv_at hl 4 rfl) ?_
  rcases Rs n M N (xs (i + 1)) (xs (i + 2)) hn hR with ⟨x, y, f1, f2, f3, f4, f5⟩ | ⟨y, f1, f2, f3, f5⟩
  · refine q_ok hn.1 hI (k_staW S (l_Law_own (l := l) (h0 := s.heap.size) (D := D) (n := n) (ad := cad s.heap.size n) (G := G) (M := M) (o := oad s.heap.size n) (v := v) f1) gs_76 hd_Law_own ⟨rfl, rfl⟩ ⟨Nat.le_of_ble_eq_true rfl, Nat.le_of_ble_eq_true rfl⟩ oB_blind (LI_c hn.1 hK hZ hI) rfl hl.1 rfl (Nat.le_of_ble_eq_true rfl) d_law_222 (Nat.le_of_succ_le hc) (Nat.le_trans (Nat.le_add_right _ _) hs)) (fun H locs hI => ?_)
    refine lv_istore (lv' := [(5, .int 0), (4, .int (nI i)), (0, .ref b), (1, .ref (cad s.heap.size n 0)), (2, .ref (tad s.heap.size n 0)), (3, .ref (oad s.heap.size n))]) hx hb d_law_225 hl (by decide) rfl (fun ls hl => ?_)
    refine lv_aload_n hx hb d_law_227 rfl (lv_at hl 4 rfl) ?_
    refine sc_arg (k := 1) (q0 := 2) (q4 := 1) (j := 234) hx hb hX hbl hI.2.2.2 hl rfl rfl (by omega) hL rfl d_law_228 d_law_229 d_law_231 rfl d_law_232 d_law_233 ?_
    refine sc_arg (k := 2) (q0 := 2) (q4 := 1) (j := 240) hx hb hX hbl hI.2.2.2 hl rfl rfl (by omega) hL rfl d_law_234 d_law_235 d_law_237 rfl d_law_238 d_law_239 ?_
    refine q_md hn.1 hI (k_vir S (c_Model_own (l := l) (D := D) (ad := tad s.heap.size n) (G := G) f2) gv_79 hd_Model_own ⟨rfl, rfl⟩ ⟨Nat.le_of_ble_eq_true rfl, Nat.le_of_ble_eq_true rfl⟩ wl_blind (va_recv hK hI.2.1 rfl (wl_to (by decide) (MO_at))) (LI_t hK hI) rfl hl.1 rfl (Nat.le_of_ble_eq_true rfl) d_law_240 (Nat.le_of_succ_le hc) (Nat.le_trans (Nat.le_add_right _ _) hs)) (fun H locs hI => ?_)
    refine lv_istore (lv' := [(6, .int y.1), (5, .int 0), (4, .int (nI i)), (0, .ref b), (1, .ref (cad s.heap.size n 0)), (2, .ref (tad s.heap.size n 0)), (3, .ref (oad s.heap.size n))]) hx hb d_law_243 hl (by decide) rfl (fun ls hl => ?_)
    refine lv_aload_n hx hb d_law_245 rfl (lv_at hl 5 rfl) ?_
    refine k_rdi (k_vir S (c_Model_thrown (l := l) (D := D) (ad := tad s.heap.size n) (G := G) (M := y.2) (x := 0) (congrArg some f3)) gv_72 hd_Model_thrown ⟨rfl, rfl⟩ ⟨Nat.le_of_ble_eq_true rfl, Nat.le_of_ble_eq_true rfl⟩ wl_blind (va_recv hK hI.2.1 rfl (wl_to (by decide) (MO_at))) (LI_t hK hI) rfl hl.1 rfl (Nat.le_of_ble_eq_true rfl) d_law_246 (Nat.le_of_succ_le hc) (Nat.le_trans (Nat.le_add_right _ _) hs)) ?_
    refine lv_iload hx hb d_law_249 (lv_at hl 1 rfl) ?_
    refine lv_icmp_eq (tgt := 256) hx hb d_law_251 (by decide) (fun _ => ?_) (fun h9 => absurd rfl h9)
    refine lv_iload hx hb d_law_256 (lv_at hl 1 rfl) ?_
    refine lv_if_ne (tgt := 273) hx hb d_law_258 (by decide) (fun h9 => absurd rfl h9) (fun _ => ?_)
    refine lv_aload_n hx hb d_law_261 rfl (lv_at hl 6 rfl) ?_
    refine lv_iconst (v := 0) hx hb d_law_262 (by decide) ?_
    refine va_lald (D := D) hx hb hK hI.2.2.1 0 4 rfl rfl (nI_in (c := 0) (by decide) (by decide)) d_law_263 ?_
    rw [uL_0, f4]
    refine lv_iload hx hb d_law_264 (lv_at hl 0 rfl) ?_
    refine lv_i2l (v := y.1.toInt64) hx hb d_law_266 rfl ?_
    refine W.lcmp hx hb d_law_267 ?_
    rw [lg_same]
    refine lv_if_eq (tgt := 273) hx hb d_law_268 (by decide) (fun _ => ?_) (fun h9 => absurd rfl h9)
    refine lv_goto (tgt := 1051) hx hb d_law_273 (by decide) ?_
    exact W.widen (k := cells + 1) (n := slots + 6) (Nat.le_succ _) (Nat.le_add_right _ _) (kk _ _ _ _ _ _ f5 hI (lv_sub hl [2, 3, 4, 5, 6] rfl))
  · refine q_no hI (k_staW S (n_Law_own (l := l) hl0 (h0 := s.heap.size) (D := D) (n := n) (ad := cad s.heap.size n) (G := G) (M := M) (o := oad s.heap.size n) (v := v) f1) gs_76 hd_Law_own ⟨rfl, rfl⟩ ⟨Nat.le_of_ble_eq_true rfl, Nat.le_of_ble_eq_true rfl⟩ oB_blind (LI_c hn.1 hK hZ hI) rfl hl.1 rfl (Nat.le_of_ble_eq_true rfl) d_law_222 hc hs) (fun H locs hI => ?_)
    refine lv_istore (lv' := [(5, .int 1), (4, .int (nI i)), (0, .ref b), (1, .ref (cad s.heap.size n 0)), (2, .ref (tad s.heap.size n 0)), (3, .ref (oad s.heap.size n))]) hx hb d_law_225 hl (by decide) rfl (fun ls hl => ?_)
    refine lv_aload_n hx hb d_law_227 rfl (lv_at hl 4 rfl) ?_
    refine sc_arg (k := 1) (q0 := 2) (q4 := 1) (j := 234) hx hb hX hbl hI.2.2.2 hl rfl rfl (by omega) hL rfl d_law_228 d_law_229 d_law_231 rfl d_law_232 d_law_233 ?_
    refine sc_arg (k := 2) (q0 := 2) (q4 := 1) (j := 240) hx hb hX hbl hI.2.2.2 hl rfl rfl (by omega) hL rfl d_law_234 d_law_235 d_law_237 rfl d_law_238 d_law_239 ?_
    refine q_md hn.1 hI (k_vir S (c_Model_own (l := l) (D := D) (ad := tad s.heap.size n) (G := G) f2) gv_79 hd_Model_own ⟨rfl, rfl⟩ ⟨Nat.le_of_ble_eq_true rfl, Nat.le_of_ble_eq_true rfl⟩ wl_blind (va_recv hK hI.2.1 rfl (wl_to (by decide) (MO_at))) (LI_t hK hI) rfl hl.1 rfl (Nat.le_of_ble_eq_true rfl) d_law_240 hc hs) (fun H locs hI => ?_)
    refine lv_istore (lv' := [(6, .int y.1), (5, .int 1), (4, .int (nI i)), (0, .ref b), (1, .ref (cad s.heap.size n 0)), (2, .ref (tad s.heap.size n 0)), (3, .ref (oad s.heap.size n))]) hx hb d_law_243 hl (by decide) rfl (fun ls hl => ?_)
    refine lv_aload_n hx hb d_law_245 rfl (lv_at hl 5 rfl) ?_
    refine k_rdi (k_vir S (c_Model_thrown (l := l) (D := D) (ad := tad s.heap.size n) (G := G) (M := y.2) (x := 1) (congrArg some f3)) gv_72 hd_Model_thrown ⟨rfl, rfl⟩ ⟨Nat.le_of_ble_eq_true rfl, Nat.le_of_ble_eq_true rfl⟩ wl_blind (va_recv hK hI.2.1 rfl (wl_to (by decide) (MO_at))) (LI_t hK hI) rfl hl.1 rfl (Nat.le_of_ble_eq_true rfl) d_law_246 hc hs) ?_
    refine lv_iload hx hb d_law_249 (lv_at hl 1 rfl) ?_
    refine lv_icmp_eq (tgt := 256) hx hb d_law_251 (by decide) (fun _ => ?_) (fun h9 => absurd rfl h9)
    refine lv_iload hx hb d_law_256 (lv_at hl 1 rfl) ?_
    refine lv_if_ne (tgt := 273) hx hb d_law_258 (by decide) (fun _ => ?_) (fun h9 => absurd h9 (by decide))
    refine lv_goto (tgt := 1051) hx hb d_law_273 (by decide) ?_
    exact kk _ _ _ _ _ _ f5 hI (lv_sub hl [2, 3, 4, 5, 6] rfl)

set_option maxHeartbeats 4000000 in
set_option maxRecDepth 100000 in
theorem law_serve (hl0 : l.stackTraces = false) (S : CallFix p m c code 7 s #[Value.ref b] WS R_law) (hK : va_K D cls (tyL G) s) (hZ : tz s.heap.size s) (hX : va_X b L xs s s.heap) (hbl : b < s.heap.size) (hn : 2 ≤ n ∧ n ≤ 6) (hL : L ≤ 2561) (hi : i + 4 < L) (Rs : Sim_serve R) (hR : R n M N) (hI : LI D G n s.heap.size M N v s.heap H locs) (hl : lv_has ls 7 [(4, .int (nI i)), (0, .ref b), (1, .ref (cad s.heap.size n 0)), (2, .ref (tad s.heap.size n 0)), (3, .ref (oad s.heap.size n))]) (hc : cells + 1 ≤ 601024) (hs : slots + 6 ≤ 7293000)
    (kk : ∀ (M N : Mem) (v : Nat → Int64) (H : Heap) (locs : List Loc) (ls : Array Slot), R n M N → LI D G n s.heap.size M N v s.heap H locs → lv_has ls 7 [(4, .int (nI i)), (0, .ref b), (1, .ref (cad s.heap.size n 0)), (2, .ref (tad s.heap.size n 0)), (3, .ref (oad s.heap.size n))] → W p l e room_1 s m #[Value.ref b] below meth c H locs (cells + 1) (slots + 6) Q (F0 m 1051 ls [])) : W p l e room_1 s m #[Value.ref b] below meth c H locs cells slots Q (F0 m 276 ls []) := by
  obtain ⟨hx, hb, hml, hown, hts⟩ := id S
  refine lv_aload_n hx hb d_law_276 rfl (lv_at hl 2 rfl) ?_
  refine sc_arg (k := 1) (q0 := 1) (q4 := 0) (j := 283) hx hb hX hbl hI.2.2.2 hl rfl rfl (by omega) hL rfl d_law_277 d_law_278 d_law_280 rfl d_law_281 d_law_282 ?_
  refine sc_arg (k := 2) (q0 := 1) (q4 := 0) (j := 289) hx hb hX hbl hI.2.2.2 hl rfl rfl (by omega) hL rfl d_law_283 d_law_284 d_law_286 rfl d_law_287 d_law_288 ?_
  refine lv_aload_n hx hb d_law_289 rfl (lv_at hl 4 rfl) ?_
  rcases Rs n M N (xs (i + 1)) (xs (i + 2)) hn hR with ⟨x, y, f1, f2, f3, f4, f5⟩ | ⟨y, f1, f2, f3, f5⟩
  · refine q_ok hn.1 hI (k_staW S (l_Law_serve (l := l) (h0 := s.heap.size) (D := D) (n := n) (ad := cad s.heap.size n) (G := G) (M := M) (o := oad s.heap.size n) (v := v) f1) gs_80 hd_Law_serve ⟨rfl, rfl⟩ ⟨Nat.le_of_ble_eq_true rfl, Nat.le_of_ble_eq_true rfl⟩ oB_blind (LI_c hn.1 hK hZ hI) rfl hl.1 rfl (Nat.le_of_ble_eq_true rfl) d_law_290 (Nat.le_of_succ_le hc) (Nat.le_trans (Nat.le_add_right _ _) hs)) (fun H locs hI => ?_)
    refine lv_istore (lv' := [(5, .int 0), (4, .int (nI i)), (0, .ref b), (1, .ref (cad s.heap.size n 0)), (2, .ref (tad s.heap.size n 0)), (3, .ref (oad s.heap.size n))]) hx hb d_law_293 hl (by decide) rfl (fun ls hl => ?_)
    refine lv_aload_n hx hb d_law_295 rfl (lv_at hl 4 rfl) ?_
    refine sc_arg (k := 1) (q0 := 2) (q4 := 1) (j := 302) hx hb hX hbl hI.2.2.2 hl rfl rfl (by omega) hL rfl d_law_296 d_law_297 d_law_299 rfl d_law_300 d_law_301 ?_
    refine sc_arg (k := 2) (q0 := 2) (q4 := 1) (j := 308) hx hb hX hbl hI.2.2.2 hl rfl rfl (by omega) hL rfl d_law_302 d_law_303 d_law_305 rfl d_law_306 d_law_307 ?_
    refine q_md hn.1 hI (k_vir S (c_Model_serve (l := l) (D := D) (ad := tad s.heap.size n) (G := G) f2) gv_82 hd_Model_serve ⟨rfl, rfl⟩ ⟨Nat.le_of_ble_eq_true rfl, Nat.le_of_ble_eq_true rfl⟩ wl_blind (va_recv hK hI.2.1 rfl (wl_to (by decide) (MO_at))) (LI_t hK hI) rfl hl.1 rfl (Nat.le_of_ble_eq_true rfl) d_law_308 (Nat.le_of_succ_le hc) (Nat.le_trans (Nat.le_add_right _ _) hs)) (fun H locs hI => ?_)
    refine lv_istore (lv' := [(6, .int y.1), (5, .int 0), (4, .int (nI i)), (0, .ref b), (1, .ref (cad s.heap.size n 0)), (2, .ref (tad s.heap.size n 0)), (3, .ref (oad s.heap.size n))]) hx hb d_law_311 hl (by decide) rfl (fun ls hl => ?_)
    refine lv_aload_n hx hb d_law_313 rfl (lv_at hl 5 rfl) ?_
    refine k_rdi (k_vir S (c_Model_thrown (l := l) (D := D) (ad := tad s.heap.size n) (G := G) (M := y.2) (x := 0) (congrArg some f3)) gv_72 hd_Model_thrown ⟨rfl, rfl⟩ ⟨Nat.le_of_ble_eq_true rfl, Nat.le_of_ble_eq_true rfl⟩ wl_blind (va_recv hK hI.2.1 rfl (wl_to (by decide) (MO_at))) (LI_t hK hI) rfl hl.1 rfl (Nat.le_of_ble_eq_true rfl) d_law_314 (Nat.le_of_succ_le hc) (Nat.le_trans (Nat.le_add_right _ _) hs)) ?_
    refine lv_iload hx hb d_law_317 (lv_at hl 1 rfl) ?_
    refine lv_icmp_eq (tgt := 324) hx hb d_law_319 (by decide) (fun _ => ?_) (fun h9 => absurd rfl h9)
    refine lv_iload hx hb d_law_324 (lv_at hl 1 rfl) ?_
    refine lv_if_ne (tgt := 341) hx hb d_law_326 (by decide) (fun h9 => absurd rfl h9) (fun _ => ?_)
    refine lv_aload_n hx hb d_law_329 rfl (lv_at hl 6 rfl) ?_
    refine lv_iconst (v := 0) hx hb d_law_330 (by decide) ?_
    refine va_lald (D := D) hx hb hK hI.2.2.1 0 4 rfl rfl (nI_in (c := 0) (by decide) (by decide)) d_law_331 ?_
    rw [uL_0, f4]
    refine lv_iload hx hb d_law_332 (lv_at hl 0 rfl) ?_
    refine lv_i2l (v := y.1.toInt64) hx hb d_law_334 rfl ?_
    refine W.lcmp hx hb d_law_335 ?_
    rw [lg_same]
    refine lv_if_eq (tgt := 341) hx hb d_law_336 (by decide) (fun _ => ?_) (fun h9 => absurd rfl h9)
    refine lv_goto (tgt := 1051) hx hb d_law_341 (by decide) ?_
    exact W.widen (k := cells + 1) (n := slots + 6) (Nat.le_succ _) (Nat.le_add_right _ _) (kk _ _ _ _ _ _ f5 hI (lv_sub hl [2, 3, 4, 5, 6] rfl))
  · refine q_no hI (k_staW S (n_Law_serve (l := l) hl0 (h0 := s.heap.size) (D := D) (n := n) (ad := cad s.heap.size n) (G := G) (M := M) (o := oad s.heap.size n) (v := v) f1) gs_80 hd_Law_serve ⟨rfl, rfl⟩ ⟨Nat.le_of_ble_eq_true rfl, Nat.le_of_ble_eq_true rfl⟩ oB_blind (LI_c hn.1 hK hZ hI) rfl hl.1 rfl (Nat.le_of_ble_eq_true rfl) d_law_290 hc hs) (fun H locs hI => ?_)
    refine lv_istore (lv' := [(5, .int 1), (4, .int (nI i)), (0, .ref b), (1, .ref (cad s.heap.size n 0)), (2, .ref (tad s.heap.size n 0)), (3, .ref (oad s.heap.size n))]) hx hb d_law_293 hl (by decide) rfl (fun ls hl => ?_)
    refine lv_aload_n hx hb d_law_295 rfl (lv_at hl 4 rfl) ?_
    refine sc_arg (k := 1) (q0 := 2) (q4 := 1) (j := 302) hx hb hX hbl hI.2.2.2 hl rfl rfl (by omega) hL rfl d_law_296 d_law_297 d_law_299 rfl d_law_300 d_law_301 ?_
    refine sc_arg (k := 2) (q0 := 2) (q4 := 1) (j := 308) hx hb hX hbl hI.2.2.2 hl rfl rfl (by omega) hL rfl d_law_302 d_law_303 d_law_305 rfl d_law_306 d_law_307 ?_
    refine q_md hn.1 hI (k_vir S (c_Model_serve (l := l) (D := D) (ad := tad s.heap.size n) (G := G) f2) gv_82 hd_Model_serve ⟨rfl, rfl⟩ ⟨Nat.le_of_ble_eq_true rfl, Nat.le_of_ble_eq_true rfl⟩ wl_blind (va_recv hK hI.2.1 rfl (wl_to (by decide) (MO_at))) (LI_t hK hI) rfl hl.1 rfl (Nat.le_of_ble_eq_true rfl) d_law_308 hc hs) (fun H locs hI => ?_)
    refine lv_istore (lv' := [(6, .int y.1), (5, .int 1), (4, .int (nI i)), (0, .ref b), (1, .ref (cad s.heap.size n 0)), (2, .ref (tad s.heap.size n 0)), (3, .ref (oad s.heap.size n))]) hx hb d_law_311 hl (by decide) rfl (fun ls hl => ?_)
    refine lv_aload_n hx hb d_law_313 rfl (lv_at hl 5 rfl) ?_
    refine k_rdi (k_vir S (c_Model_thrown (l := l) (D := D) (ad := tad s.heap.size n) (G := G) (M := y.2) (x := 1) (congrArg some f3)) gv_72 hd_Model_thrown ⟨rfl, rfl⟩ ⟨Nat.le_of_ble_eq_true rfl, Nat.le_of_ble_eq_true rfl⟩ wl_blind (va_recv hK hI.2.1 rfl (wl_to (by decide) (MO_at))) (LI_t hK hI) rfl hl.1 rfl (Nat.le_of_ble_eq_true rfl) d_law_314 hc hs) ?_
    refine lv_iload hx hb d_law_317 (lv_at hl 1 rfl) ?_
    refine lv_icmp_eq (tgt := 324) hx hb d_law_319 (by decide) (fun _ => ?_) (fun h9 => absurd rfl h9)
    refine lv_iload hx hb d_law_324 (lv_at hl 1 rfl) ?_
    refine lv_if_ne (tgt := 341) hx hb d_law_326 (by decide) (fun _ => ?_) (fun h9 => absurd h9 (by decide))
    refine lv_goto (tgt := 1051) hx hb d_law_341 (by decide) ?_
    exact kk _ _ _ _ _ _ f5 hI (lv_sub hl [2, 3, 4, 5, 6] rfl)

set_option maxHeartbeats 4000000 in
set_option maxRecDepth 100000 in
theorem law_step (hl0 : l.stackTraces = false) (S : CallFix p m c code 7 s #[Value.ref b] WS R_law) (hK : va_K D cls (tyL G) s) (hZ : tz s.heap.size s) (hX : va_X b L xs s s.heap) (hbl : b < s.heap.size) (hn : 2 ≤ n ∧ n ≤ 6) (hL : L ≤ 2561) (hi : i + 4 < L) (Rs : Sim_step R) (hR : R n M N) (hI : LI D G n s.heap.size M N v s.heap H locs) (hl : lv_has ls 7 [(4, .int (nI i)), (0, .ref b), (1, .ref (cad s.heap.size n 0)), (2, .ref (tad s.heap.size n 0)), (3, .ref (oad s.heap.size n))]) (hc : cells + 1 ≤ 601024) (hs : slots + 6 ≤ 7293000)
    (kk : ∀ (M N : Mem) (v : Nat → Int64) (H : Heap) (locs : List Loc) (ls : Array Slot), R n M N → LI D G n s.heap.size M N v s.heap H locs → lv_has ls 7 [(4, .int (nI i)), (0, .ref b), (1, .ref (cad s.heap.size n 0)), (2, .ref (tad s.heap.size n 0)), (3, .ref (oad s.heap.size n))] → W p l e room_1 s m #[Value.ref b] below meth c H locs (cells + 1) (slots + 6) Q (F0 m 1051 ls [])) : W p l e room_1 s m #[Value.ref b] below meth c H locs cells slots Q (F0 m 344 ls []) := by
  obtain ⟨hx, hb, hml, hown, hts⟩ := id S
  refine lv_aload_n hx hb d_law_344 rfl (lv_at hl 2 rfl) ?_
  refine sc_arg (k := 1) (q0 := 1) (q4 := 0) (j := 351) hx hb hX hbl hI.2.2.2 hl rfl rfl (by omega) hL rfl d_law_345 d_law_346 d_law_348 rfl d_law_349 d_law_350 ?_
  refine sc_arg (k := 2) (q0 := 1) (q4 := 0) (j := 357) hx hb hX hbl hI.2.2.2 hl rfl rfl (by omega) hL rfl d_law_351 d_law_352 d_law_354 rfl d_law_355 d_law_356 ?_
  refine lv_aload_n hx hb d_law_357 rfl (lv_at hl 4 rfl) ?_
  rcases Rs n M N (xs (i + 1)) (xs (i + 2)) hn hR with ⟨x, y, f1, f2, f3, f4, f5⟩ | ⟨y, f1, f2, f3, f5⟩
  · refine q_ok hn.1 hI (k_staW S (l_Law_step (l := l) (h0 := s.heap.size) (D := D) (n := n) (ad := cad s.heap.size n) (G := G) (M := M) (o := oad s.heap.size n) (v := v) f1) gs_83 hd_Law_step ⟨rfl, rfl⟩ ⟨Nat.le_of_ble_eq_true rfl, Nat.le_of_ble_eq_true rfl⟩ oB_blind (LI_c hn.1 hK hZ hI) rfl hl.1 rfl (Nat.le_of_ble_eq_true rfl) d_law_358 (Nat.le_of_succ_le hc) (Nat.le_trans (Nat.le_add_right _ _) hs)) (fun H locs hI => ?_)
    refine lv_istore (lv' := [(5, .int 0), (4, .int (nI i)), (0, .ref b), (1, .ref (cad s.heap.size n 0)), (2, .ref (tad s.heap.size n 0)), (3, .ref (oad s.heap.size n))]) hx hb d_law_361 hl (by decide) rfl (fun ls hl => ?_)
    refine lv_aload_n hx hb d_law_363 rfl (lv_at hl 4 rfl) ?_
    refine sc_arg (k := 1) (q0 := 2) (q4 := 1) (j := 370) hx hb hX hbl hI.2.2.2 hl rfl rfl (by omega) hL rfl d_law_364 d_law_365 d_law_367 rfl d_law_368 d_law_369 ?_
    refine sc_arg (k := 2) (q0 := 2) (q4 := 1) (j := 376) hx hb hX hbl hI.2.2.2 hl rfl rfl (by omega) hL rfl d_law_370 d_law_371 d_law_373 rfl d_law_374 d_law_375 ?_
    refine q_md hn.1 hI (k_vir S (c_Model_step (l := l) (D := D) (ad := tad s.heap.size n) (G := G) f2) gv_85 hd_Model_step ⟨rfl, rfl⟩ ⟨Nat.le_of_ble_eq_true rfl, Nat.le_of_ble_eq_true rfl⟩ wl_blind (va_recv hK hI.2.1 rfl (wl_to (by decide) (MO_at))) (LI_t hK hI) rfl hl.1 rfl (Nat.le_of_ble_eq_true rfl) d_law_376 (Nat.le_of_succ_le hc) (Nat.le_trans (Nat.le_add_right _ _) hs)) (fun H locs hI => ?_)
    refine lv_istore (lv' := [(6, .int y.1), (5, .int 0), (4, .int (nI i)), (0, .ref b), (1, .ref (cad s.heap.size n 0)), (2, .ref (tad s.heap.size n 0)), (3, .ref (oad s.heap.size n))]) hx hb d_law_379 hl (by decide) rfl (fun ls hl => ?_)
    refine lv_aload_n hx hb d_law_381 rfl (lv_at hl 5 rfl) ?_
    refine k_rdi (k_vir S (c_Model_thrown (l := l) (D := D) (ad := tad s.heap.size n) (G := G) (M := y.2) (x := 0) (congrArg some f3)) gv_72 hd_Model_thrown ⟨rfl, rfl⟩ ⟨Nat.le_of_ble_eq_true rfl, Nat.le_of_ble_eq_true rfl⟩ wl_blind (va_recv hK hI.2.1 rfl (wl_to (by decide) (MO_at))) (LI_t hK hI) rfl hl.1 rfl (Nat.le_of_ble_eq_true rfl) d_law_382 (Nat.le_of_succ_le hc) (Nat.le_trans (Nat.le_add_right _ _) hs)) ?_
    refine lv_iload hx hb d_law_385 (lv_at hl 1 rfl) ?_
    refine lv_icmp_eq (tgt := 392) hx hb d_law_387 (by decide) (fun _ => ?_) (fun h9 => absurd rfl h9)
    refine lv_iload hx hb d_law_392 (lv_at hl 1 rfl) ?_
    refine lv_if_ne (tgt := 409) hx hb d_law_394 (by decide) (fun h9 => absurd rfl h9) (fun _ => ?_)
    refine lv_aload_n hx hb d_law_397 rfl (lv_at hl 6 rfl) ?_
    refine lv_iconst (v := 0) hx hb d_law_398 (by decide) ?_
    refine va_lald (D := D) hx hb hK hI.2.2.1 0 4 rfl rfl (nI_in (c := 0) (by decide) (by decide)) d_law_399 ?_
    rw [uL_0, f4]
    refine lv_iload hx hb d_law_400 (lv_at hl 0 rfl) ?_
    refine lv_i2l (v := y.1.toInt64) hx hb d_law_402 rfl ?_
    refine W.lcmp hx hb d_law_403 ?_
    rw [lg_same]
    refine lv_if_eq (tgt := 409) hx hb d_law_404 (by decide) (fun _ => ?_) (fun h9 => absurd rfl h9)
    refine lv_goto (tgt := 1051) hx hb d_law_409 (by decide) ?_
    exact W.widen (k := cells + 1) (n := slots + 6) (Nat.le_succ _) (Nat.le_add_right _ _) (kk _ _ _ _ _ _ f5 hI (lv_sub hl [2, 3, 4, 5, 6] rfl))
  · refine q_no hI (k_staW S (n_Law_step (l := l) hl0 (h0 := s.heap.size) (D := D) (n := n) (ad := cad s.heap.size n) (G := G) (M := M) (o := oad s.heap.size n) (v := v) f1) gs_83 hd_Law_step ⟨rfl, rfl⟩ ⟨Nat.le_of_ble_eq_true rfl, Nat.le_of_ble_eq_true rfl⟩ oB_blind (LI_c hn.1 hK hZ hI) rfl hl.1 rfl (Nat.le_of_ble_eq_true rfl) d_law_358 hc hs) (fun H locs hI => ?_)
    refine lv_istore (lv' := [(5, .int 1), (4, .int (nI i)), (0, .ref b), (1, .ref (cad s.heap.size n 0)), (2, .ref (tad s.heap.size n 0)), (3, .ref (oad s.heap.size n))]) hx hb d_law_361 hl (by decide) rfl (fun ls hl => ?_)
    refine lv_aload_n hx hb d_law_363 rfl (lv_at hl 4 rfl) ?_
    refine sc_arg (k := 1) (q0 := 2) (q4 := 1) (j := 370) hx hb hX hbl hI.2.2.2 hl rfl rfl (by omega) hL rfl d_law_364 d_law_365 d_law_367 rfl d_law_368 d_law_369 ?_
    refine sc_arg (k := 2) (q0 := 2) (q4 := 1) (j := 376) hx hb hX hbl hI.2.2.2 hl rfl rfl (by omega) hL rfl d_law_370 d_law_371 d_law_373 rfl d_law_374 d_law_375 ?_
    refine q_md hn.1 hI (k_vir S (c_Model_step (l := l) (D := D) (ad := tad s.heap.size n) (G := G) f2) gv_85 hd_Model_step ⟨rfl, rfl⟩ ⟨Nat.le_of_ble_eq_true rfl, Nat.le_of_ble_eq_true rfl⟩ wl_blind (va_recv hK hI.2.1 rfl (wl_to (by decide) (MO_at))) (LI_t hK hI) rfl hl.1 rfl (Nat.le_of_ble_eq_true rfl) d_law_376 hc hs) (fun H locs hI => ?_)
    refine lv_istore (lv' := [(6, .int y.1), (5, .int 1), (4, .int (nI i)), (0, .ref b), (1, .ref (cad s.heap.size n 0)), (2, .ref (tad s.heap.size n 0)), (3, .ref (oad s.heap.size n))]) hx hb d_law_379 hl (by decide) rfl (fun ls hl => ?_)
    refine lv_aload_n hx hb d_law_381 rfl (lv_at hl 5 rfl) ?_
    refine k_rdi (k_vir S (c_Model_thrown (l := l) (D := D) (ad := tad s.heap.size n) (G := G) (M := y.2) (x := 1) (congrArg some f3)) gv_72 hd_Model_thrown ⟨rfl, rfl⟩ ⟨Nat.le_of_ble_eq_true rfl, Nat.le_of_ble_eq_true rfl⟩ wl_blind (va_recv hK hI.2.1 rfl (wl_to (by decide) (MO_at))) (LI_t hK hI) rfl hl.1 rfl (Nat.le_of_ble_eq_true rfl) d_law_382 hc hs) ?_
    refine lv_iload hx hb d_law_385 (lv_at hl 1 rfl) ?_
    refine lv_icmp_eq (tgt := 392) hx hb d_law_387 (by decide) (fun _ => ?_) (fun h9 => absurd rfl h9)
    refine lv_iload hx hb d_law_392 (lv_at hl 1 rfl) ?_
    refine lv_if_ne (tgt := 409) hx hb d_law_394 (by decide) (fun _ => ?_) (fun h9 => absurd h9 (by decide))
    refine lv_goto (tgt := 1051) hx hb d_law_409 (by decide) ?_
    exact kk _ _ _ _ _ _ f5 hI (lv_sub hl [2, 3, 4, 5, 6] rfl)

set_option maxHeartbeats 4000000 in
set_option maxRecDepth 100000 in
theorem law_run (hl0 : l.stackTraces = false) (S : CallFix p m c code 7 s #[Value.ref b] WS R_law) (hK : va_K D cls (tyL G) s) (hZ : tz s.heap.size s) (hX : va_X b L xs s s.heap) (hbl : b < s.heap.size) (hn : 2 ≤ n ∧ n ≤ 6) (hL : L ≤ 2561) (hi : i + 4 < L) (Rs : Sim_run R) (hR : R n M N) (hI : LI D G n s.heap.size M N v s.heap H locs) (hl : lv_has ls 7 [(4, .int (nI i)), (0, .ref b), (1, .ref (cad s.heap.size n 0)), (2, .ref (tad s.heap.size n 0)), (3, .ref (oad s.heap.size n))]) (hc : cells + 1 ≤ 601024) (hs : slots + 6 ≤ 7293000)
    (kk : ∀ (M N : Mem) (v : Nat → Int64) (H : Heap) (locs : List Loc) (ls : Array Slot), R n M N → LI D G n s.heap.size M N v s.heap H locs → lv_has ls 7 [(4, .int (nI i)), (0, .ref b), (1, .ref (cad s.heap.size n 0)), (2, .ref (tad s.heap.size n 0)), (3, .ref (oad s.heap.size n))] → W p l e room_1 s m #[Value.ref b] below meth c H locs (cells + 1) (slots + 6) Q (F0 m 1051 ls [])) : W p l e room_1 s m #[Value.ref b] below meth c H locs cells slots Q (F0 m 412 ls []) := by
  obtain ⟨hx, hb, hml, hown, hts⟩ := id S
  refine lv_aload_n hx hb d_law_412 rfl (lv_at hl 2 rfl) ?_
  refine sc_arg (k := 1) (q0 := 1) (q4 := 0) (j := 419) hx hb hX hbl hI.2.2.2 hl rfl rfl (by omega) hL rfl d_law_413 d_law_414 d_law_416 rfl d_law_417 d_law_418 ?_
  refine lv_aload_n hx hb d_law_419 rfl (lv_at hl 4 rfl) ?_
  rcases Rs n M N (xs (i + 1)) hn hR with ⟨x, y, f1, f2, f3, f4, f5⟩ | ⟨y, f1, f2, f3, f5⟩
  · refine q_ok hn.1 hI (k_staW S (l_Law_run (l := l) (h0 := s.heap.size) (D := D) (n := n) (ad := cad s.heap.size n) (G := G) (M := M) (o := oad s.heap.size n) (v := v) f1) gs_86 hd_Law_run ⟨rfl, rfl⟩ ⟨Nat.le_of_ble_eq_true rfl, Nat.le_of_ble_eq_true rfl⟩ oB_blind (LI_c hn.1 hK hZ hI) rfl hl.1 rfl (Nat.le_of_ble_eq_true rfl) d_law_420 (Nat.le_of_succ_le hc) (Nat.le_trans (Nat.le_add_right _ _) hs)) (fun H locs hI => ?_)
    refine lv_istore (lv' := [(5, .int 0), (4, .int (nI i)), (0, .ref b), (1, .ref (cad s.heap.size n 0)), (2, .ref (tad s.heap.size n 0)), (3, .ref (oad s.heap.size n))]) hx hb d_law_423 hl (by decide) rfl (fun ls hl => ?_)
    refine lv_aload_n hx hb d_law_425 rfl (lv_at hl 4 rfl) ?_
    refine sc_arg (k := 1) (q0 := 2) (q4 := 1) (j := 432) hx hb hX hbl hI.2.2.2 hl rfl rfl (by omega) hL rfl d_law_426 d_law_427 d_law_429 rfl d_law_430 d_law_431 ?_
    refine q_md hn.1 hI (k_vir S (c_Model_run (l := l) (D := D) (ad := tad s.heap.size n) (G := G) f2) gv_89 hd_Model_run ⟨rfl, rfl⟩ ⟨Nat.le_of_ble_eq_true rfl, Nat.le_of_ble_eq_true rfl⟩ wl_blind (va_recv hK hI.2.1 rfl (wl_to (by decide) (MO_at))) (LI_t hK hI) rfl hl.1 rfl (Nat.le_of_ble_eq_true rfl) d_law_432 (Nat.le_of_succ_le hc) (Nat.le_trans (Nat.le_add_right _ _) hs)) (fun H locs hI => ?_)
    refine lv_istore (lv' := [(6, .int y.1), (5, .int 0), (4, .int (nI i)), (0, .ref b), (1, .ref (cad s.heap.size n 0)), (2, .ref (tad s.heap.size n 0)), (3, .ref (oad s.heap.size n))]) hx hb d_law_435 hl (by decide) rfl (fun ls hl => ?_)
    refine lv_aload_n hx hb d_law_437 rfl (lv_at hl 5 rfl) ?_
    refine k_rdi (k_vir S (c_Model_thrown (l := l) (D := D) (ad := tad s.heap.size n) (G := G) (M := y.2) (x := 0) (congrArg some f3)) gv_72 hd_Model_thrown ⟨rfl, rfl⟩ ⟨Nat.le_of_ble_eq_true rfl, Nat.le_of_ble_eq_true rfl⟩ wl_blind (va_recv hK hI.2.1 rfl (wl_to (by decide) (MO_at))) (LI_t hK hI) rfl hl.1 rfl (Nat.le_of_ble_eq_true rfl) d_law_438 (Nat.le_of_succ_le hc) (Nat.le_trans (Nat.le_add_right _ _) hs)) ?_
    refine lv_iload hx hb d_law_441 (lv_at hl 1 rfl) ?_
    refine lv_icmp_eq (tgt := 448) hx hb d_law_443 (by decide) (fun _ => ?_) (fun h9 => absurd rfl h9)
    refine lv_iload hx hb d_law_448 (lv_at hl 1 rfl) ?_
    refine lv_if_ne (tgt := 465) hx hb d_law_450 (by decide) (fun h9 => absurd rfl h9) (fun _ => ?_)
    refine lv_aload_n hx hb d_law_453 rfl (lv_at hl 6 rfl) ?_
    refine lv_iconst (v := 0) hx hb d_law_454 (by decide) ?_
    refine va_lald (D := D) hx hb hK hI.2.2.1 0 4 rfl rfl (nI_in (c := 0) (by decide) (by decide)) d_law_455 ?_
    rw [uL_0, f4]
    refine lv_iload hx hb d_law_456 (lv_at hl 0 rfl) ?_
    refine lv_i2l (v := y.1.toInt64) hx hb d_law_458 rfl ?_
    refine W.lcmp hx hb d_law_459 ?_
    rw [lg_same]
    refine lv_if_eq (tgt := 465) hx hb d_law_460 (by decide) (fun _ => ?_) (fun h9 => absurd rfl h9)
    refine lv_goto (tgt := 1051) hx hb d_law_465 (by decide) ?_
    exact W.widen (k := cells + 1) (n := slots + 6) (Nat.le_succ _) (Nat.le_add_right _ _) (kk _ _ _ _ _ _ f5 hI (lv_sub hl [2, 3, 4, 5, 6] rfl))
  · refine q_no hI (k_staW S (n_Law_run (l := l) hl0 (h0 := s.heap.size) (D := D) (n := n) (ad := cad s.heap.size n) (G := G) (M := M) (o := oad s.heap.size n) (v := v) f1) gs_86 hd_Law_run ⟨rfl, rfl⟩ ⟨Nat.le_of_ble_eq_true rfl, Nat.le_of_ble_eq_true rfl⟩ oB_blind (LI_c hn.1 hK hZ hI) rfl hl.1 rfl (Nat.le_of_ble_eq_true rfl) d_law_420 hc hs) (fun H locs hI => ?_)
    refine lv_istore (lv' := [(5, .int 1), (4, .int (nI i)), (0, .ref b), (1, .ref (cad s.heap.size n 0)), (2, .ref (tad s.heap.size n 0)), (3, .ref (oad s.heap.size n))]) hx hb d_law_423 hl (by decide) rfl (fun ls hl => ?_)
    refine lv_aload_n hx hb d_law_425 rfl (lv_at hl 4 rfl) ?_
    refine sc_arg (k := 1) (q0 := 2) (q4 := 1) (j := 432) hx hb hX hbl hI.2.2.2 hl rfl rfl (by omega) hL rfl d_law_426 d_law_427 d_law_429 rfl d_law_430 d_law_431 ?_
    refine q_md hn.1 hI (k_vir S (c_Model_run (l := l) (D := D) (ad := tad s.heap.size n) (G := G) f2) gv_89 hd_Model_run ⟨rfl, rfl⟩ ⟨Nat.le_of_ble_eq_true rfl, Nat.le_of_ble_eq_true rfl⟩ wl_blind (va_recv hK hI.2.1 rfl (wl_to (by decide) (MO_at))) (LI_t hK hI) rfl hl.1 rfl (Nat.le_of_ble_eq_true rfl) d_law_432 hc hs) (fun H locs hI => ?_)
    refine lv_istore (lv' := [(6, .int y.1), (5, .int 1), (4, .int (nI i)), (0, .ref b), (1, .ref (cad s.heap.size n 0)), (2, .ref (tad s.heap.size n 0)), (3, .ref (oad s.heap.size n))]) hx hb d_law_435 hl (by decide) rfl (fun ls hl => ?_)
    refine lv_aload_n hx hb d_law_437 rfl (lv_at hl 5 rfl) ?_
    refine k_rdi (k_vir S (c_Model_thrown (l := l) (D := D) (ad := tad s.heap.size n) (G := G) (M := y.2) (x := 1) (congrArg some f3)) gv_72 hd_Model_thrown ⟨rfl, rfl⟩ ⟨Nat.le_of_ble_eq_true rfl, Nat.le_of_ble_eq_true rfl⟩ wl_blind (va_recv hK hI.2.1 rfl (wl_to (by decide) (MO_at))) (LI_t hK hI) rfl hl.1 rfl (Nat.le_of_ble_eq_true rfl) d_law_438 hc hs) ?_
    refine lv_iload hx hb d_law_441 (lv_at hl 1 rfl) ?_
    refine lv_icmp_eq (tgt := 448) hx hb d_law_443 (by decide) (fun _ => ?_) (fun h9 => absurd rfl h9)
    refine lv_iload hx hb d_law_448 (lv_at hl 1 rfl) ?_
    refine lv_if_ne (tgt := 465) hx hb d_law_450 (by decide) (fun _ => ?_) (fun h9 => absurd h9 (by decide))
    refine lv_goto (tgt := 1051) hx hb d_law_465 (by decide) ?_
    exact kk _ _ _ _ _ _ f5 hI (lv_sub hl [2, 3, 4, 5, 6] rfl)

set_option maxHeartbeats 4000000 in
set_option maxRecDepth 100000 in
theorem law_waiting (hl0 : l.stackTraces = false) (S : CallFix p m c code 7 s #[Value.ref b] WS R_law) (hK : va_K D cls (tyL G) s) (hZ : tz s.heap.size s) (hX : va_X b L xs s s.heap) (hbl : b < s.heap.size) (hn : 2 ≤ n ∧ n ≤ 6) (hL : L ≤ 2561) (hi : i + 4 < L) (Rs : Sim_waiting R) (hR : R n M N) (hI : LI D G n s.heap.size M N v s.heap H locs) (hl : lv_has ls 7 [(4, .int (nI i)), (0, .ref b), (1, .ref (cad s.heap.size n 0)), (2, .ref (tad s.heap.size n 0)), (3, .ref (oad s.heap.size n))]) (hc : cells + 1 ≤ 601024) (hs : slots + 6 ≤ 7293000)
    (kk : ∀ (M N : Mem) (v : Nat → Int64) (H : Heap) (locs : List Loc) (ls : Array Slot), R n M N → LI D G n s.heap.size M N v s.heap H locs → lv_has ls 7 [(4, .int (nI i)), (0, .ref b), (1, .ref (cad s.heap.size n 0)), (2, .ref (tad s.heap.size n 0)), (3, .ref (oad s.heap.size n))] → W p l e room_1 s m #[Value.ref b] below meth c H locs (cells + 1) (slots + 6) Q (F0 m 1051 ls [])) : W p l e room_1 s m #[Value.ref b] below meth c H locs cells slots Q (F0 m 468 ls []) := by
  obtain ⟨hx, hb, hml, hown, hts⟩ := id S
  refine lv_aload_n hx hb d_law_468 rfl (lv_at hl 2 rfl) ?_
  obtain ⟨x, y, f1, f2, f4, f5⟩ := Rs n M N hn hR
  refine k_rdi (k_vir S (c_LR_waiting (l := l) (D := D) (n := n) (ad := cad s.heap.size n) (G := G) f1) gv_90 hd_LR_waiting ⟨rfl, rfl⟩ ⟨Nat.le_of_ble_eq_true rfl, Nat.le_of_ble_eq_true rfl⟩ wl_blind (va_recv hK hI.1 rfl (wl_to LR_lt LR_at)) (LI_k hn.1 hK hI) rfl hl.1 rfl (Nat.le_of_ble_eq_true rfl) d_law_469 (Nat.le_of_succ_le hc) (Nat.le_trans (Nat.le_add_right _ _) hs)) ?_
  refine lv_aload_n hx hb d_law_472 rfl (lv_at hl 3 rfl) ?_
  refine q_md hn.1 hI (k_vir S (c_Model_waiting (l := l) (D := D) (ad := tad s.heap.size n) (G := G) f2) gv_93 hd_Model_waiting ⟨rfl, rfl⟩ ⟨Nat.le_of_ble_eq_true rfl, Nat.le_of_ble_eq_true rfl⟩ wl_blind (va_recv hK hI.2.1 rfl (wl_to (by decide) (MO_at))) (LI_t hK hI) rfl hl.1 rfl (Nat.le_of_ble_eq_true rfl) d_law_473 (Nat.le_of_succ_le hc) (Nat.le_trans (Nat.le_add_right _ _) hs)) (fun H locs hI => ?_)
  refine lv_icmp_eq (tgt := 1051) hx hb d_law_476 (by decide) (fun _ => ?_) (fun h9 => absurd f4 h9)
  exact W.widen (k := cells + 1) (n := slots + 6) (Nat.le_succ _) (Nat.le_add_right _ _) (kk _ _ _ _ _ _ f5 hI hl)

set_option maxHeartbeats 4000000 in
set_option maxRecDepth 100000 in
theorem law_lost (hl0 : l.stackTraces = false) (S : CallFix p m c code 7 s #[Value.ref b] WS R_law) (hK : va_K D cls (tyL G) s) (hZ : tz s.heap.size s) (hX : va_X b L xs s s.heap) (hbl : b < s.heap.size) (hn : 2 ≤ n ∧ n ≤ 6) (hL : L ≤ 2561) (hi : i + 4 < L) (Rs : Sim_lost R) (hR : R n M N) (hI : LI D G n s.heap.size M N v s.heap H locs) (hl : lv_has ls 7 [(4, .int (nI i)), (0, .ref b), (1, .ref (cad s.heap.size n 0)), (2, .ref (tad s.heap.size n 0)), (3, .ref (oad s.heap.size n))]) (hc : cells + 1 ≤ 601024) (hs : slots + 6 ≤ 7293000)
    (kk : ∀ (M N : Mem) (v : Nat → Int64) (H : Heap) (locs : List Loc) (ls : Array Slot), R n M N → LI D G n s.heap.size M N v s.heap H locs → lv_has ls 7 [(4, .int (nI i)), (0, .ref b), (1, .ref (cad s.heap.size n 0)), (2, .ref (tad s.heap.size n 0)), (3, .ref (oad s.heap.size n))] → W p l e room_1 s m #[Value.ref b] below meth c H locs (cells + 1) (slots + 6) Q (F0 m 1051 ls [])) : W p l e room_1 s m #[Value.ref b] below meth c H locs cells slots Q (F0 m 481 ls []) := by
  obtain ⟨hx, hb, hml, hown, hts⟩ := id S
  refine lv_aload_n hx hb d_law_481 rfl (lv_at hl 2 rfl) ?_
  obtain ⟨x, y, f1, f2, f4, f5⟩ := Rs n M N hn hR
  refine k_rdi (k_vir S (c_LR_lost (l := l) (D := D) (n := n) (ad := cad s.heap.size n) (G := G) f1) gv_94 hd_LR_lost ⟨rfl, rfl⟩ ⟨Nat.le_of_ble_eq_true rfl, Nat.le_of_ble_eq_true rfl⟩ wl_blind (va_recv hK hI.1 rfl (wl_to LR_lt LR_at)) (LI_k hn.1 hK hI) rfl hl.1 rfl (Nat.le_of_ble_eq_true rfl) d_law_482 (Nat.le_of_succ_le hc) (Nat.le_trans (Nat.le_add_right _ _) hs)) ?_
  refine lv_aload_n hx hb d_law_485 rfl (lv_at hl 3 rfl) ?_
  refine q_md hn.1 hI (k_vir S (c_Model_lost (l := l) (D := D) (ad := tad s.heap.size n) (G := G) f2) gv_97 hd_Model_lost ⟨rfl, rfl⟩ ⟨Nat.le_of_ble_eq_true rfl, Nat.le_of_ble_eq_true rfl⟩ wl_blind (va_recv hK hI.2.1 rfl (wl_to (by decide) (MO_at))) (LI_t hK hI) rfl hl.1 rfl (Nat.le_of_ble_eq_true rfl) d_law_486 (Nat.le_of_succ_le hc) (Nat.le_trans (Nat.le_add_right _ _) hs)) (fun H locs hI => ?_)
  refine lv_icmp_eq (tgt := 1051) hx hb d_law_489 (by decide) (fun _ => ?_) (fun h9 => absurd f4 h9)
  exact W.widen (k := cells + 1) (n := slots + 6) (Nat.le_succ _) (Nat.le_add_right _ _) (kk _ _ _ _ _ _ f5 hI hl)

set_option maxHeartbeats 4000000 in
set_option maxRecDepth 100000 in
theorem law_distance (hl0 : l.stackTraces = false) (S : CallFix p m c code 7 s #[Value.ref b] WS R_law) (hK : va_K D cls (tyL G) s) (hZ : tz s.heap.size s) (hX : va_X b L xs s s.heap) (hbl : b < s.heap.size) (hn : 2 ≤ n ∧ n ≤ 6) (hL : L ≤ 2561) (hi : i + 4 < L) (Rs : Sim_distance R) (hR : R n M N) (hI : LI D G n s.heap.size M N v s.heap H locs) (hl : lv_has ls 7 [(4, .int (nI i)), (0, .ref b), (1, .ref (cad s.heap.size n 0)), (2, .ref (tad s.heap.size n 0)), (3, .ref (oad s.heap.size n))]) (hc : cells + 1 ≤ 601024) (hs : slots + 6 ≤ 7293000)
    (kk : ∀ (M N : Mem) (v : Nat → Int64) (H : Heap) (locs : List Loc) (ls : Array Slot), R n M N → LI D G n s.heap.size M N v s.heap H locs → lv_has ls 7 [(4, .int (nI i)), (0, .ref b), (1, .ref (cad s.heap.size n 0)), (2, .ref (tad s.heap.size n 0)), (3, .ref (oad s.heap.size n))] → W p l e room_1 s m #[Value.ref b] below meth c H locs (cells + 1) (slots + 6) Q (F0 m 1051 ls [])) : W p l e room_1 s m #[Value.ref b] below meth c H locs cells slots Q (F0 m 494 ls []) := by
  obtain ⟨hx, hb, hml, hown, hts⟩ := id S
  refine lv_aload_n hx hb d_law_494 rfl (lv_at hl 2 rfl) ?_
  refine sc_arg (k := 1) (q0 := 1) (q4 := 0) (j := 501) hx hb hX hbl hI.2.2.2 hl rfl rfl (by omega) hL rfl d_law_495 d_law_496 d_law_498 rfl d_law_499 d_law_500 ?_
  refine sc_arg (k := 2) (q0 := 1) (q4 := 0) (j := 507) hx hb hX hbl hI.2.2.2 hl rfl rfl (by omega) hL rfl d_law_501 d_law_502 d_law_504 rfl d_law_505 d_law_506 ?_
  refine lv_aload_n hx hb d_law_507 rfl (lv_at hl 4 rfl) ?_
  rcases Rs n M N (xs (i + 1)) (xs (i + 2)) hn hR with ⟨x, y, f1, f2, f3, f4, f5⟩ | ⟨y, f1, f2, f3, f5⟩
  · refine q_ok hn.1 hI (k_staW S (l_Law_distance (l := l) (h0 := s.heap.size) (D := D) (n := n) (ad := cad s.heap.size n) (G := G) (M := M) (o := oad s.heap.size n) (v := v) f1) gs_98 hd_Law_distance ⟨rfl, rfl⟩ ⟨Nat.le_of_ble_eq_true rfl, Nat.le_of_ble_eq_true rfl⟩ oB_blind (LI_c hn.1 hK hZ hI) rfl hl.1 rfl (Nat.le_of_ble_eq_true rfl) d_law_508 (Nat.le_of_succ_le hc) (Nat.le_trans (Nat.le_add_right _ _) hs)) (fun H locs hI => ?_)
    refine lv_istore (lv' := [(5, .int 0), (4, .int (nI i)), (0, .ref b), (1, .ref (cad s.heap.size n 0)), (2, .ref (tad s.heap.size n 0)), (3, .ref (oad s.heap.size n))]) hx hb d_law_511 hl (by decide) rfl (fun ls hl => ?_)
    refine lv_aload_n hx hb d_law_513 rfl (lv_at hl 4 rfl) ?_
    refine sc_arg (k := 1) (q0 := 2) (q4 := 1) (j := 520) hx hb hX hbl hI.2.2.2 hl rfl rfl (by omega) hL rfl d_law_514 d_law_515 d_law_517 rfl d_law_518 d_law_519 ?_
    refine sc_arg (k := 2) (q0 := 2) (q4 := 1) (j := 526) hx hb hX hbl hI.2.2.2 hl rfl rfl (by omega) hL rfl d_law_520 d_law_521 d_law_523 rfl d_law_524 d_law_525 ?_
    refine q_md hn.1 hI (k_vir S (c_Model_distance (l := l) (D := D) (ad := tad s.heap.size n) (G := G) f2) gv_100 hd_Model_distance ⟨rfl, rfl⟩ ⟨Nat.le_of_ble_eq_true rfl, Nat.le_of_ble_eq_true rfl⟩ wl_blind (va_recv hK hI.2.1 rfl (wl_to (by decide) (MO_at))) (LI_t hK hI) rfl hl.1 rfl (Nat.le_of_ble_eq_true rfl) d_law_526 (Nat.le_of_succ_le hc) (Nat.le_trans (Nat.le_add_right _ _) hs)) (fun H locs hI => ?_)
    refine lv_istore (lv' := [(6, .int y.1), (5, .int 0), (4, .int (nI i)), (0, .ref b), (1, .ref (cad s.heap.size n 0)), (2, .ref (tad s.heap.size n 0)), (3, .ref (oad s.heap.size n))]) hx hb d_law_529 hl (by decide) rfl (fun ls hl => ?_)
    refine lv_aload_n hx hb d_law_531 rfl (lv_at hl 5 rfl) ?_
    refine k_rdi (k_vir S (c_Model_thrown (l := l) (D := D) (ad := tad s.heap.size n) (G := G) (M := y.2) (x := 0) (congrArg some f3)) gv_72 hd_Model_thrown ⟨rfl, rfl⟩ ⟨Nat.le_of_ble_eq_true rfl, Nat.le_of_ble_eq_true rfl⟩ wl_blind (va_recv hK hI.2.1 rfl (wl_to (by decide) (MO_at))) (LI_t hK hI) rfl hl.1 rfl (Nat.le_of_ble_eq_true rfl) d_law_532 (Nat.le_of_succ_le hc) (Nat.le_trans (Nat.le_add_right _ _) hs)) ?_
    refine lv_iload hx hb d_law_535 (lv_at hl 1 rfl) ?_
    refine lv_icmp_eq (tgt := 542) hx hb d_law_537 (by decide) (fun _ => ?_) (fun h9 => absurd rfl h9)
    refine lv_iload hx hb d_law_542 (lv_at hl 1 rfl) ?_
    refine lv_if_ne (tgt := 559) hx hb d_law_544 (by decide) (fun h9 => absurd rfl h9) (fun _ => ?_)
    refine lv_aload_n hx hb d_law_547 rfl (lv_at hl 6 rfl) ?_
    refine lv_iconst (v := 0) hx hb d_law_548 (by decide) ?_
    refine va_lald (D := D) hx hb hK hI.2.2.1 0 4 rfl rfl (nI_in (c := 0) (by decide) (by decide)) d_law_549 ?_
    rw [uL_0, f4]
    refine lv_iload hx hb d_law_550 (lv_at hl 0 rfl) ?_
    refine lv_i2l (v := y.1.toInt64) hx hb d_law_552 rfl ?_
    refine W.lcmp hx hb d_law_553 ?_
    rw [lg_same]
    refine lv_if_eq (tgt := 559) hx hb d_law_554 (by decide) (fun _ => ?_) (fun h9 => absurd rfl h9)
    refine lv_goto (tgt := 1051) hx hb d_law_559 (by decide) ?_
    exact W.widen (k := cells + 1) (n := slots + 6) (Nat.le_succ _) (Nat.le_add_right _ _) (kk _ _ _ _ _ _ f5 hI (lv_sub hl [2, 3, 4, 5, 6] rfl))
  · refine q_no hI (k_staW S (n_Law_distance (l := l) hl0 (h0 := s.heap.size) (D := D) (n := n) (ad := cad s.heap.size n) (G := G) (M := M) (o := oad s.heap.size n) (v := v) f1) gs_98 hd_Law_distance ⟨rfl, rfl⟩ ⟨Nat.le_of_ble_eq_true rfl, Nat.le_of_ble_eq_true rfl⟩ oB_blind (LI_c hn.1 hK hZ hI) rfl hl.1 rfl (Nat.le_of_ble_eq_true rfl) d_law_508 hc hs) (fun H locs hI => ?_)
    refine lv_istore (lv' := [(5, .int 1), (4, .int (nI i)), (0, .ref b), (1, .ref (cad s.heap.size n 0)), (2, .ref (tad s.heap.size n 0)), (3, .ref (oad s.heap.size n))]) hx hb d_law_511 hl (by decide) rfl (fun ls hl => ?_)
    refine lv_aload_n hx hb d_law_513 rfl (lv_at hl 4 rfl) ?_
    refine sc_arg (k := 1) (q0 := 2) (q4 := 1) (j := 520) hx hb hX hbl hI.2.2.2 hl rfl rfl (by omega) hL rfl d_law_514 d_law_515 d_law_517 rfl d_law_518 d_law_519 ?_
    refine sc_arg (k := 2) (q0 := 2) (q4 := 1) (j := 526) hx hb hX hbl hI.2.2.2 hl rfl rfl (by omega) hL rfl d_law_520 d_law_521 d_law_523 rfl d_law_524 d_law_525 ?_
    refine q_md hn.1 hI (k_vir S (c_Model_distance (l := l) (D := D) (ad := tad s.heap.size n) (G := G) f2) gv_100 hd_Model_distance ⟨rfl, rfl⟩ ⟨Nat.le_of_ble_eq_true rfl, Nat.le_of_ble_eq_true rfl⟩ wl_blind (va_recv hK hI.2.1 rfl (wl_to (by decide) (MO_at))) (LI_t hK hI) rfl hl.1 rfl (Nat.le_of_ble_eq_true rfl) d_law_526 hc hs) (fun H locs hI => ?_)
    refine lv_istore (lv' := [(6, .int y.1), (5, .int 1), (4, .int (nI i)), (0, .ref b), (1, .ref (cad s.heap.size n 0)), (2, .ref (tad s.heap.size n 0)), (3, .ref (oad s.heap.size n))]) hx hb d_law_529 hl (by decide) rfl (fun ls hl => ?_)
    refine lv_aload_n hx hb d_law_531 rfl (lv_at hl 5 rfl) ?_
    refine k_rdi (k_vir S (c_Model_thrown (l := l) (D := D) (ad := tad s.heap.size n) (G := G) (M := y.2) (x := 1) (congrArg some f3)) gv_72 hd_Model_thrown ⟨rfl, rfl⟩ ⟨Nat.le_of_ble_eq_true rfl, Nat.le_of_ble_eq_true rfl⟩ wl_blind (va_recv hK hI.2.1 rfl (wl_to (by decide) (MO_at))) (LI_t hK hI) rfl hl.1 rfl (Nat.le_of_ble_eq_true rfl) d_law_532 hc hs) ?_
    refine lv_iload hx hb d_law_535 (lv_at hl 1 rfl) ?_
    refine lv_icmp_eq (tgt := 542) hx hb d_law_537 (by decide) (fun _ => ?_) (fun h9 => absurd rfl h9)
    refine lv_iload hx hb d_law_542 (lv_at hl 1 rfl) ?_
    refine lv_if_ne (tgt := 559) hx hb d_law_544 (by decide) (fun _ => ?_) (fun h9 => absurd h9 (by decide))
    refine lv_goto (tgt := 1051) hx hb d_law_559 (by decide) ?_
    exact kk _ _ _ _ _ _ f5 hI (lv_sub hl [2, 3, 4, 5, 6] rfl)

set_option maxHeartbeats 4000000 in
set_option maxRecDepth 100000 in
theorem law_next (hl0 : l.stackTraces = false) (S : CallFix p m c code 7 s #[Value.ref b] WS R_law) (hK : va_K D cls (tyL G) s) (hZ : tz s.heap.size s) (hX : va_X b L xs s s.heap) (hbl : b < s.heap.size) (hn : 2 ≤ n ∧ n ≤ 6) (hL : L ≤ 2561) (hi : i + 4 < L) (Rs : Sim_next R) (hR : R n M N) (hI : LI D G n s.heap.size M N v s.heap H locs) (hl : lv_has ls 7 [(4, .int (nI i)), (0, .ref b), (1, .ref (cad s.heap.size n 0)), (2, .ref (tad s.heap.size n 0)), (3, .ref (oad s.heap.size n))]) (hc : cells + 1 ≤ 601024) (hs : slots + 6 ≤ 7293000)
    (kk : ∀ (M N : Mem) (v : Nat → Int64) (H : Heap) (locs : List Loc) (ls : Array Slot), R n M N → LI D G n s.heap.size M N v s.heap H locs → lv_has ls 7 [(4, .int (nI i)), (0, .ref b), (1, .ref (cad s.heap.size n 0)), (2, .ref (tad s.heap.size n 0)), (3, .ref (oad s.heap.size n))] → W p l e room_1 s m #[Value.ref b] below meth c H locs (cells + 1) (slots + 6) Q (F0 m 1051 ls [])) : W p l e room_1 s m #[Value.ref b] below meth c H locs cells slots Q (F0 m 562 ls []) := by
  obtain ⟨hx, hb, hml, hown, hts⟩ := id S
  refine lv_aload_n hx hb d_law_562 rfl (lv_at hl 2 rfl) ?_
  refine sc_arg (k := 1) (q0 := 1) (q4 := 0) (j := 569) hx hb hX hbl hI.2.2.2 hl rfl rfl (by omega) hL rfl d_law_563 d_law_564 d_law_566 rfl d_law_567 d_law_568 ?_
  refine sc_arg (k := 2) (q0 := 1) (q4 := 0) (j := 575) hx hb hX hbl hI.2.2.2 hl rfl rfl (by omega) hL rfl d_law_569 d_law_570 d_law_572 rfl d_law_573 d_law_574 ?_
  refine lv_aload_n hx hb d_law_575 rfl (lv_at hl 4 rfl) ?_
  rcases Rs n M N (xs (i + 1)) (xs (i + 2)) hn hR with ⟨x, y, f1, f2, f3, f4, f5⟩ | ⟨y, f1, f2, f3, f5⟩
  · refine q_ok hn.1 hI (k_staW S (l_Law_next (l := l) (h0 := s.heap.size) (D := D) (n := n) (ad := cad s.heap.size n) (G := G) (M := M) (o := oad s.heap.size n) (v := v) f1) gs_101 hd_Law_next ⟨rfl, rfl⟩ ⟨Nat.le_of_ble_eq_true rfl, Nat.le_of_ble_eq_true rfl⟩ oB_blind (LI_c hn.1 hK hZ hI) rfl hl.1 rfl (Nat.le_of_ble_eq_true rfl) d_law_576 (Nat.le_of_succ_le hc) (Nat.le_trans (Nat.le_add_right _ _) hs)) (fun H locs hI => ?_)
    refine lv_istore (lv' := [(5, .int 0), (4, .int (nI i)), (0, .ref b), (1, .ref (cad s.heap.size n 0)), (2, .ref (tad s.heap.size n 0)), (3, .ref (oad s.heap.size n))]) hx hb d_law_579 hl (by decide) rfl (fun ls hl => ?_)
    refine lv_aload_n hx hb d_law_581 rfl (lv_at hl 4 rfl) ?_
    refine sc_arg (k := 1) (q0 := 2) (q4 := 1) (j := 588) hx hb hX hbl hI.2.2.2 hl rfl rfl (by omega) hL rfl d_law_582 d_law_583 d_law_585 rfl d_law_586 d_law_587 ?_
    refine sc_arg (k := 2) (q0 := 2) (q4 := 1) (j := 594) hx hb hX hbl hI.2.2.2 hl rfl rfl (by omega) hL rfl d_law_588 d_law_589 d_law_591 rfl d_law_592 d_law_593 ?_
    refine q_md hn.1 hI (k_vir S (c_Model_next (l := l) (D := D) (ad := tad s.heap.size n) (G := G) f2) gv_103 hd_Model_next ⟨rfl, rfl⟩ ⟨Nat.le_of_ble_eq_true rfl, Nat.le_of_ble_eq_true rfl⟩ wl_blind (va_recv hK hI.2.1 rfl (wl_to (by decide) (MO_at))) (LI_t hK hI) rfl hl.1 rfl (Nat.le_of_ble_eq_true rfl) d_law_594 (Nat.le_of_succ_le hc) (Nat.le_trans (Nat.le_add_right _ _) hs)) (fun H locs hI => ?_)
    refine lv_istore (lv' := [(6, .int y.1), (5, .int 0), (4, .int (nI i)), (0, .ref b), (1, .ref (cad s.heap.size n 0)), (2, .ref (tad s.heap.size n 0)), (3, .ref (oad s.heap.size n))]) hx hb d_law_597 hl (by decide) rfl (fun ls hl => ?_)
    refine lv_aload_n hx hb d_law_599 rfl (lv_at hl 5 rfl) ?_
    refine k_rdi (k_vir S (c_Model_thrown (l := l) (D := D) (ad := tad s.heap.size n) (G := G) (M := y.2) (x := 0) (congrArg some f3)) gv_72 hd_Model_thrown ⟨rfl, rfl⟩ ⟨Nat.le_of_ble_eq_true rfl, Nat.le_of_ble_eq_true rfl⟩ wl_blind (va_recv hK hI.2.1 rfl (wl_to (by decide) (MO_at))) (LI_t hK hI) rfl hl.1 rfl (Nat.le_of_ble_eq_true rfl) d_law_600 (Nat.le_of_succ_le hc) (Nat.le_trans (Nat.le_add_right _ _) hs)) ?_
    refine lv_iload hx hb d_law_603 (lv_at hl 1 rfl) ?_
    refine lv_icmp_eq (tgt := 610) hx hb d_law_605 (by decide) (fun _ => ?_) (fun h9 => absurd rfl h9)
    refine lv_iload hx hb d_law_610 (lv_at hl 1 rfl) ?_
    refine lv_if_ne (tgt := 627) hx hb d_law_612 (by decide) (fun h9 => absurd rfl h9) (fun _ => ?_)
    refine lv_aload_n hx hb d_law_615 rfl (lv_at hl 6 rfl) ?_
    refine lv_iconst (v := 0) hx hb d_law_616 (by decide) ?_
    refine va_lald (D := D) hx hb hK hI.2.2.1 0 4 rfl rfl (nI_in (c := 0) (by decide) (by decide)) d_law_617 ?_
    rw [uL_0, f4]
    refine lv_iload hx hb d_law_618 (lv_at hl 0 rfl) ?_
    refine lv_i2l (v := y.1.toInt64) hx hb d_law_620 rfl ?_
    refine W.lcmp hx hb d_law_621 ?_
    rw [lg_same]
    refine lv_if_eq (tgt := 627) hx hb d_law_622 (by decide) (fun _ => ?_) (fun h9 => absurd rfl h9)
    refine lv_goto (tgt := 1051) hx hb d_law_627 (by decide) ?_
    exact W.widen (k := cells + 1) (n := slots + 6) (Nat.le_succ _) (Nat.le_add_right _ _) (kk _ _ _ _ _ _ f5 hI (lv_sub hl [2, 3, 4, 5, 6] rfl))
  · refine q_no hI (k_staW S (n_Law_next (l := l) hl0 (h0 := s.heap.size) (D := D) (n := n) (ad := cad s.heap.size n) (G := G) (M := M) (o := oad s.heap.size n) (v := v) f1) gs_101 hd_Law_next ⟨rfl, rfl⟩ ⟨Nat.le_of_ble_eq_true rfl, Nat.le_of_ble_eq_true rfl⟩ oB_blind (LI_c hn.1 hK hZ hI) rfl hl.1 rfl (Nat.le_of_ble_eq_true rfl) d_law_576 hc hs) (fun H locs hI => ?_)
    refine lv_istore (lv' := [(5, .int 1), (4, .int (nI i)), (0, .ref b), (1, .ref (cad s.heap.size n 0)), (2, .ref (tad s.heap.size n 0)), (3, .ref (oad s.heap.size n))]) hx hb d_law_579 hl (by decide) rfl (fun ls hl => ?_)
    refine lv_aload_n hx hb d_law_581 rfl (lv_at hl 4 rfl) ?_
    refine sc_arg (k := 1) (q0 := 2) (q4 := 1) (j := 588) hx hb hX hbl hI.2.2.2 hl rfl rfl (by omega) hL rfl d_law_582 d_law_583 d_law_585 rfl d_law_586 d_law_587 ?_
    refine sc_arg (k := 2) (q0 := 2) (q4 := 1) (j := 594) hx hb hX hbl hI.2.2.2 hl rfl rfl (by omega) hL rfl d_law_588 d_law_589 d_law_591 rfl d_law_592 d_law_593 ?_
    refine q_md hn.1 hI (k_vir S (c_Model_next (l := l) (D := D) (ad := tad s.heap.size n) (G := G) f2) gv_103 hd_Model_next ⟨rfl, rfl⟩ ⟨Nat.le_of_ble_eq_true rfl, Nat.le_of_ble_eq_true rfl⟩ wl_blind (va_recv hK hI.2.1 rfl (wl_to (by decide) (MO_at))) (LI_t hK hI) rfl hl.1 rfl (Nat.le_of_ble_eq_true rfl) d_law_594 hc hs) (fun H locs hI => ?_)
    refine lv_istore (lv' := [(6, .int y.1), (5, .int 1), (4, .int (nI i)), (0, .ref b), (1, .ref (cad s.heap.size n 0)), (2, .ref (tad s.heap.size n 0)), (3, .ref (oad s.heap.size n))]) hx hb d_law_597 hl (by decide) rfl (fun ls hl => ?_)
    refine lv_aload_n hx hb d_law_599 rfl (lv_at hl 5 rfl) ?_
    refine k_rdi (k_vir S (c_Model_thrown (l := l) (D := D) (ad := tad s.heap.size n) (G := G) (M := y.2) (x := 1) (congrArg some f3)) gv_72 hd_Model_thrown ⟨rfl, rfl⟩ ⟨Nat.le_of_ble_eq_true rfl, Nat.le_of_ble_eq_true rfl⟩ wl_blind (va_recv hK hI.2.1 rfl (wl_to (by decide) (MO_at))) (LI_t hK hI) rfl hl.1 rfl (Nat.le_of_ble_eq_true rfl) d_law_600 hc hs) ?_
    refine lv_iload hx hb d_law_603 (lv_at hl 1 rfl) ?_
    refine lv_icmp_eq (tgt := 610) hx hb d_law_605 (by decide) (fun _ => ?_) (fun h9 => absurd rfl h9)
    refine lv_iload hx hb d_law_610 (lv_at hl 1 rfl) ?_
    refine lv_if_ne (tgt := 627) hx hb d_law_612 (by decide) (fun _ => ?_) (fun h9 => absurd h9 (by decide))
    refine lv_goto (tgt := 1051) hx hb d_law_627 (by decide) ?_
    exact kk _ _ _ _ _ _ f5 hI (lv_sub hl [2, 3, 4, 5, 6] rfl)

set_option maxHeartbeats 4000000 in
set_option maxRecDepth 100000 in
theorem law_label (hl0 : l.stackTraces = false) (S : CallFix p m c code 7 s #[Value.ref b] WS R_law) (hK : va_K D cls (tyL G) s) (hZ : tz s.heap.size s) (hX : va_X b L xs s s.heap) (hbl : b < s.heap.size) (hn : 2 ≤ n ∧ n ≤ 6) (hL : L ≤ 2561) (hi : i + 4 < L) (Rs : Sim_label R) (hR : R n M N) (hI : LI D G n s.heap.size M N v s.heap H locs) (hl : lv_has ls 7 [(4, .int (nI i)), (0, .ref b), (1, .ref (cad s.heap.size n 0)), (2, .ref (tad s.heap.size n 0)), (3, .ref (oad s.heap.size n))]) (hc : cells + 1 ≤ 601024) (hs : slots + 6 ≤ 7293000)
    (kk : ∀ (M N : Mem) (v : Nat → Int64) (H : Heap) (locs : List Loc) (ls : Array Slot), R n M N → LI D G n s.heap.size M N v s.heap H locs → lv_has ls 7 [(4, .int (nI i)), (0, .ref b), (1, .ref (cad s.heap.size n 0)), (2, .ref (tad s.heap.size n 0)), (3, .ref (oad s.heap.size n))] → W p l e room_1 s m #[Value.ref b] below meth c H locs (cells + 1) (slots + 6) Q (F0 m 1051 ls [])) : W p l e room_1 s m #[Value.ref b] below meth c H locs cells slots Q (F0 m 630 ls []) := by
  obtain ⟨hx, hb, hml, hown, hts⟩ := id S
  refine lv_aload_n hx hb d_law_630 rfl (lv_at hl 2 rfl) ?_
  refine sc_arg (k := 1) (q0 := 1) (q4 := 0) (j := 637) hx hb hX hbl hI.2.2.2 hl rfl rfl (by omega) hL rfl d_law_631 d_law_632 d_law_634 rfl d_law_635 d_law_636 ?_
  refine sc_arg (k := 2) (q0 := 1) (q4 := 0) (j := 643) hx hb hX hbl hI.2.2.2 hl rfl rfl (by omega) hL rfl d_law_637 d_law_638 d_law_640 rfl d_law_641 d_law_642 ?_
  refine lv_aload_n hx hb d_law_643 rfl (lv_at hl 4 rfl) ?_
  rcases Rs n M N (xs (i + 1)) (xs (i + 2)) hn hR with ⟨x, y, f1, f2, f3, f4, f5⟩ | ⟨y, f1, f2, f3, f5⟩
  · refine q_ok hn.1 hI (k_staW S (l_Law_label (l := l) (h0 := s.heap.size) (D := D) (n := n) (ad := cad s.heap.size n) (G := G) (M := M) (o := oad s.heap.size n) (v := v) f1) gs_104 hd_Law_label ⟨rfl, rfl⟩ ⟨Nat.le_of_ble_eq_true rfl, Nat.le_of_ble_eq_true rfl⟩ oB_blind (LI_c hn.1 hK hZ hI) rfl hl.1 rfl (Nat.le_of_ble_eq_true rfl) d_law_644 (Nat.le_of_succ_le hc) (Nat.le_trans (Nat.le_add_right _ _) hs)) (fun H locs hI => ?_)
    refine lv_istore (lv' := [(5, .int 0), (4, .int (nI i)), (0, .ref b), (1, .ref (cad s.heap.size n 0)), (2, .ref (tad s.heap.size n 0)), (3, .ref (oad s.heap.size n))]) hx hb d_law_647 hl (by decide) rfl (fun ls hl => ?_)
    refine lv_aload_n hx hb d_law_649 rfl (lv_at hl 4 rfl) ?_
    refine sc_arg (k := 1) (q0 := 2) (q4 := 1) (j := 656) hx hb hX hbl hI.2.2.2 hl rfl rfl (by omega) hL rfl d_law_650 d_law_651 d_law_653 rfl d_law_654 d_law_655 ?_
    refine sc_arg (k := 2) (q0 := 2) (q4 := 1) (j := 662) hx hb hX hbl hI.2.2.2 hl rfl rfl (by omega) hL rfl d_law_656 d_law_657 d_law_659 rfl d_law_660 d_law_661 ?_
    refine q_md hn.1 hI (k_vir S (c_Model_label (l := l) (D := D) (ad := tad s.heap.size n) (G := G) f2) gv_106 hd_Model_label ⟨rfl, rfl⟩ ⟨Nat.le_of_ble_eq_true rfl, Nat.le_of_ble_eq_true rfl⟩ wl_blind (va_recv hK hI.2.1 rfl (wl_to (by decide) (MO_at))) (LI_t hK hI) rfl hl.1 rfl (Nat.le_of_ble_eq_true rfl) d_law_662 (Nat.le_of_succ_le hc) (Nat.le_trans (Nat.le_add_right _ _) hs)) (fun H locs hI => ?_)
    refine lv_istore (lv' := [(6, .int y.1), (5, .int 0), (4, .int (nI i)), (0, .ref b), (1, .ref (cad s.heap.size n 0)), (2, .ref (tad s.heap.size n 0)), (3, .ref (oad s.heap.size n))]) hx hb d_law_665 hl (by decide) rfl (fun ls hl => ?_)
    refine lv_aload_n hx hb d_law_667 rfl (lv_at hl 5 rfl) ?_
    refine k_rdi (k_vir S (c_Model_thrown (l := l) (D := D) (ad := tad s.heap.size n) (G := G) (M := y.2) (x := 0) (congrArg some f3)) gv_72 hd_Model_thrown ⟨rfl, rfl⟩ ⟨Nat.le_of_ble_eq_true rfl, Nat.le_of_ble_eq_true rfl⟩ wl_blind (va_recv hK hI.2.1 rfl (wl_to (by decide) (MO_at))) (LI_t hK hI) rfl hl.1 rfl (Nat.le_of_ble_eq_true rfl) d_law_668 (Nat.le_of_succ_le hc) (Nat.le_trans (Nat.le_add_right _ _) hs)) ?_
    refine lv_iload hx hb d_law_671 (lv_at hl 1 rfl) ?_
    refine lv_icmp_eq (tgt := 678) hx hb d_law_673 (by decide) (fun _ => ?_) (fun h9 => absurd rfl h9)
    refine lv_iload hx hb d_law_678 (lv_at hl 1 rfl) ?_
    refine lv_if_ne (tgt := 695) hx hb d_law_680 (by decide) (fun h9 => absurd rfl h9) (fun _ => ?_)
    refine lv_aload_n hx hb d_law_683 rfl (lv_at hl 6 rfl) ?_
    refine lv_iconst (v := 0) hx hb d_law_684 (by decide) ?_
    refine va_lald (D := D) hx hb hK hI.2.2.1 0 4 rfl rfl (nI_in (c := 0) (by decide) (by decide)) d_law_685 ?_
    rw [uL_0, f4]
    refine lv_iload hx hb d_law_686 (lv_at hl 0 rfl) ?_
    refine lv_i2l (v := y.1.toInt64) hx hb d_law_688 rfl ?_
    refine W.lcmp hx hb d_law_689 ?_
    rw [lg_same]
    refine lv_if_eq (tgt := 695) hx hb d_law_690 (by decide) (fun _ => ?_) (fun h9 => absurd rfl h9)
    refine lv_goto (tgt := 1051) hx hb d_law_695 (by decide) ?_
    exact W.widen (k := cells + 1) (n := slots + 6) (Nat.le_succ _) (Nat.le_add_right _ _) (kk _ _ _ _ _ _ f5 hI (lv_sub hl [2, 3, 4, 5, 6] rfl))
  · refine q_no hI (k_staW S (n_Law_label (l := l) hl0 (h0 := s.heap.size) (D := D) (n := n) (ad := cad s.heap.size n) (G := G) (M := M) (o := oad s.heap.size n) (v := v) f1) gs_104 hd_Law_label ⟨rfl, rfl⟩ ⟨Nat.le_of_ble_eq_true rfl, Nat.le_of_ble_eq_true rfl⟩ oB_blind (LI_c hn.1 hK hZ hI) rfl hl.1 rfl (Nat.le_of_ble_eq_true rfl) d_law_644 hc hs) (fun H locs hI => ?_)
    refine lv_istore (lv' := [(5, .int 1), (4, .int (nI i)), (0, .ref b), (1, .ref (cad s.heap.size n 0)), (2, .ref (tad s.heap.size n 0)), (3, .ref (oad s.heap.size n))]) hx hb d_law_647 hl (by decide) rfl (fun ls hl => ?_)
    refine lv_aload_n hx hb d_law_649 rfl (lv_at hl 4 rfl) ?_
    refine sc_arg (k := 1) (q0 := 2) (q4 := 1) (j := 656) hx hb hX hbl hI.2.2.2 hl rfl rfl (by omega) hL rfl d_law_650 d_law_651 d_law_653 rfl d_law_654 d_law_655 ?_
    refine sc_arg (k := 2) (q0 := 2) (q4 := 1) (j := 662) hx hb hX hbl hI.2.2.2 hl rfl rfl (by omega) hL rfl d_law_656 d_law_657 d_law_659 rfl d_law_660 d_law_661 ?_
    refine q_md hn.1 hI (k_vir S (c_Model_label (l := l) (D := D) (ad := tad s.heap.size n) (G := G) f2) gv_106 hd_Model_label ⟨rfl, rfl⟩ ⟨Nat.le_of_ble_eq_true rfl, Nat.le_of_ble_eq_true rfl⟩ wl_blind (va_recv hK hI.2.1 rfl (wl_to (by decide) (MO_at))) (LI_t hK hI) rfl hl.1 rfl (Nat.le_of_ble_eq_true rfl) d_law_662 hc hs) (fun H locs hI => ?_)
    refine lv_istore (lv' := [(6, .int y.1), (5, .int 1), (4, .int (nI i)), (0, .ref b), (1, .ref (cad s.heap.size n 0)), (2, .ref (tad s.heap.size n 0)), (3, .ref (oad s.heap.size n))]) hx hb d_law_665 hl (by decide) rfl (fun ls hl => ?_)
    refine lv_aload_n hx hb d_law_667 rfl (lv_at hl 5 rfl) ?_
    refine k_rdi (k_vir S (c_Model_thrown (l := l) (D := D) (ad := tad s.heap.size n) (G := G) (M := y.2) (x := 1) (congrArg some f3)) gv_72 hd_Model_thrown ⟨rfl, rfl⟩ ⟨Nat.le_of_ble_eq_true rfl, Nat.le_of_ble_eq_true rfl⟩ wl_blind (va_recv hK hI.2.1 rfl (wl_to (by decide) (MO_at))) (LI_t hK hI) rfl hl.1 rfl (Nat.le_of_ble_eq_true rfl) d_law_668 hc hs) ?_
    refine lv_iload hx hb d_law_671 (lv_at hl 1 rfl) ?_
    refine lv_icmp_eq (tgt := 678) hx hb d_law_673 (by decide) (fun _ => ?_) (fun h9 => absurd rfl h9)
    refine lv_iload hx hb d_law_678 (lv_at hl 1 rfl) ?_
    refine lv_if_ne (tgt := 695) hx hb d_law_680 (by decide) (fun _ => ?_) (fun h9 => absurd h9 (by decide))
    refine lv_goto (tgt := 1051) hx hb d_law_695 (by decide) ?_
    exact kk _ _ _ _ _ _ f5 hI (lv_sub hl [2, 3, 4, 5, 6] rfl)

set_option maxHeartbeats 4000000 in
set_option maxRecDepth 100000 in
theorem law_told (hl0 : l.stackTraces = false) (S : CallFix p m c code 7 s #[Value.ref b] WS R_law) (hK : va_K D cls (tyL G) s) (hZ : tz s.heap.size s) (hX : va_X b L xs s s.heap) (hbl : b < s.heap.size) (hn : 2 ≤ n ∧ n ≤ 6) (hL : L ≤ 2561) (hi : i + 4 < L) (Rs : Sim_told R) (hR : R n M N) (hI : LI D G n s.heap.size M N v s.heap H locs) (hl : lv_has ls 7 [(4, .int (nI i)), (0, .ref b), (1, .ref (cad s.heap.size n 0)), (2, .ref (tad s.heap.size n 0)), (3, .ref (oad s.heap.size n))]) (hc : cells + 1 ≤ 601024) (hs : slots + 6 ≤ 7293000)
    (kk : ∀ (M N : Mem) (v : Nat → Int64) (H : Heap) (locs : List Loc) (ls : Array Slot), R n M N → LI D G n s.heap.size M N v s.heap H locs → lv_has ls 7 [(4, .int (nI i)), (0, .ref b), (1, .ref (cad s.heap.size n 0)), (2, .ref (tad s.heap.size n 0)), (3, .ref (oad s.heap.size n))] → W p l e room_1 s m #[Value.ref b] below meth c H locs (cells + 1) (slots + 6) Q (F0 m 1051 ls [])) : W p l e room_1 s m #[Value.ref b] below meth c H locs cells slots Q (F0 m 698 ls []) := by
  obtain ⟨hx, hb, hml, hown, hts⟩ := id S
  refine lv_aload_n hx hb d_law_698 rfl (lv_at hl 2 rfl) ?_
  refine sc_arg (k := 1) (q0 := 1) (q4 := 0) (j := 705) hx hb hX hbl hI.2.2.2 hl rfl rfl (by omega) hL rfl d_law_699 d_law_700 d_law_702 rfl d_law_703 d_law_704 ?_
  refine sc_arg (k := 2) (q0 := 1) (q4 := 0) (j := 711) hx hb hX hbl hI.2.2.2 hl rfl rfl (by omega) hL rfl d_law_705 d_law_706 d_law_708 rfl d_law_709 d_law_710 ?_
  refine sc_arg (k := 3) (q0 := 1) (q4 := 0) (j := 717) hx hb hX hbl hI.2.2.2 hl rfl rfl (by omega) hL rfl d_law_711 d_law_712 d_law_714 rfl d_law_715 d_law_716 ?_
  refine lv_aload_n hx hb d_law_717 rfl (lv_at hl 4 rfl) ?_
  rcases Rs n M N (xs (i + 1)) (xs (i + 2)) (xs (i + 3)) hn hR with ⟨x, y, f1, f2, f3, f4, f5⟩ | ⟨y, f1, f2, f3, f5⟩
  · refine q_ok hn.1 hI (k_staW S (l_Law_told (l := l) (h0 := s.heap.size) (D := D) (n := n) (ad := cad s.heap.size n) (G := G) (M := M) (o := oad s.heap.size n) (v := v) f1) gs_107 hd_Law_told ⟨rfl, rfl⟩ ⟨Nat.le_of_ble_eq_true rfl, Nat.le_of_ble_eq_true rfl⟩ oB_blind (LI_c hn.1 hK hZ hI) rfl hl.1 rfl (Nat.le_of_ble_eq_true rfl) d_law_718 (Nat.le_of_succ_le hc) (Nat.le_trans (Nat.le_add_right _ _) hs)) (fun H locs hI => ?_)
    refine lv_istore (lv' := [(5, .int 0), (4, .int (nI i)), (0, .ref b), (1, .ref (cad s.heap.size n 0)), (2, .ref (tad s.heap.size n 0)), (3, .ref (oad s.heap.size n))]) hx hb d_law_721 hl (by decide) rfl (fun ls hl => ?_)
    refine lv_aload_n hx hb d_law_723 rfl (lv_at hl 4 rfl) ?_
    refine sc_arg (k := 1) (q0 := 2) (q4 := 1) (j := 730) hx hb hX hbl hI.2.2.2 hl rfl rfl (by omega) hL rfl d_law_724 d_law_725 d_law_727 rfl d_law_728 d_law_729 ?_
    refine sc_arg (k := 2) (q0 := 2) (q4 := 1) (j := 736) hx hb hX hbl hI.2.2.2 hl rfl rfl (by omega) hL rfl d_law_730 d_law_731 d_law_733 rfl d_law_734 d_law_735 ?_
    refine sc_arg (k := 3) (q0 := 2) (q4 := 1) (j := 742) hx hb hX hbl hI.2.2.2 hl rfl rfl (by omega) hL rfl d_law_736 d_law_737 d_law_739 rfl d_law_740 d_law_741 ?_
    refine q_md hn.1 hI (k_vir S (c_Model_told (l := l) (D := D) (ad := tad s.heap.size n) (G := G) f2) gv_109 hd_Model_told ⟨rfl, rfl⟩ ⟨Nat.le_of_ble_eq_true rfl, Nat.le_of_ble_eq_true rfl⟩ wl_blind (va_recv hK hI.2.1 rfl (wl_to (by decide) (MO_at))) (LI_t hK hI) rfl hl.1 rfl (Nat.le_of_ble_eq_true rfl) d_law_742 (Nat.le_of_succ_le hc) (Nat.le_trans (Nat.le_add_right _ _) hs)) (fun H locs hI => ?_)
    refine lv_istore (lv' := [(6, .int y.1), (5, .int 0), (4, .int (nI i)), (0, .ref b), (1, .ref (cad s.heap.size n 0)), (2, .ref (tad s.heap.size n 0)), (3, .ref (oad s.heap.size n))]) hx hb d_law_745 hl (by decide) rfl (fun ls hl => ?_)
    refine lv_aload_n hx hb d_law_747 rfl (lv_at hl 5 rfl) ?_
    refine k_rdi (k_vir S (c_Model_thrown (l := l) (D := D) (ad := tad s.heap.size n) (G := G) (M := y.2) (x := 0) (congrArg some f3)) gv_72 hd_Model_thrown ⟨rfl, rfl⟩ ⟨Nat.le_of_ble_eq_true rfl, Nat.le_of_ble_eq_true rfl⟩ wl_blind (va_recv hK hI.2.1 rfl (wl_to (by decide) (MO_at))) (LI_t hK hI) rfl hl.1 rfl (Nat.le_of_ble_eq_true rfl) d_law_748 (Nat.le_of_succ_le hc) (Nat.le_trans (Nat.le_add_right _ _) hs)) ?_
    refine lv_iload hx hb d_law_751 (lv_at hl 1 rfl) ?_
    refine lv_icmp_eq (tgt := 758) hx hb d_law_753 (by decide) (fun _ => ?_) (fun h9 => absurd rfl h9)
    refine lv_iload hx hb d_law_758 (lv_at hl 1 rfl) ?_
    refine lv_if_ne (tgt := 775) hx hb d_law_760 (by decide) (fun h9 => absurd rfl h9) (fun _ => ?_)
    refine lv_aload_n hx hb d_law_763 rfl (lv_at hl 6 rfl) ?_
    refine lv_iconst (v := 0) hx hb d_law_764 (by decide) ?_
    refine va_lald (D := D) hx hb hK hI.2.2.1 0 4 rfl rfl (nI_in (c := 0) (by decide) (by decide)) d_law_765 ?_
    rw [uL_0, f4]
    refine lv_iload hx hb d_law_766 (lv_at hl 0 rfl) ?_
    refine lv_i2l (v := y.1.toInt64) hx hb d_law_768 rfl ?_
    refine W.lcmp hx hb d_law_769 ?_
    rw [lg_same]
    refine lv_if_eq (tgt := 775) hx hb d_law_770 (by decide) (fun _ => ?_) (fun h9 => absurd rfl h9)
    refine lv_goto (tgt := 1051) hx hb d_law_775 (by decide) ?_
    exact W.widen (k := cells + 1) (n := slots + 6) (Nat.le_succ _) (Nat.le_add_right _ _) (kk _ _ _ _ _ _ f5 hI (lv_sub hl [2, 3, 4, 5, 6] rfl))
  · refine q_no hI (k_staW S (n_Law_told (l := l) hl0 (h0 := s.heap.size) (D := D) (n := n) (ad := cad s.heap.size n) (G := G) (M := M) (o := oad s.heap.size n) (v := v) f1) gs_107 hd_Law_told ⟨rfl, rfl⟩ ⟨Nat.le_of_ble_eq_true rfl, Nat.le_of_ble_eq_true rfl⟩ oB_blind (LI_c hn.1 hK hZ hI) rfl hl.1 rfl (Nat.le_of_ble_eq_true rfl) d_law_718 hc hs) (fun H locs hI => ?_)
    refine lv_istore (lv' := [(5, .int 1), (4, .int (nI i)), (0, .ref b), (1, .ref (cad s.heap.size n 0)), (2, .ref (tad s.heap.size n 0)), (3, .ref (oad s.heap.size n))]) hx hb d_law_721 hl (by decide) rfl (fun ls hl => ?_)
    refine lv_aload_n hx hb d_law_723 rfl (lv_at hl 4 rfl) ?_
    refine sc_arg (k := 1) (q0 := 2) (q4 := 1) (j := 730) hx hb hX hbl hI.2.2.2 hl rfl rfl (by omega) hL rfl d_law_724 d_law_725 d_law_727 rfl d_law_728 d_law_729 ?_
    refine sc_arg (k := 2) (q0 := 2) (q4 := 1) (j := 736) hx hb hX hbl hI.2.2.2 hl rfl rfl (by omega) hL rfl d_law_730 d_law_731 d_law_733 rfl d_law_734 d_law_735 ?_
    refine sc_arg (k := 3) (q0 := 2) (q4 := 1) (j := 742) hx hb hX hbl hI.2.2.2 hl rfl rfl (by omega) hL rfl d_law_736 d_law_737 d_law_739 rfl d_law_740 d_law_741 ?_
    refine q_md hn.1 hI (k_vir S (c_Model_told (l := l) (D := D) (ad := tad s.heap.size n) (G := G) f2) gv_109 hd_Model_told ⟨rfl, rfl⟩ ⟨Nat.le_of_ble_eq_true rfl, Nat.le_of_ble_eq_true rfl⟩ wl_blind (va_recv hK hI.2.1 rfl (wl_to (by decide) (MO_at))) (LI_t hK hI) rfl hl.1 rfl (Nat.le_of_ble_eq_true rfl) d_law_742 hc hs) (fun H locs hI => ?_)
    refine lv_istore (lv' := [(6, .int y.1), (5, .int 1), (4, .int (nI i)), (0, .ref b), (1, .ref (cad s.heap.size n 0)), (2, .ref (tad s.heap.size n 0)), (3, .ref (oad s.heap.size n))]) hx hb d_law_745 hl (by decide) rfl (fun ls hl => ?_)
    refine lv_aload_n hx hb d_law_747 rfl (lv_at hl 5 rfl) ?_
    refine k_rdi (k_vir S (c_Model_thrown (l := l) (D := D) (ad := tad s.heap.size n) (G := G) (M := y.2) (x := 1) (congrArg some f3)) gv_72 hd_Model_thrown ⟨rfl, rfl⟩ ⟨Nat.le_of_ble_eq_true rfl, Nat.le_of_ble_eq_true rfl⟩ wl_blind (va_recv hK hI.2.1 rfl (wl_to (by decide) (MO_at))) (LI_t hK hI) rfl hl.1 rfl (Nat.le_of_ble_eq_true rfl) d_law_748 hc hs) ?_
    refine lv_iload hx hb d_law_751 (lv_at hl 1 rfl) ?_
    refine lv_icmp_eq (tgt := 758) hx hb d_law_753 (by decide) (fun _ => ?_) (fun h9 => absurd rfl h9)
    refine lv_iload hx hb d_law_758 (lv_at hl 1 rfl) ?_
    refine lv_if_ne (tgt := 775) hx hb d_law_760 (by decide) (fun _ => ?_) (fun h9 => absurd h9 (by decide))
    refine lv_goto (tgt := 1051) hx hb d_law_775 (by decide) ?_
    exact kk _ _ _ _ _ _ f5 hI (lv_sub hl [2, 3, 4, 5, 6] rfl)

set_option maxHeartbeats 4000000 in
set_option maxRecDepth 100000 in
theorem law_taken (hl0 : l.stackTraces = false) (S : CallFix p m c code 7 s #[Value.ref b] WS R_law) (hK : va_K D cls (tyL G) s) (hZ : tz s.heap.size s) (hX : va_X b L xs s s.heap) (hbl : b < s.heap.size) (hn : 2 ≤ n ∧ n ≤ 6) (hL : L ≤ 2561) (hi : i + 4 < L) (Rs : Sim_taken R) (hR : R n M N) (hI : LI D G n s.heap.size M N v s.heap H locs) (hl : lv_has ls 7 [(4, .int (nI i)), (0, .ref b), (1, .ref (cad s.heap.size n 0)), (2, .ref (tad s.heap.size n 0)), (3, .ref (oad s.heap.size n))]) (hc : cells + 1 ≤ 601024) (hs : slots + 6 ≤ 7293000)
    (kk : ∀ (M N : Mem) (v : Nat → Int64) (H : Heap) (locs : List Loc) (ls : Array Slot), R n M N → LI D G n s.heap.size M N v s.heap H locs → lv_has ls 7 [(4, .int (nI i)), (0, .ref b), (1, .ref (cad s.heap.size n 0)), (2, .ref (tad s.heap.size n 0)), (3, .ref (oad s.heap.size n))] → W p l e room_1 s m #[Value.ref b] below meth c H locs (cells + 1) (slots + 6) Q (F0 m 1051 ls [])) : W p l e room_1 s m #[Value.ref b] below meth c H locs cells slots Q (F0 m 778 ls []) := by
  obtain ⟨hx, hb, hml, hown, hts⟩ := id S
  refine lv_aload_n hx hb d_law_778 rfl (lv_at hl 2 rfl) ?_
  refine sc_arg (k := 1) (q0 := 1) (q4 := 0) (j := 785) hx hb hX hbl hI.2.2.2 hl rfl rfl (by omega) hL rfl d_law_779 d_law_780 d_law_782 rfl d_law_783 d_law_784 ?_
  refine lv_aload_n hx hb d_law_785 rfl (lv_at hl 4 rfl) ?_
  rcases Rs n M N (xs (i + 1)) hn hR with ⟨x, y, f1, f2, f3, f4, f5⟩ | ⟨y, f1, f2, f3, f5⟩
  · refine q_ok hn.1 hI (k_staW S (l_Law_taken (l := l) (h0 := s.heap.size) (D := D) (n := n) (ad := cad s.heap.size n) (G := G) (M := M) (o := oad s.heap.size n) (v := v) f1) gs_110 hd_Law_taken ⟨rfl, rfl⟩ ⟨Nat.le_of_ble_eq_true rfl, Nat.le_of_ble_eq_true rfl⟩ oB_blind (LI_c hn.1 hK hZ hI) rfl hl.1 rfl (Nat.le_of_ble_eq_true rfl) d_law_786 (Nat.le_of_succ_le hc) (Nat.le_trans (Nat.le_add_right _ _) hs)) (fun H locs hI => ?_)
    refine lv_istore (lv' := [(5, .int 0), (4, .int (nI i)), (0, .ref b), (1, .ref (cad s.heap.size n 0)), (2, .ref (tad s.heap.size n 0)), (3, .ref (oad s.heap.size n))]) hx hb d_law_789 hl (by decide) rfl (fun ls hl => ?_)
    refine lv_aload_n hx hb d_law_791 rfl (lv_at hl 4 rfl) ?_
    refine sc_arg (k := 1) (q0 := 2) (q4 := 1) (j := 798) hx hb hX hbl hI.2.2.2 hl rfl rfl (by omega) hL rfl d_law_792 d_law_793 d_law_795 rfl d_law_796 d_law_797 ?_
    refine q_md hn.1 hI (k_vir S (c_Model_taken (l := l) (D := D) (ad := tad s.heap.size n) (G := G) f2) gv_112 hd_Model_taken ⟨rfl, rfl⟩ ⟨Nat.le_of_ble_eq_true rfl, Nat.le_of_ble_eq_true rfl⟩ wl_blind (va_recv hK hI.2.1 rfl (wl_to (by decide) (MO_at))) (LI_t hK hI) rfl hl.1 rfl (Nat.le_of_ble_eq_true rfl) d_law_798 (Nat.le_of_succ_le hc) (Nat.le_trans (Nat.le_add_right _ _) hs)) (fun H locs hI => ?_)
    refine lv_istore (lv' := [(6, .int y.1), (5, .int 0), (4, .int (nI i)), (0, .ref b), (1, .ref (cad s.heap.size n 0)), (2, .ref (tad s.heap.size n 0)), (3, .ref (oad s.heap.size n))]) hx hb d_law_801 hl (by decide) rfl (fun ls hl => ?_)
    refine lv_aload_n hx hb d_law_803 rfl (lv_at hl 5 rfl) ?_
    refine k_rdi (k_vir S (c_Model_thrown (l := l) (D := D) (ad := tad s.heap.size n) (G := G) (M := y.2) (x := 0) (congrArg some f3)) gv_72 hd_Model_thrown ⟨rfl, rfl⟩ ⟨Nat.le_of_ble_eq_true rfl, Nat.le_of_ble_eq_true rfl⟩ wl_blind (va_recv hK hI.2.1 rfl (wl_to (by decide) (MO_at))) (LI_t hK hI) rfl hl.1 rfl (Nat.le_of_ble_eq_true rfl) d_law_804 (Nat.le_of_succ_le hc) (Nat.le_trans (Nat.le_add_right _ _) hs)) ?_
    refine lv_iload hx hb d_law_807 (lv_at hl 1 rfl) ?_
    refine lv_icmp_eq (tgt := 814) hx hb d_law_809 (by decide) (fun _ => ?_) (fun h9 => absurd rfl h9)
    refine lv_iload hx hb d_law_814 (lv_at hl 1 rfl) ?_
    refine lv_if_ne (tgt := 831) hx hb d_law_816 (by decide) (fun h9 => absurd rfl h9) (fun _ => ?_)
    refine lv_aload_n hx hb d_law_819 rfl (lv_at hl 6 rfl) ?_
    refine lv_iconst (v := 0) hx hb d_law_820 (by decide) ?_
    refine va_lald (D := D) hx hb hK hI.2.2.1 0 4 rfl rfl (nI_in (c := 0) (by decide) (by decide)) d_law_821 ?_
    rw [uL_0, f4]
    refine lv_iload hx hb d_law_822 (lv_at hl 0 rfl) ?_
    refine lv_i2l (v := y.1.toInt64) hx hb d_law_824 rfl ?_
    refine W.lcmp hx hb d_law_825 ?_
    rw [lg_same]
    refine lv_if_eq (tgt := 831) hx hb d_law_826 (by decide) (fun _ => ?_) (fun h9 => absurd rfl h9)
    refine lv_goto (tgt := 1051) hx hb d_law_831 (by decide) ?_
    exact W.widen (k := cells + 1) (n := slots + 6) (Nat.le_succ _) (Nat.le_add_right _ _) (kk _ _ _ _ _ _ f5 hI (lv_sub hl [2, 3, 4, 5, 6] rfl))
  · refine q_no hI (k_staW S (n_Law_taken (l := l) hl0 (h0 := s.heap.size) (D := D) (n := n) (ad := cad s.heap.size n) (G := G) (M := M) (o := oad s.heap.size n) (v := v) f1) gs_110 hd_Law_taken ⟨rfl, rfl⟩ ⟨Nat.le_of_ble_eq_true rfl, Nat.le_of_ble_eq_true rfl⟩ oB_blind (LI_c hn.1 hK hZ hI) rfl hl.1 rfl (Nat.le_of_ble_eq_true rfl) d_law_786 hc hs) (fun H locs hI => ?_)
    refine lv_istore (lv' := [(5, .int 1), (4, .int (nI i)), (0, .ref b), (1, .ref (cad s.heap.size n 0)), (2, .ref (tad s.heap.size n 0)), (3, .ref (oad s.heap.size n))]) hx hb d_law_789 hl (by decide) rfl (fun ls hl => ?_)
    refine lv_aload_n hx hb d_law_791 rfl (lv_at hl 4 rfl) ?_
    refine sc_arg (k := 1) (q0 := 2) (q4 := 1) (j := 798) hx hb hX hbl hI.2.2.2 hl rfl rfl (by omega) hL rfl d_law_792 d_law_793 d_law_795 rfl d_law_796 d_law_797 ?_
    refine q_md hn.1 hI (k_vir S (c_Model_taken (l := l) (D := D) (ad := tad s.heap.size n) (G := G) f2) gv_112 hd_Model_taken ⟨rfl, rfl⟩ ⟨Nat.le_of_ble_eq_true rfl, Nat.le_of_ble_eq_true rfl⟩ wl_blind (va_recv hK hI.2.1 rfl (wl_to (by decide) (MO_at))) (LI_t hK hI) rfl hl.1 rfl (Nat.le_of_ble_eq_true rfl) d_law_798 hc hs) (fun H locs hI => ?_)
    refine lv_istore (lv' := [(6, .int y.1), (5, .int 1), (4, .int (nI i)), (0, .ref b), (1, .ref (cad s.heap.size n 0)), (2, .ref (tad s.heap.size n 0)), (3, .ref (oad s.heap.size n))]) hx hb d_law_801 hl (by decide) rfl (fun ls hl => ?_)
    refine lv_aload_n hx hb d_law_803 rfl (lv_at hl 5 rfl) ?_
    refine k_rdi (k_vir S (c_Model_thrown (l := l) (D := D) (ad := tad s.heap.size n) (G := G) (M := y.2) (x := 1) (congrArg some f3)) gv_72 hd_Model_thrown ⟨rfl, rfl⟩ ⟨Nat.le_of_ble_eq_true rfl, Nat.le_of_ble_eq_true rfl⟩ wl_blind (va_recv hK hI.2.1 rfl (wl_to (by decide) (MO_at))) (LI_t hK hI) rfl hl.1 rfl (Nat.le_of_ble_eq_true rfl) d_law_804 hc hs) ?_
    refine lv_iload hx hb d_law_807 (lv_at hl 1 rfl) ?_
    refine lv_icmp_eq (tgt := 814) hx hb d_law_809 (by decide) (fun _ => ?_) (fun h9 => absurd rfl h9)
    refine lv_iload hx hb d_law_814 (lv_at hl 1 rfl) ?_
    refine lv_if_ne (tgt := 831) hx hb d_law_816 (by decide) (fun _ => ?_) (fun h9 => absurd h9 (by decide))
    refine lv_goto (tgt := 1051) hx hb d_law_831 (by decide) ?_
    exact kk _ _ _ _ _ _ f5 hI (lv_sub hl [2, 3, 4, 5, 6] rfl)

set_option maxHeartbeats 4000000 in
set_option maxRecDepth 100000 in
theorem law_send (hl0 : l.stackTraces = false) (S : CallFix p m c code 7 s #[Value.ref b] WS R_law) (hK : va_K D cls (tyL G) s) (hZ : tz s.heap.size s) (hX : va_X b L xs s s.heap) (hbl : b < s.heap.size) (hn : 2 ≤ n ∧ n ≤ 6) (hL : L ≤ 2561) (hi : i + 4 < L) (Rs : Sim_send R) (hR : R n M N) (hI : LI D G n s.heap.size M N v s.heap H locs) (hl : lv_has ls 7 [(4, .int (nI i)), (0, .ref b), (1, .ref (cad s.heap.size n 0)), (2, .ref (tad s.heap.size n 0)), (3, .ref (oad s.heap.size n))]) (hc : cells + 1 ≤ 601024) (hs : slots + 6 ≤ 7293000)
    (kk : ∀ (M N : Mem) (v : Nat → Int64) (H : Heap) (locs : List Loc) (ls : Array Slot), R n M N → LI D G n s.heap.size M N v s.heap H locs → lv_has ls 7 [(4, .int (nI i)), (0, .ref b), (1, .ref (cad s.heap.size n 0)), (2, .ref (tad s.heap.size n 0)), (3, .ref (oad s.heap.size n))] → W p l e room_1 s m #[Value.ref b] below meth c H locs (cells + 1) (slots + 6) Q (F0 m 1051 ls [])) : W p l e room_1 s m #[Value.ref b] below meth c H locs cells slots Q (F0 m 834 ls []) := by
  obtain ⟨hx, hb, hml, hown, hts⟩ := id S
  refine lv_aload_n hx hb d_law_834 rfl (lv_at hl 2 rfl) ?_
  refine sc_arg (k := 1) (q0 := 1) (q4 := 0) (j := 841) hx hb hX hbl hI.2.2.2 hl rfl rfl (by omega) hL rfl d_law_835 d_law_836 d_law_838 rfl d_law_839 d_law_840 ?_
  refine sc_arg (k := 2) (q0 := 1) (q4 := 0) (j := 847) hx hb hX hbl hI.2.2.2 hl rfl rfl (by omega) hL rfl d_law_841 d_law_842 d_law_844 rfl d_law_845 d_law_846 ?_
  refine sc_arg (k := 3) (q0 := 1) (q4 := 0) (j := 853) hx hb hX hbl hI.2.2.2 hl rfl rfl (by omega) hL rfl d_law_847 d_law_848 d_law_850 rfl d_law_851 d_law_852 ?_
  refine sc_arg (k := 4) (q0 := 1) (q4 := 0) (j := 859) hx hb hX hbl hI.2.2.2 hl rfl rfl (by omega) hL rfl d_law_853 d_law_854 d_law_856 rfl d_law_857 d_law_858 ?_
  refine lv_aload_n hx hb d_law_859 rfl (lv_at hl 4 rfl) ?_
  rcases Rs n M N (xs (i + 1)) (xs (i + 2)) (xs (i + 3)) (xs (i + 4)) hn hR with ⟨x, y, f1, f2, f3, f4, f5⟩ | ⟨y, f1, f2, f3, f5⟩
  · refine q_ok hn.1 hI (k_staW S (l_Law_send (l := l) (h0 := s.heap.size) (D := D) (n := n) (ad := cad s.heap.size n) (G := G) (M := M) (o := oad s.heap.size n) (v := v) f1) gs_113 hd_Law_send ⟨rfl, rfl⟩ ⟨Nat.le_of_ble_eq_true rfl, Nat.le_of_ble_eq_true rfl⟩ oB_blind (LI_c hn.1 hK hZ hI) rfl hl.1 rfl (Nat.le_of_ble_eq_true rfl) d_law_860 (Nat.le_of_succ_le hc) (Nat.le_trans (Nat.le_add_right _ _) hs)) (fun H locs hI => ?_)
    refine lv_istore (lv' := [(5, .int 0), (4, .int (nI i)), (0, .ref b), (1, .ref (cad s.heap.size n 0)), (2, .ref (tad s.heap.size n 0)), (3, .ref (oad s.heap.size n))]) hx hb d_law_863 hl (by decide) rfl (fun ls hl => ?_)
    refine lv_aload_n hx hb d_law_865 rfl (lv_at hl 4 rfl) ?_
    refine sc_arg (k := 1) (q0 := 2) (q4 := 1) (j := 872) hx hb hX hbl hI.2.2.2 hl rfl rfl (by omega) hL rfl d_law_866 d_law_867 d_law_869 rfl d_law_870 d_law_871 ?_
    refine sc_arg (k := 2) (q0 := 2) (q4 := 1) (j := 878) hx hb hX hbl hI.2.2.2 hl rfl rfl (by omega) hL rfl d_law_872 d_law_873 d_law_875 rfl d_law_876 d_law_877 ?_
    refine sc_arg (k := 3) (q0 := 2) (q4 := 1) (j := 884) hx hb hX hbl hI.2.2.2 hl rfl rfl (by omega) hL rfl d_law_878 d_law_879 d_law_881 rfl d_law_882 d_law_883 ?_
    refine sc_arg (k := 4) (q0 := 2) (q4 := 1) (j := 890) hx hb hX hbl hI.2.2.2 hl rfl rfl (by omega) hL rfl d_law_884 d_law_885 d_law_887 rfl d_law_888 d_law_889 ?_
    refine q_md hn.1 hI (k_vir S (c_Model_send (l := l) (D := D) (ad := tad s.heap.size n) (G := G) f2) gv_116 hd_Model_send ⟨rfl, rfl⟩ ⟨Nat.le_of_ble_eq_true rfl, Nat.le_of_ble_eq_true rfl⟩ wl_blind (va_recv hK hI.2.1 rfl (wl_to (by decide) (MO_at))) (LI_t hK hI) rfl hl.1 rfl (Nat.le_of_ble_eq_true rfl) d_law_890 (Nat.le_of_succ_le hc) (Nat.le_trans (Nat.le_add_right _ _) hs)) (fun H locs hI => ?_)
    refine lv_istore (lv' := [(6, .int y.1), (5, .int 0), (4, .int (nI i)), (0, .ref b), (1, .ref (cad s.heap.size n 0)), (2, .ref (tad s.heap.size n 0)), (3, .ref (oad s.heap.size n))]) hx hb d_law_893 hl (by decide) rfl (fun ls hl => ?_)
    refine lv_aload_n hx hb d_law_895 rfl (lv_at hl 5 rfl) ?_
    refine k_rdi (k_vir S (c_Model_thrown (l := l) (D := D) (ad := tad s.heap.size n) (G := G) (M := y.2) (x := 0) (congrArg some f3)) gv_72 hd_Model_thrown ⟨rfl, rfl⟩ ⟨Nat.le_of_ble_eq_true rfl, Nat.le_of_ble_eq_true rfl⟩ wl_blind (va_recv hK hI.2.1 rfl (wl_to (by decide) (MO_at))) (LI_t hK hI) rfl hl.1 rfl (Nat.le_of_ble_eq_true rfl) d_law_896 (Nat.le_of_succ_le hc) (Nat.le_trans (Nat.le_add_right _ _) hs)) ?_
    refine lv_iload hx hb d_law_899 (lv_at hl 1 rfl) ?_
    refine lv_icmp_eq (tgt := 906) hx hb d_law_901 (by decide) (fun _ => ?_) (fun h9 => absurd rfl h9)
    refine lv_iload hx hb d_law_906 (lv_at hl 1 rfl) ?_
    refine lv_if_ne (tgt := 923) hx hb d_law_908 (by decide) (fun h9 => absurd rfl h9) (fun _ => ?_)
    refine lv_aload_n hx hb d_law_911 rfl (lv_at hl 6 rfl) ?_
    refine lv_iconst (v := 0) hx hb d_law_912 (by decide) ?_
    refine va_lald (D := D) hx hb hK hI.2.2.1 0 4 rfl rfl (nI_in (c := 0) (by decide) (by decide)) d_law_913 ?_
    rw [uL_0, f4]
    refine lv_iload hx hb d_law_914 (lv_at hl 0 rfl) ?_
    refine lv_i2l (v := y.1.toInt64) hx hb d_law_916 rfl ?_
    refine W.lcmp hx hb d_law_917 ?_
    rw [lg_same]
    refine lv_if_eq (tgt := 923) hx hb d_law_918 (by decide) (fun _ => ?_) (fun h9 => absurd rfl h9)
    refine lv_goto (tgt := 1051) hx hb d_law_923 (by decide) ?_
    exact W.widen (k := cells + 1) (n := slots + 6) (Nat.le_succ _) (Nat.le_add_right _ _) (kk _ _ _ _ _ _ f5 hI (lv_sub hl [2, 3, 4, 5, 6] rfl))
  · refine q_no hI (k_staW S (n_Law_send (l := l) hl0 (h0 := s.heap.size) (D := D) (n := n) (ad := cad s.heap.size n) (G := G) (M := M) (o := oad s.heap.size n) (v := v) f1) gs_113 hd_Law_send ⟨rfl, rfl⟩ ⟨Nat.le_of_ble_eq_true rfl, Nat.le_of_ble_eq_true rfl⟩ oB_blind (LI_c hn.1 hK hZ hI) rfl hl.1 rfl (Nat.le_of_ble_eq_true rfl) d_law_860 hc hs) (fun H locs hI => ?_)
    refine lv_istore (lv' := [(5, .int 1), (4, .int (nI i)), (0, .ref b), (1, .ref (cad s.heap.size n 0)), (2, .ref (tad s.heap.size n 0)), (3, .ref (oad s.heap.size n))]) hx hb d_law_863 hl (by decide) rfl (fun ls hl => ?_)
    refine lv_aload_n hx hb d_law_865 rfl (lv_at hl 4 rfl) ?_
    refine sc_arg (k := 1) (q0 := 2) (q4 := 1) (j := 872) hx hb hX hbl hI.2.2.2 hl rfl rfl (by omega) hL rfl d_law_866 d_law_867 d_law_869 rfl d_law_870 d_law_871 ?_
    refine sc_arg (k := 2) (q0 := 2) (q4 := 1) (j := 878) hx hb hX hbl hI.2.2.2 hl rfl rfl (by omega) hL rfl d_law_872 d_law_873 d_law_875 rfl d_law_876 d_law_877 ?_
    refine sc_arg (k := 3) (q0 := 2) (q4 := 1) (j := 884) hx hb hX hbl hI.2.2.2 hl rfl rfl (by omega) hL rfl d_law_878 d_law_879 d_law_881 rfl d_law_882 d_law_883 ?_
    refine sc_arg (k := 4) (q0 := 2) (q4 := 1) (j := 890) hx hb hX hbl hI.2.2.2 hl rfl rfl (by omega) hL rfl d_law_884 d_law_885 d_law_887 rfl d_law_888 d_law_889 ?_
    refine q_md hn.1 hI (k_vir S (c_Model_send (l := l) (D := D) (ad := tad s.heap.size n) (G := G) f2) gv_116 hd_Model_send ⟨rfl, rfl⟩ ⟨Nat.le_of_ble_eq_true rfl, Nat.le_of_ble_eq_true rfl⟩ wl_blind (va_recv hK hI.2.1 rfl (wl_to (by decide) (MO_at))) (LI_t hK hI) rfl hl.1 rfl (Nat.le_of_ble_eq_true rfl) d_law_890 hc hs) (fun H locs hI => ?_)
    refine lv_istore (lv' := [(6, .int y.1), (5, .int 1), (4, .int (nI i)), (0, .ref b), (1, .ref (cad s.heap.size n 0)), (2, .ref (tad s.heap.size n 0)), (3, .ref (oad s.heap.size n))]) hx hb d_law_893 hl (by decide) rfl (fun ls hl => ?_)
    refine lv_aload_n hx hb d_law_895 rfl (lv_at hl 5 rfl) ?_
    refine k_rdi (k_vir S (c_Model_thrown (l := l) (D := D) (ad := tad s.heap.size n) (G := G) (M := y.2) (x := 1) (congrArg some f3)) gv_72 hd_Model_thrown ⟨rfl, rfl⟩ ⟨Nat.le_of_ble_eq_true rfl, Nat.le_of_ble_eq_true rfl⟩ wl_blind (va_recv hK hI.2.1 rfl (wl_to (by decide) (MO_at))) (LI_t hK hI) rfl hl.1 rfl (Nat.le_of_ble_eq_true rfl) d_law_896 hc hs) ?_
    refine lv_iload hx hb d_law_899 (lv_at hl 1 rfl) ?_
    refine lv_icmp_eq (tgt := 906) hx hb d_law_901 (by decide) (fun _ => ?_) (fun h9 => absurd rfl h9)
    refine lv_iload hx hb d_law_906 (lv_at hl 1 rfl) ?_
    refine lv_if_ne (tgt := 923) hx hb d_law_908 (by decide) (fun _ => ?_) (fun h9 => absurd h9 (by decide))
    refine lv_goto (tgt := 1051) hx hb d_law_923 (by decide) ?_
    exact kk _ _ _ _ _ _ f5 hI (lv_sub hl [2, 3, 4, 5, 6] rfl)

set_option maxHeartbeats 4000000 in
set_option maxRecDepth 100000 in
theorem law_hops (hl0 : l.stackTraces = false) (S : CallFix p m c code 7 s #[Value.ref b] WS R_law) (hK : va_K D cls (tyL G) s) (hZ : tz s.heap.size s) (hX : va_X b L xs s s.heap) (hbl : b < s.heap.size) (hn : 2 ≤ n ∧ n ≤ 6) (hL : L ≤ 2561) (hi : i + 4 < L) (Rs : Sim_hops R) (hR : R n M N) (hI : LI D G n s.heap.size M N v s.heap H locs) (hl : lv_has ls 7 [(4, .int (nI i)), (0, .ref b), (1, .ref (cad s.heap.size n 0)), (2, .ref (tad s.heap.size n 0)), (3, .ref (oad s.heap.size n))]) (hc : cells + 1 ≤ 601024) (hs : slots + 6 ≤ 7293000)
    (kk : ∀ (M N : Mem) (v : Nat → Int64) (H : Heap) (locs : List Loc) (ls : Array Slot), R n M N → LI D G n s.heap.size M N v s.heap H locs → lv_has ls 7 [(4, .int (nI i)), (0, .ref b), (1, .ref (cad s.heap.size n 0)), (2, .ref (tad s.heap.size n 0)), (3, .ref (oad s.heap.size n))] → W p l e room_1 s m #[Value.ref b] below meth c H locs (cells + 1) (slots + 6) Q (F0 m 1051 ls [])) : W p l e room_1 s m #[Value.ref b] below meth c H locs cells slots Q (F0 m 926 ls []) := by
  obtain ⟨hx, hb, hml, hown, hts⟩ := id S
  refine lv_aload_n hx hb d_law_926 rfl (lv_at hl 2 rfl) ?_
  obtain ⟨x, y, f1, f2, f4, f5⟩ := Rs n M N hn hR
  refine k_rdi (k_vir S (c_LR_hops (l := l) (D := D) (n := n) (ad := cad s.heap.size n) (G := G) f1) gv_117 hd_LR_hops ⟨rfl, rfl⟩ ⟨Nat.le_of_ble_eq_true rfl, Nat.le_of_ble_eq_true rfl⟩ wl_blind (va_recv hK hI.1 rfl (wl_to LR_lt LR_at)) (LI_k hn.1 hK hI) rfl hl.1 rfl (Nat.le_of_ble_eq_true rfl) d_law_927 (Nat.le_of_succ_le hc) (Nat.le_trans (Nat.le_add_right _ _) hs)) ?_
  refine lv_aload_n hx hb d_law_930 rfl (lv_at hl 3 rfl) ?_
  refine q_md hn.1 hI (k_vir S (c_Model_hops (l := l) (D := D) (ad := tad s.heap.size n) (G := G) f2) gv_120 hd_Model_hops ⟨rfl, rfl⟩ ⟨Nat.le_of_ble_eq_true rfl, Nat.le_of_ble_eq_true rfl⟩ wl_blind (va_recv hK hI.2.1 rfl (wl_to (by decide) (MO_at))) (LI_t hK hI) rfl hl.1 rfl (Nat.le_of_ble_eq_true rfl) d_law_931 (Nat.le_of_succ_le hc) (Nat.le_trans (Nat.le_add_right _ _) hs)) (fun H locs hI => ?_)
  refine lv_icmp_eq (tgt := 1051) hx hb d_law_934 (by decide) (fun _ => ?_) (fun h9 => absurd f4 h9)
  exact W.widen (k := cells + 1) (n := slots + 6) (Nat.le_succ _) (Nat.le_add_right _ _) (kk _ _ _ _ _ _ f5 hI hl)

set_option maxHeartbeats 4000000 in
set_option maxRecDepth 100000 in
theorem law_hop (hl0 : l.stackTraces = false) (S : CallFix p m c code 7 s #[Value.ref b] WS R_law) (hK : va_K D cls (tyL G) s) (hZ : tz s.heap.size s) (hX : va_X b L xs s s.heap) (hbl : b < s.heap.size) (hn : 2 ≤ n ∧ n ≤ 6) (hL : L ≤ 2561) (hi : i + 4 < L) (Rs : Sim_hop R) (hR : R n M N) (hI : LI D G n s.heap.size M N v s.heap H locs) (hl : lv_has ls 7 [(4, .int (nI i)), (0, .ref b), (1, .ref (cad s.heap.size n 0)), (2, .ref (tad s.heap.size n 0)), (3, .ref (oad s.heap.size n))]) (hc : cells + 1 ≤ 601024) (hs : slots + 6 ≤ 7293000)
    (kk : ∀ (M N : Mem) (v : Nat → Int64) (H : Heap) (locs : List Loc) (ls : Array Slot), R n M N → LI D G n s.heap.size M N v s.heap H locs → lv_has ls 7 [(4, .int (nI i)), (0, .ref b), (1, .ref (cad s.heap.size n 0)), (2, .ref (tad s.heap.size n 0)), (3, .ref (oad s.heap.size n))] → W p l e room_1 s m #[Value.ref b] below meth c H locs (cells + 1) (slots + 6) Q (F0 m 1051 ls [])) : W p l e room_1 s m #[Value.ref b] below meth c H locs cells slots Q (F0 m 939 ls []) := by
  obtain ⟨hx, hb, hml, hown, hts⟩ := id S
  refine lv_aload_n hx hb d_law_939 rfl (lv_at hl 2 rfl) ?_
  refine sc_arg (k := 1) (q0 := 1) (q4 := 0) (j := 946) hx hb hX hbl hI.2.2.2 hl rfl rfl (by omega) hL rfl d_law_940 d_law_941 d_law_943 rfl d_law_944 d_law_945 ?_
  refine lv_aload_n hx hb d_law_946 rfl (lv_at hl 4 rfl) ?_
  rcases Rs n M N (xs (i + 1)) hn hR with ⟨x, y, f1, f2, f3, f4, f5⟩ | ⟨y, f1, f2, f3, f5⟩
  · refine q_ok hn.1 hI (k_staW S (l_Law_hop (l := l) (h0 := s.heap.size) (D := D) (n := n) (ad := cad s.heap.size n) (G := G) (M := M) (o := oad s.heap.size n) (v := v) f1) gs_121 hd_Law_hop ⟨rfl, rfl⟩ ⟨Nat.le_of_ble_eq_true rfl, Nat.le_of_ble_eq_true rfl⟩ oB_blind (LI_c hn.1 hK hZ hI) rfl hl.1 rfl (Nat.le_of_ble_eq_true rfl) d_law_947 (Nat.le_of_succ_le hc) (Nat.le_trans (Nat.le_add_right _ _) hs)) (fun H locs hI => ?_)
    refine lv_istore (lv' := [(5, .int 0), (4, .int (nI i)), (0, .ref b), (1, .ref (cad s.heap.size n 0)), (2, .ref (tad s.heap.size n 0)), (3, .ref (oad s.heap.size n))]) hx hb d_law_950 hl (by decide) rfl (fun ls hl => ?_)
    refine lv_aload_n hx hb d_law_952 rfl (lv_at hl 4 rfl) ?_
    refine sc_arg (k := 1) (q0 := 2) (q4 := 1) (j := 959) hx hb hX hbl hI.2.2.2 hl rfl rfl (by omega) hL rfl d_law_953 d_law_954 d_law_956 rfl d_law_957 d_law_958 ?_
    refine q_md hn.1 hI (k_vir S (c_Model_hop (l := l) (D := D) (ad := tad s.heap.size n) (G := G) f2) gv_123 hd_Model_hop ⟨rfl, rfl⟩ ⟨Nat.le_of_ble_eq_true rfl, Nat.le_of_ble_eq_true rfl⟩ wl_blind (va_recv hK hI.2.1 rfl (wl_to (by decide) (MO_at))) (LI_t hK hI) rfl hl.1 rfl (Nat.le_of_ble_eq_true rfl) d_law_959 (Nat.le_of_succ_le hc) (Nat.le_trans (Nat.le_add_right _ _) hs)) (fun H locs hI => ?_)
    refine lv_istore (lv' := [(6, .int y.1), (5, .int 0), (4, .int (nI i)), (0, .ref b), (1, .ref (cad s.heap.size n 0)), (2, .ref (tad s.heap.size n 0)), (3, .ref (oad s.heap.size n))]) hx hb d_law_962 hl (by decide) rfl (fun ls hl => ?_)
    refine lv_aload_n hx hb d_law_964 rfl (lv_at hl 5 rfl) ?_
    refine k_rdi (k_vir S (c_Model_thrown (l := l) (D := D) (ad := tad s.heap.size n) (G := G) (M := y.2) (x := 0) (congrArg some f3)) gv_72 hd_Model_thrown ⟨rfl, rfl⟩ ⟨Nat.le_of_ble_eq_true rfl, Nat.le_of_ble_eq_true rfl⟩ wl_blind (va_recv hK hI.2.1 rfl (wl_to (by decide) (MO_at))) (LI_t hK hI) rfl hl.1 rfl (Nat.le_of_ble_eq_true rfl) d_law_965 (Nat.le_of_succ_le hc) (Nat.le_trans (Nat.le_add_right _ _) hs)) ?_
    refine lv_iload hx hb d_law_968 (lv_at hl 1 rfl) ?_
    refine lv_icmp_eq (tgt := 975) hx hb d_law_970 (by decide) (fun _ => ?_) (fun h9 => absurd rfl h9)
    refine lv_iload hx hb d_law_975 (lv_at hl 1 rfl) ?_
    refine lv_if_ne (tgt := 992) hx hb d_law_977 (by decide) (fun h9 => absurd rfl h9) (fun _ => ?_)
    refine lv_aload_n hx hb d_law_980 rfl (lv_at hl 6 rfl) ?_
    refine lv_iconst (v := 0) hx hb d_law_981 (by decide) ?_
    refine va_lald (D := D) hx hb hK hI.2.2.1 0 4 rfl rfl (nI_in (c := 0) (by decide) (by decide)) d_law_982 ?_
    rw [uL_0, f4]
    refine lv_iload hx hb d_law_983 (lv_at hl 0 rfl) ?_
    refine lv_i2l (v := y.1.toInt64) hx hb d_law_985 rfl ?_
    refine W.lcmp hx hb d_law_986 ?_
    rw [lg_same]
    refine lv_if_eq (tgt := 992) hx hb d_law_987 (by decide) (fun _ => ?_) (fun h9 => absurd rfl h9)
    refine lv_goto (tgt := 1051) hx hb d_law_992 (by decide) ?_
    exact W.widen (k := cells + 1) (n := slots + 6) (Nat.le_succ _) (Nat.le_add_right _ _) (kk _ _ _ _ _ _ f5 hI (lv_sub hl [2, 3, 4, 5, 6] rfl))
  · refine q_no hI (k_staW S (n_Law_hop (l := l) hl0 (h0 := s.heap.size) (D := D) (n := n) (ad := cad s.heap.size n) (G := G) (M := M) (o := oad s.heap.size n) (v := v) f1) gs_121 hd_Law_hop ⟨rfl, rfl⟩ ⟨Nat.le_of_ble_eq_true rfl, Nat.le_of_ble_eq_true rfl⟩ oB_blind (LI_c hn.1 hK hZ hI) rfl hl.1 rfl (Nat.le_of_ble_eq_true rfl) d_law_947 hc hs) (fun H locs hI => ?_)
    refine lv_istore (lv' := [(5, .int 1), (4, .int (nI i)), (0, .ref b), (1, .ref (cad s.heap.size n 0)), (2, .ref (tad s.heap.size n 0)), (3, .ref (oad s.heap.size n))]) hx hb d_law_950 hl (by decide) rfl (fun ls hl => ?_)
    refine lv_aload_n hx hb d_law_952 rfl (lv_at hl 4 rfl) ?_
    refine sc_arg (k := 1) (q0 := 2) (q4 := 1) (j := 959) hx hb hX hbl hI.2.2.2 hl rfl rfl (by omega) hL rfl d_law_953 d_law_954 d_law_956 rfl d_law_957 d_law_958 ?_
    refine q_md hn.1 hI (k_vir S (c_Model_hop (l := l) (D := D) (ad := tad s.heap.size n) (G := G) f2) gv_123 hd_Model_hop ⟨rfl, rfl⟩ ⟨Nat.le_of_ble_eq_true rfl, Nat.le_of_ble_eq_true rfl⟩ wl_blind (va_recv hK hI.2.1 rfl (wl_to (by decide) (MO_at))) (LI_t hK hI) rfl hl.1 rfl (Nat.le_of_ble_eq_true rfl) d_law_959 hc hs) (fun H locs hI => ?_)
    refine lv_istore (lv' := [(6, .int y.1), (5, .int 1), (4, .int (nI i)), (0, .ref b), (1, .ref (cad s.heap.size n 0)), (2, .ref (tad s.heap.size n 0)), (3, .ref (oad s.heap.size n))]) hx hb d_law_962 hl (by decide) rfl (fun ls hl => ?_)
    refine lv_aload_n hx hb d_law_964 rfl (lv_at hl 5 rfl) ?_
    refine k_rdi (k_vir S (c_Model_thrown (l := l) (D := D) (ad := tad s.heap.size n) (G := G) (M := y.2) (x := 1) (congrArg some f3)) gv_72 hd_Model_thrown ⟨rfl, rfl⟩ ⟨Nat.le_of_ble_eq_true rfl, Nat.le_of_ble_eq_true rfl⟩ wl_blind (va_recv hK hI.2.1 rfl (wl_to (by decide) (MO_at))) (LI_t hK hI) rfl hl.1 rfl (Nat.le_of_ble_eq_true rfl) d_law_965 hc hs) ?_
    refine lv_iload hx hb d_law_968 (lv_at hl 1 rfl) ?_
    refine lv_icmp_eq (tgt := 975) hx hb d_law_970 (by decide) (fun _ => ?_) (fun h9 => absurd rfl h9)
    refine lv_iload hx hb d_law_975 (lv_at hl 1 rfl) ?_
    refine lv_if_ne (tgt := 992) hx hb d_law_977 (by decide) (fun _ => ?_) (fun h9 => absurd h9 (by decide))
    refine lv_goto (tgt := 1051) hx hb d_law_992 (by decide) ?_
    exact kk _ _ _ _ _ _ f5 hI (lv_sub hl [2, 3, 4, 5, 6] rfl)

set_option maxHeartbeats 4000000 in
set_option maxRecDepth 100000 in
theorem law_entry (hl0 : l.stackTraces = false) (S : CallFix p m c code 7 s #[Value.ref b] WS R_law) (hK : va_K D cls (tyL G) s) (hZ : tz s.heap.size s) (hX : va_X b L xs s s.heap) (hbl : b < s.heap.size) (hn : 2 ≤ n ∧ n ≤ 6) (hL : L ≤ 2561) (hi : i + 4 < L) (Rs : Sim_entry R) (hR : R n M N) (hI : LI D G n s.heap.size M N v s.heap H locs) (hl : lv_has ls 7 [(4, .int (nI i)), (0, .ref b), (1, .ref (cad s.heap.size n 0)), (2, .ref (tad s.heap.size n 0)), (3, .ref (oad s.heap.size n))]) (hc : cells + 1 ≤ 601024) (hs : slots + 6 ≤ 7293000)
    (kk : ∀ (M N : Mem) (v : Nat → Int64) (H : Heap) (locs : List Loc) (ls : Array Slot), R n M N → LI D G n s.heap.size M N v s.heap H locs → lv_has ls 7 [(4, .int (nI i)), (0, .ref b), (1, .ref (cad s.heap.size n 0)), (2, .ref (tad s.heap.size n 0)), (3, .ref (oad s.heap.size n))] → W p l e room_1 s m #[Value.ref b] below meth c H locs (cells + 1) (slots + 6) Q (F0 m 1051 ls [])) : W p l e room_1 s m #[Value.ref b] below meth c H locs cells slots Q (F0 m 995 ls []) := by
  obtain ⟨hx, hb, hml, hown, hts⟩ := id S
  refine lv_aload_n hx hb d_law_995 rfl (lv_at hl 2 rfl) ?_
  refine sc_arg (k := 1) (q0 := 1) (q4 := 0) (j := 1002) hx hb hX hbl hI.2.2.2 hl rfl rfl (by omega) hL rfl d_law_996 d_law_997 d_law_999 rfl d_law_1000 d_law_1001 ?_
  refine lv_aload_n hx hb d_law_1002 rfl (lv_at hl 4 rfl) ?_
  rcases Rs n M N (xs (i + 1)) hn hR with ⟨x, y, f1, f2, f3, f4, f5⟩ | ⟨y, f1, f2, f3, f5⟩
  · refine q_ok hn.1 hI (k_staW S (l_Law_entry (l := l) (h0 := s.heap.size) (D := D) (n := n) (ad := cad s.heap.size n) (G := G) (M := M) (o := oad s.heap.size n) (v := v) f1) gs_124 hd_Law_entry ⟨rfl, rfl⟩ ⟨Nat.le_of_ble_eq_true rfl, Nat.le_of_ble_eq_true rfl⟩ oB_blind (LI_c hn.1 hK hZ hI) rfl hl.1 rfl (Nat.le_of_ble_eq_true rfl) d_law_1003 (Nat.le_of_succ_le hc) (Nat.le_trans (Nat.le_add_right _ _) hs)) (fun H locs hI => ?_)
    refine lv_istore (lv' := [(5, .int 0), (4, .int (nI i)), (0, .ref b), (1, .ref (cad s.heap.size n 0)), (2, .ref (tad s.heap.size n 0)), (3, .ref (oad s.heap.size n))]) hx hb d_law_1006 hl (by decide) rfl (fun ls hl => ?_)
    refine lv_aload_n hx hb d_law_1008 rfl (lv_at hl 4 rfl) ?_
    refine sc_arg (k := 1) (q0 := 2) (q4 := 1) (j := 1015) hx hb hX hbl hI.2.2.2 hl rfl rfl (by omega) hL rfl d_law_1009 d_law_1010 d_law_1012 rfl d_law_1013 d_law_1014 ?_
    refine q_md hn.1 hI (k_vir S (c_Model_entry (l := l) (D := D) (ad := tad s.heap.size n) (G := G) f2) gv_126 hd_Model_entry ⟨rfl, rfl⟩ ⟨Nat.le_of_ble_eq_true rfl, Nat.le_of_ble_eq_true rfl⟩ wl_blind (va_recv hK hI.2.1 rfl (wl_to (by decide) (MO_at))) (LI_t hK hI) rfl hl.1 rfl (Nat.le_of_ble_eq_true rfl) d_law_1015 (Nat.le_of_succ_le hc) (Nat.le_trans (Nat.le_add_right _ _) hs)) (fun H locs hI => ?_)
    refine lv_istore (lv' := [(6, .int y.1), (5, .int 0), (4, .int (nI i)), (0, .ref b), (1, .ref (cad s.heap.size n 0)), (2, .ref (tad s.heap.size n 0)), (3, .ref (oad s.heap.size n))]) hx hb d_law_1018 hl (by decide) rfl (fun ls hl => ?_)
    refine lv_aload_n hx hb d_law_1020 rfl (lv_at hl 5 rfl) ?_
    refine k_rdi (k_vir S (c_Model_thrown (l := l) (D := D) (ad := tad s.heap.size n) (G := G) (M := y.2) (x := 0) (congrArg some f3)) gv_72 hd_Model_thrown ⟨rfl, rfl⟩ ⟨Nat.le_of_ble_eq_true rfl, Nat.le_of_ble_eq_true rfl⟩ wl_blind (va_recv hK hI.2.1 rfl (wl_to (by decide) (MO_at))) (LI_t hK hI) rfl hl.1 rfl (Nat.le_of_ble_eq_true rfl) d_law_1021 (Nat.le_of_succ_le hc) (Nat.le_trans (Nat.le_add_right _ _) hs)) ?_
    refine lv_iload hx hb d_law_1024 (lv_at hl 1 rfl) ?_
    refine lv_icmp_eq (tgt := 1031) hx hb d_law_1026 (by decide) (fun _ => ?_) (fun h9 => absurd rfl h9)
    refine lv_iload hx hb d_law_1031 (lv_at hl 1 rfl) ?_
    refine lv_if_ne (tgt := 1048) hx hb d_law_1033 (by decide) (fun h9 => absurd rfl h9) (fun _ => ?_)
    refine lv_aload_n hx hb d_law_1036 rfl (lv_at hl 6 rfl) ?_
    refine lv_iconst (v := 0) hx hb d_law_1037 (by decide) ?_
    refine va_lald (D := D) hx hb hK hI.2.2.1 0 4 rfl rfl (nI_in (c := 0) (by decide) (by decide)) d_law_1038 ?_
    rw [uL_0, f4]
    refine lv_iload hx hb d_law_1039 (lv_at hl 0 rfl) ?_
    refine lv_i2l (v := y.1.toInt64) hx hb d_law_1041 rfl ?_
    refine W.lcmp hx hb d_law_1042 ?_
    rw [lg_same]
    refine lv_if_eq (tgt := 1048) hx hb d_law_1043 (by decide) (fun _ => ?_) (fun h9 => absurd rfl h9)
    refine lv_goto (tgt := 1051) hx hb d_law_1048 (by decide) ?_
    exact W.widen (k := cells + 1) (n := slots + 6) (Nat.le_succ _) (Nat.le_add_right _ _) (kk _ _ _ _ _ _ f5 hI (lv_sub hl [2, 3, 4, 5, 6] rfl))
  · refine q_no hI (k_staW S (n_Law_entry (l := l) hl0 (h0 := s.heap.size) (D := D) (n := n) (ad := cad s.heap.size n) (G := G) (M := M) (o := oad s.heap.size n) (v := v) f1) gs_124 hd_Law_entry ⟨rfl, rfl⟩ ⟨Nat.le_of_ble_eq_true rfl, Nat.le_of_ble_eq_true rfl⟩ oB_blind (LI_c hn.1 hK hZ hI) rfl hl.1 rfl (Nat.le_of_ble_eq_true rfl) d_law_1003 hc hs) (fun H locs hI => ?_)
    refine lv_istore (lv' := [(5, .int 1), (4, .int (nI i)), (0, .ref b), (1, .ref (cad s.heap.size n 0)), (2, .ref (tad s.heap.size n 0)), (3, .ref (oad s.heap.size n))]) hx hb d_law_1006 hl (by decide) rfl (fun ls hl => ?_)
    refine lv_aload_n hx hb d_law_1008 rfl (lv_at hl 4 rfl) ?_
    refine sc_arg (k := 1) (q0 := 2) (q4 := 1) (j := 1015) hx hb hX hbl hI.2.2.2 hl rfl rfl (by omega) hL rfl d_law_1009 d_law_1010 d_law_1012 rfl d_law_1013 d_law_1014 ?_
    refine q_md hn.1 hI (k_vir S (c_Model_entry (l := l) (D := D) (ad := tad s.heap.size n) (G := G) f2) gv_126 hd_Model_entry ⟨rfl, rfl⟩ ⟨Nat.le_of_ble_eq_true rfl, Nat.le_of_ble_eq_true rfl⟩ wl_blind (va_recv hK hI.2.1 rfl (wl_to (by decide) (MO_at))) (LI_t hK hI) rfl hl.1 rfl (Nat.le_of_ble_eq_true rfl) d_law_1015 hc hs) (fun H locs hI => ?_)
    refine lv_istore (lv' := [(6, .int y.1), (5, .int 1), (4, .int (nI i)), (0, .ref b), (1, .ref (cad s.heap.size n 0)), (2, .ref (tad s.heap.size n 0)), (3, .ref (oad s.heap.size n))]) hx hb d_law_1018 hl (by decide) rfl (fun ls hl => ?_)
    refine lv_aload_n hx hb d_law_1020 rfl (lv_at hl 5 rfl) ?_
    refine k_rdi (k_vir S (c_Model_thrown (l := l) (D := D) (ad := tad s.heap.size n) (G := G) (M := y.2) (x := 1) (congrArg some f3)) gv_72 hd_Model_thrown ⟨rfl, rfl⟩ ⟨Nat.le_of_ble_eq_true rfl, Nat.le_of_ble_eq_true rfl⟩ wl_blind (va_recv hK hI.2.1 rfl (wl_to (by decide) (MO_at))) (LI_t hK hI) rfl hl.1 rfl (Nat.le_of_ble_eq_true rfl) d_law_1021 hc hs) ?_
    refine lv_iload hx hb d_law_1024 (lv_at hl 1 rfl) ?_
    refine lv_icmp_eq (tgt := 1031) hx hb d_law_1026 (by decide) (fun _ => ?_) (fun h9 => absurd rfl h9)
    refine lv_iload hx hb d_law_1031 (lv_at hl 1 rfl) ?_
    refine lv_if_ne (tgt := 1048) hx hb d_law_1033 (by decide) (fun _ => ?_) (fun h9 => absurd h9 (by decide))
    refine lv_goto (tgt := 1051) hx hb d_law_1048 (by decide) ?_
    exact kk _ _ _ _ _ _ f5 hI (lv_sub hl [2, 3, 4, 5, 6] rfl)

end LC
