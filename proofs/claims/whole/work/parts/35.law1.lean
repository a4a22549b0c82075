/-! the law's walk: its end, its entry, and rows for its calls -/
def R_law : String := "LabelRoadsLaw"
def lw_P (b : Addr) (xs : List Int32) (args : Array Value) (s : State) : Prop := args = #[.ref b] ∧ s.IntsAt b xs ∧ xs.length ≤ 2561 ∧ (Jvm.Cond.and given_1 narrow_1).before args s = true
def lw_Q (_ : Array Value) (s : State) (o : Outcome) (t : State) : Prop := o = .returned (some (.int 1)) ∧ Framed s o t [] 601024 7293000
def lw_Z (below : List Frame) (a : Array Value) (s : State) : State → Prop := fun t => ∃ o, t.status = .running ∧ Ended t below o ∧ lw_Q a s o t
theorem lw_ret {p : Program} {l : Launch} {e : Env} {s : State} {m : MethodId} {below : List Frame} {meth : Method} {c : Code} {b : Nat} (hx : p.tables.exec = Jvm.exec) (hb : c.code = code) (hr : meth.sig.returnType = ret) (hlocks : meth.locks = false) {pc : Nat} {H : Heap} {ls : Array Slot} (hdg : decode code pc = .ok (.ireturn, 1)) : W p l e room_1 s m #[Value.ref b] below meth c H [] 601024 7293000 (lw_Z below #[Value.ref b] s) (F0 m pc ls [.int 1]) := by
  intro T hT X
  obtain ⟨fs, hret, hrun, hended, hW, hframe⟩ := X.leave (v := some (.int 1)) (hlocks := hlocks) (fun h => by rw [hr] at h; cases h)
  have hmeth' : T.vm.method? m = some meth := X.method'
  refine ⟨T.setFrames fs, ?_, .returned (some (.int 1)), hrun, hended, rfl, ⟨_, rfl⟩, hW, hframe⟩
  jvm_step X.here [X.here.top, hx, hb, hdg, hmeth', hr, ret, narrow_b1]
  (try refine ⟨rfl, ?_⟩); (try refine ⟨rfl, ?_⟩)
  first | (intro acts; rw [hret _ acts rfl rfl rfl]) | rw [hret _ _ rfl rfl rfl]
  exact Steps.refl _
def lw_At (p : Program) (s : State) (m : MethodId) (meth : Method) (c : Code) (b L : Nat) (xs : Nat → Int32) : Prop :=
  p.tables.exec = Jvm.exec ∧ c.code = code ∧ meth.sig.returnType = ret ∧ c.maxLocals = 7 ∧ s.vm.findClass R_law = some m.cls ∧ (∀ w ∈ lw_tbl, w.before #[Value.ref b] s = true) ∧ va_X b L xs s s.heap ∧ b < s.heap.size ∧ meth.locks = false ∧ (Jvm.Cond.and given_1 narrow_1).before #[Value.ref b] s = true
def tad (h n k : Nat) : Nat := h + (16 + 11 * n) + k
def oad (h n : Nat) : Nat := h + (16 + 11 * n) + 15
theorem tad_ok {h n : Nat} : wl_ok (fun q => h ≤ q) 15 (tad h n) := ⟨fun _ _ _ _ e => Nat.add_left_cancel e, fun k _ => by show h ≤ h + (16 + 11 * n) + k; omega⟩
theorem cad_ne {h n k j : Nat} (hn : 2 ≤ n) (hk : k < cK n) (h2 : h + (16 + 11 * n) ≤ j) : cad h n k ≠ j := fun e => by
  have := ((cad_ok (h := h) hn).2 k hk).2
  omega
/-- the heap in the law's loop: the object, its twin, the cell for answers; nothing older is written -/
def LI (D : va_G) (G : Nat → ClassId) (n h : Nat) (M N : Mem) (v : Nat → Int64) (H0 H : Heap) (locs : List Loc) : Prop :=
  va_P D cls (cW n (cad h n) G M) H ∧ va_P D cls (tW (tad h n) G N) H ∧ va_P D cls [(oad h n, .inl (G 4, 1, .inr (.inl v)))] H ∧ va_S (fun q => h ≤ q) H0 H locs
section LW
variable {p : Program} {l : Launch} {e : Env} {R : Room} {s : State} {m : MethodId} {args : Array Value} {below : List Frame} {meth : Method} {c : Code} {H : Heap} {locs : List Loc} {cells slots : Nat} {Q : State → Prop}
variable {cc : ByteArray} {pc : Nat} {ls : Array Slot} {rest st0 : List Value} {D : va_G} {G : Nat → ClassId} {n h : Nat} {M N M' N' : Mem} {v v' : Nat → Int64} {H0 : Heap} {a : Array Value}
theorem LI_c (hn : 2 ≤ n) (hK : va_K D cls (tyL G) s) (hZ : tz s.heap.size s) (hL : LI D G n s.heap.size M N v s.heap H locs) (U : State) (hU : U.heap = H) (hW : s.WarmedH U.vm) : oB s.heap.size D n (cad s.heap.size n) G M (oad s.heap.size n) v U :=
  ⟨⟨wl_pre hL.1 hK (cad_ok hn) U hU hW, tz_move hZ hW (fun q hq => by rw [hU]; exact hL.2.2.2.2.1 q hq (Nat.not_le.mpr hq))⟩, by rw [hU]; exact hL.2.2.1, fun k hk => cad_ne hn hk (by unfold oad; omega)⟩
theorem LI_k (hn : 2 ≤ n) (hK : va_K D cls (tyL G) s) (hL : LI D G n h M N v H0 H locs) (U : State) (hU : U.heap = H) (hW : s.WarmedH U.vm) : cB D n (cad h n) G M U := wl_pre hL.1 hK (cad_ok hn) U hU hW
theorem LI_t (hK : va_K D cls (tyL G) s) (hL : LI D G n h M N v H0 H locs) (U : State) (hU : U.heap = H) (hW : s.WarmedH U.vm) : tB D (tad h n) G N U := wl_pre hL.2.1 hK tad_ok U hU hW
/-- behind a helper whose call answered -/
theorem q_ok (hn : 2 ≤ n) (hL : LI D G n h M N v H0 H locs) (hr : va_Run p l e R s m args below meth c H locs cells slots 0 0 (F0 m pc ls st0) rest (okQ D n (cad h n) G M' (oad h n) v' a) (oA n (cad h n) (oad h n)))
    (kk : ∀ (H1 : Heap) (locs1 : List Loc), LI D G n h M' N v' H0 H1 locs1 → W p l e R s m args below meth c H1 locs1 cells slots Q (F0 m (pc + 3) ls (.int 0 :: rest))) : W p l e R s m args below meth c H locs cells slots Q (F0 m pc ls st0) := by
  intro T hT X
  obtain ⟨v9, st₀, t, T', L, h0, X', hLl, e1, e2, ⟨hv, hp1, hp2, hz, hk⟩, st⟩ := hr T hT X
  cases hv
  rw [h0] at hz hk
  obtain ⟨hC, hT9, hO, hS⟩ := hL
  have hA : ∀ q, oA n (cad h n) (oad h n) q → h ≤ q := fun q hq => by
    rcases hq with ⟨k, hk, rfl⟩ | rfl
    · exact ((cad_ok hn).2 k hk).1
    · unfold oad; omega
  have hT8 : va_P D cls (tW (tad h n) G N) t.heap := hT9.kept (fun k q hq => by
    have hlt := (hT9 k q hq).lt
    obtain ⟨hk9, rfl⟩ := wl_get hq
    refine hk _ hlt fun hq => ?_
    rcases hq with ⟨j, hj, e⟩ | e
    · exact cad_ne hn hj (by show h + (16 + 11 * n) ≤ h + (16 + 11 * n) + k; omega) e
    · have e : h + (16 + 11 * n) + k = h + (16 + 11 * n) + 15 := e
      omega)
  obtain ⟨t2, a1, b1⟩ := kk T'.heap (locs ++ L) ⟨by rw [e1]; exact hp1, by rw [e1]; exact hT8, by rw [e1]; exact hp2,
    ⟨Nat.le_trans hS.1 (by rw [e1]; exact hz), fun q h1 h2 => by rw [e1, hk q (Nat.lt_of_lt_of_le h1 hS.1) (fun z => h2 (hA q z))]; exact hS.2.1 q h1 h2, fun q hq => by
      rcases List.mem_append.mp hq with h9 | h9
      · exact hS.2.2 q h9
      · exact hA _ (hLl q h9)⟩⟩ T' rfl X'
  exact ⟨t2, st t2 a1, b1⟩
/-- behind a helper whose call threw -/
theorem q_no (hL : LI D G n h M N v H0 H locs) (hr : va_Run p l e R s m args below meth c H locs cells slots 1 6 (F0 m pc ls st0) rest (noQ a) (fun _ => False))
    (kk : ∀ (H1 : Heap) (locs1 : List Loc), LI D G n h M N v H0 H1 locs1 → W p l e R s m args below meth c H1 locs1 (cells + 1) (slots + 6) Q (F0 m (pc + 3) ls (.int 1 :: rest))) : W p l e R s m args below meth c H locs cells slots Q (F0 m pc ls st0) := by
  intro T hT X
  obtain ⟨v9, st₀, t, T', L, h0, X', hLl, e1, e2, ⟨hv, hz, hk⟩, st⟩ := hr T hT X
  cases hv
  rw [h0] at hz hk
  obtain ⟨hC, hT9, hO, hS⟩ := hL
  obtain ⟨t2, a1, b1⟩ := kk T'.heap (locs ++ L) ⟨by rw [e1]; exact hC.kept (fun k q hq => hk _ (hC k q hq).lt), by rw [e1]; exact hT9.kept (fun k q hq => hk _ (hT9 k q hq).lt), by rw [e1]; exact hO.kept (fun k q hq => hk _ (hO k q hq).lt),
    ⟨Nat.le_trans hS.1 (by rw [e1]; exact hz), fun q h1 h2 => by rw [e1, hk q (Nat.lt_of_lt_of_le h1 hS.1)]; exact hS.2.1 q h1 h2, fun q hq => by
      rcases List.mem_append.mp hq with h9 | h9
      · exact hS.2.2 q h9
      · exact (hLl q h9).elim⟩⟩ T' rfl X'
  exact ⟨t2, st t2 a1, b1⟩
/-- behind a call of the twin -/
theorem q_md {y : Int32} (hn : 2 ≤ n) (hL : LI D G n h M N v H0 H locs) (hr : va_Run p l e R s m args below meth c H locs cells slots 0 0 (F0 m pc ls st0) rest (wr_Q (some (.int y)) D cls 15 (tad h n) (tE (tad h n) G N') a) (wl_A 15 (tad h n)))
    (kk : ∀ (H1 : Heap) (locs1 : List Loc), LI D G n h M N' v H0 H1 locs1 → W p l e R s m args below meth c H1 locs1 cells slots Q (F0 m (pc + 3) ls (.int y :: rest))) : W p l e R s m args below meth c H locs cells slots Q (F0 m pc ls st0) := by
  obtain ⟨hC, hT9, hO, hS⟩ := hL
  refine k_wri hr hS (fun q ⟨k, hk, e⟩ => e ▸ tad_ok.2 k hk) (fun H1 locs1 hP1 hz hk hS1 => kk H1 locs1 ⟨hC.kept (fun k q hq => ?_), hP1, hO.kept (fun k q hq => ?_), hS1⟩)
  · have hlt := (hC k q hq).lt
    obtain ⟨hk9, rfl⟩ := wl_get hq
    refine hk _ hlt fun ⟨j, hj, e⟩ => ?_
    exact cad_ne hn hk9 (by show h + (16 + 11 * n) ≤ h + (16 + 11 * n) + j; omega) e.symm
  · have hlt := (hO k q hq).lt
    obtain rfl := o_one hq
    refine hk _ hlt fun ⟨j, hj, e⟩ => ?_
    have e : h + (16 + 11 * n) + j = h + (16 + 11 * n) + 15 := e
    omega
/-- a number of the script, by the loop's counter -/
theorem sc_arg {b L i k q0 q4 j : Nat} {xs : Nat → Int32} {lv : List (Nat × Value)} (hx : p.tables.exec = Jvm.exec) (hb : c.code = cc) (hX : va_X b L xs s s.heap) (hbl : b < s.heap.size) (hS : va_S (fun q => s.heap.size ≤ q) s.heap H locs) (hl : lv_has ls 7 lv) (h4 : lv[q4]? = some (4, .int (nI i))) (h0 : lv[q0]? = some (0, .ref b)) (hi : i + k < L) (hL : L ≤ 2561) (hj : pc + 6 = j) {kI : Int}
    (d0 : decode cc pc = .ok (.aload_n 0, 1)) (d1 : decode cc (pc + 1) = .ok (.iload 4, 2)) (d3 : decode cc (pc + 3) = .ok (.iconst kI, 1)) (hk : Int32.ofInt kI = nI k) (d4 : decode cc (pc + 4) = .ok (.iadd, 1)) (d5 : decode cc (pc + 5) = .ok (.iaload, 1))
    (kk : W p l e R s m args below meth c H locs cells slots Q (F0 m j ls (.int (xs (i + k)) :: rest))) : W p l e R s m args below meth c H locs cells slots Q (F0 m pc ls rest) := by
  subst hj
  refine lv_aload_n hx hb d0 rfl (lv_at hl q0 h0) ?_
  refine lv_iload hx hb d1 (lv_at hl q4 h4) ?_
  refine lv_iconst (v := nI k) hx hb d3 hk ?_
  refine lv_iadd hx hb d4 ?_
  rw [nI_add]
  refine va_sld hx hb hX hbl (Nat.not_le.mpr hbl) hS (nI_in hi (by omega)) d5 ?_
  rw [nI_clamp (by omega)]
  exact kk
end LW
