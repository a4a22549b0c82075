/-! the words of the tables that outlive every step; calls of methods that have contracts over them -/
def WS : List Cond := lw_tbl.filter goodWord
theorem ws_of {w : Cond} (h : w ∈ lw_tbl) (hg : goodWord w = true) : w ∈ WS := List.mem_filter.mpr ⟨h, hg⟩
theorem ws_t {w : Cond} (i : Nat) (h : tables_1[i]? = some w) (hg : goodWord w = true) : w ∈ WS := ws_of (List.mem_append_right _ (List.mem_of_getElem? h)) hg
theorem ws_p {q : MethodName × Nat} (i : Nat) (h : lw_privs[i]? = some q) : Cond.selects q.1.cls q.1 q.1 ∈ WS :=
  ws_of (List.mem_append_left _ (List.mem_map.mpr ⟨q, List.mem_of_getElem? h, rfl⟩)) rfl
theorem ws_good {ws : List Cond} (h : ∀ w ∈ ws, w ∈ WS) : GoodIn WS ws := fun w hw => ⟨h w hw, good_of_word (List.mem_filter.mp (h w hw)).2⟩
abbrev wc (y : MethodName) (b : ByteArray) (n : Nat) (r : Option FieldType) : List Cond := Cond.code y b n r :: WS
theorem wc_in {y : MethodName} {b : ByteArray} {n : Nat} {r : Option FieldType} (h : Cond.code y b n r ∈ WS) : ∀ w ∈ wc y b n r, w ∈ WS := by
  intro w hw
  rcases List.mem_cons.mp hw with rfl | hw
  · exact h
  · exact hw
theorem wv_good {own C : String} {idx : Nat} {y : MethodName} {b : ByteArray} {n : Nat} {r : Option FieldType} (h1 : Cond.methodLink own idx y ∈ WS) (h2 : Cond.instanceMethod y ∈ WS) (h3 : Cond.selects C y y ∈ WS) (h4 : Cond.initialized C ∈ WS) (h5 : Cond.code y b n r ∈ WS) : GoodIn WS (wsV own idx C y (wc y b n r)) := by
  refine ws_good fun w hw => ?_
  rcases List.mem_append.mp hw with hw | hw
  · simp only [List.mem_cons, List.not_mem_nil, or_false] at hw
    rcases hw with rfl | rfl | rfl | rfl <;> assumption
  · exact wc_in h5 w hw
theorem wt_good {own : String} {idx : Nat} {y : MethodName} {b : ByteArray} {n : Nat} {r : Option FieldType} (h1 : Cond.methodLink own idx y ∈ WS) (h2 : Cond.static y ∈ WS) (h4 : Cond.initialized y.cls ∈ WS) (h5 : Cond.code y b n r ∈ WS) : GoodIn WS (va_wsS own idx y (wc y b n r)) := by
  refine ws_good fun w hw => ?_
  rcases List.mem_append.mp hw with hw | hw
  · simp only [List.mem_cons, List.not_mem_nil, or_false] at hw
    rcases hw with rfl | rfl | rfl <;> assumption
  · exact wc_in h5 w hw
theorem ob {α β : Type} {o : Option α} {f : α → Option β} {b : β} (h : o.bind f = some b) : ∃ a, o = some a ∧ f a = some b := by
  cases o with
  | none => cases h
  | some a => exact ⟨a, rfl, h⟩
theorem zb {v : Int32} (h : v = 0 ∨ v = 1) : narrow .boolean (.int v) = .int v := by
  rcases h with rfl | rfl <;> decide +kernel
section KC
variable {p : Program} {l : Launch} {e : Env} {R : Room} {s : State} {m : MethodId} {args : Array Value} {below : List Frame} {meth : Method} {c : Code} {H : Heap} {locs : List Loc} {cells slots : Nat} {Q : State → Prop}
variable {cc : ByteArray} {pc : Nat} {ls : Array Slot} {rest st0 : List Value} {D : va_G} {cl : List vw_C} {A : Nat → Prop} {tys : List (ClassId × FieldType)} {H0 : Heap} {K : Nat} {ad : Nat → Nat} {en : Nat → va_E} {a : Array Value}
variable {y : MethodName} {bytes : ByteArray} {maxL n index nL : Nat} {ret : Option FieldType} {rm : Room} {B : State → Prop} {Qc : Array Value → State → Outcome → State → Prop} {free : Addr → Prop} {own C : String} {b : Nat} {As : List Value}
theorem k_rdi {v : Int32} (hr : va_Run p l e R s m args below meth c H locs cells slots 0 0 (F0 m pc ls st0) rest (rd_Q (some (.int v)) a) (fun _ => False)) (kk : W p l e R s m args below meth c H locs cells slots Q (F0 m (pc + 3) ls (.int v :: rest))) : W p l e R s m args below meth c H locs cells slots Q (F0 m pc ls st0) := k_rd hr kk
theorem k_rdv (hr : va_Run p l e R s m args below meth c H locs cells slots 0 0 (F0 m pc ls st0) rest (rd_Q none a) (fun _ => False)) (kk : W p l e R s m args below meth c H locs cells slots Q (F0 m (pc + 3) ls rest)) : W p l e R s m args below meth c H locs cells slots Q (F0 m pc ls st0) := k_rd hr kk
theorem k_wri {v : Int32} (hr : va_Run p l e R s m args below meth c H locs cells slots 0 0 (F0 m pc ls st0) rest (wr_Q (some (.int v)) D cl K ad en a) (wl_A K ad)) (hS : va_S A H0 H locs) (hA : ∀ q, wl_A K ad q → A q)
    (kk : ∀ (H1 : Heap) (locs1 : List Loc), va_P D cl (wl K ad en) H1 → H.size ≤ H1.size → (∀ q : Nat, q < H.size → ¬ wl_A K ad q → H1[q]? = H[q]?) → va_S A H0 H1 locs1 → W p l e R s m args below meth c H1 locs1 cells slots Q (F0 m (pc + 3) ls (.int v :: rest))) : W p l e R s m args below meth c H locs cells slots Q (F0 m pc ls st0) := k_wr hr hS hA kk
theorem k_wrv (hr : va_Run p l e R s m args below meth c H locs cells slots 0 0 (F0 m pc ls st0) rest (wr_Q none D cl K ad en a) (wl_A K ad)) (hS : va_S A H0 H locs) (hA : ∀ q, wl_A K ad q → A q)
    (kk : ∀ (H1 : Heap) (locs1 : List Loc), va_P D cl (wl K ad en) H1 → H.size ≤ H1.size → (∀ q : Nat, q < H.size → ¬ wl_A K ad q → H1[q]? = H[q]?) → va_S A H0 H1 locs1 → W p l e R s m args below meth c H1 locs1 cells slots Q (F0 m (pc + 3) ls rest)) : W p l e R s m args below meth c H locs cells slots Q (F0 m pc ls st0) := k_wr hr hS hA kk
theorem k_vir (S : CallFix p m c cc nL s args WS own) (hM : Met l y (wc y bytes maxL ret) rm (va_Pc (.ref b :: As) B) Qc 0 0 free) (hG : GoodIn WS (wsV own index C y (wc y bytes maxL ret)))
    (hd : y.cls = C ∧ y.cls ≠ "java/lang/invoke/MethodHandle" ∧ y.cls ≠ "java/lang/invoke/VarHandle" ∧ (parseMethodDescriptor y.desc).map (fun d => d.parameters.length) = some n) (hr0 : rm.cells = 0 ∧ rm.slots = 0) (hR : rm.frames + 1 ≤ R.frames ∧ 8 + (maxL + 11) + rm.locals ≤ R.locals)
    (hbl : FrameBlind (va_Pc (.ref b :: As) B)) (hrecv : ∃ cellB : Cell, H[b]? = some cellB ∧ cellB.vm.isStatics = false ∧ s.vm.findClass C = some cellB.cls) (hB : ∀ U : State, U.heap = H → s.WarmedH U.vm → B U)
    (hn : As.length = n) (hsz : ls.size = nL) (hst : st0 = As.reverse ++ .ref b :: rest) (hcat : (rest.map fun v => v.category).sum ≤ 8) (hdg : decode cc pc = .ok (.invokevirtual index, 3)) (hc : cells ≤ R.cells) (hs : slots ≤ R.slots) :
    va_Run p l e R s m args below meth c H locs cells slots 0 0 (F0 m pc ls st0) rest (Qc (Value.ref b :: As).toArray) free :=
  va_runV S hM (cwV n S.2.2.2.2 hG rfl hr0.1 hr0.2 hd hR) ⟨hbl, hrecv, fun U h1 h2 => ⟨rfl, hB U h1 h2⟩⟩ rfl hn hsz hst (lv_room hcat) hdg ⟨hc, hs⟩
theorem k_sta (S : CallFix p m c cc nL s args WS own) (hM : Met l y (wc y bytes maxL ret) rm (va_Pc As B) Qc 0 0 free) (hG : GoodIn WS (va_wsS own index y (wc y bytes maxL ret)))
    (hd : y.cls ≠ "java/lang/invoke/MethodHandle" ∧ y.cls ≠ "java/lang/invoke/VarHandle" ∧ (parseMethodDescriptor y.desc).map (fun d => d.parameters.length) = some n) (hr0 : rm.cells = 0 ∧ rm.slots = 0) (hR : rm.frames + 1 ≤ R.frames ∧ 8 + (maxL + 11) + rm.locals ≤ R.locals)
    (hbl : FrameBlind (va_Pc As B)) (hB : ∀ U : State, U.heap = H → s.WarmedH U.vm → B U)
    (hn : As.length = n) (hsz : ls.size = nL) (hst : st0 = As.reverse ++ rest) (hcat : (rest.map fun v => v.category).sum ≤ 8) (hdg : decode cc pc = .ok (.invokestatic index, 3)) (hc : cells ≤ R.cells) (hs : slots ≤ R.slots) :
    va_Run p l e R s m args below meth c H locs cells slots 0 0 (F0 m pc ls st0) rest (Qc As.toArray) free :=
  va_runS S hM (va_cwS n S.2.2.2.2 hG rfl hr0.1 hr0.2 hd hR) ⟨hbl, fun U h1 h2 => ⟨rfl, hB U h1 h2⟩⟩ rfl hn hsz hst (lv_room hcat) hdg ⟨hc, hs⟩
/-- a contract out of a walk -/
theorem k_met {av : List Value} {mc ms : Nat} (hy : plainName y.cls = true) (hav : (lg_sl av).length ≤ maxL)
    (body : ∀ (p : Program) (e : Env) (s : State) (m : MethodId) (args : Array Value) (below : List Frame) (meth : Method) (c : Code), CallFix p m c cc maxL s args WS y.cls → meth.sig.returnType = ret → meth.locks = false → B s → ∀ ls : Array Slot, lv_has ls maxL (lv_args 0 av) →
      W p l e rm s m args below meth c s.heap [] 0 0 (MQ below Qc args s mc ms free) (F0 m 0 ls [])) : Met l y (wc y cc maxL ret) rm (va_Pc av B) Qc mc ms free := by
  refine Met.ofW (cc := cc) (maxL := maxL) (ret := ret) hy rfl ?_
  intro p e s m args below meth c s₁ B0 hml hv
  obtain ⟨rfl, hB⟩ := hv
  have hts := atoms_spec (ws := wc y cc maxL ret) B0.pre
  have hl := lv_entry av (n := maxL) hav
  rw [lg_entry_eq]
  generalize (lg_sl av ++ List.replicate (maxL - (lg_sl av).length) Slot.unset).toArray = ls at hl ⊢
  exact body p e s m _ below meth c ⟨B0.exec, B0.bytes, hml, findClass_of_methodNamed B0.named, fun w hw => hts w (List.mem_cons_of_mem _ hw)⟩ B0.returns B0.notSynchronized hB ls hl
end KC
/-! memories: an object's ints and an array's elements, by a tag, two numbers and a place -/
abbrev Mem : Type := Nat → Nat → Nat → Nat → Int32
def ms (M : Mem) (t a b : Nat) (f : Nat → Int32) : Mem := fun t' a' b' => if t' = t ∧ a' = a ∧ b' = b then f else M t' a' b'
def mset (M : Mem) (t a b j : Nat) (x : Int32) : Mem := ms M t a b (upd (M t a b) j x)
theorem ms_same {M : Mem} {t a b : Nat} {f : Nat → Int32} : ms M t a b f t a b = f := if_pos ⟨rfl, rfl, rfl⟩
theorem ms_other {M : Mem} {t a b t' a' b' : Nat} {f : Nat → Int32} (h : ¬ (t' = t ∧ a' = a ∧ b' = b)) : ms M t a b f t' a' b' = M t' a' b' := if_neg h
def me (tg pa pb : Nat → Nat) (Rr : Nat → (Nat → Int32) → va_E) (M : Mem) (k : Nat) : va_E := Rr k (M (tg k) (pa k) (pb k))
def mj (K : Nat) (tg pa pb : Nat → Nat) : Prop := ∀ i j, i < K → j < K → tg i = tg j → pa i = pa j → pb i = pb j → i = j
theorem me_same {tg pa pb : Nat → Nat} {Rr : Nat → (Nat → Int32) → va_E} {M : Mem} {k t a b : Nat} {f : Nat → Int32} (h : tg k = t ∧ pa k = a ∧ pb k = b) : me tg pa pb Rr (ms M t a b f) k = Rr k f := by
  obtain ⟨rfl, rfl, rfl⟩ := h
  unfold me
  rw [ms_same]
theorem me_other {tg pa pb : Nat → Nat} {Rr : Nat → (Nat → Int32) → va_E} {M : Mem} {K k t a b : Nat} {f : Nat → Int32} (hJ : mj K tg pa pb) (hk : k < K) (h : tg k = t ∧ pa k = a ∧ pb k = b) : ∀ j, j < K → j ≠ k → me tg pa pb Rr (ms M t a b f) j = me tg pa pb Rr M j := by
  obtain ⟨rfl, rfl, rfl⟩ := h
  intro j hj hne
  unfold me
  rw [ms_other (fun q => hne (hJ j k hj hk q.1 q.2.1 q.2.2))]
theorem me_at {tg pa pb : Nat → Nat} {Rr : Nat → (Nat → Int32) → va_E} {M : Mem} {k t a b : Nat} {x : (Nat → Int32) → va_E} (h : tg k = t ∧ pa k = a ∧ pb k = b) (hx : ∀ f, Rr k f = x f) : me tg pa pb Rr M k = x (M t a b) := by
  obtain ⟨rfl, rfl, rfl⟩ := h
  exact hx _
section KM
variable {p : Program} {l : Launch} {e : Env} {R : Room} {s : State} {m : MethodId} {args : Array Value} {below : List Frame} {meth : Method} {c : Code} {H : Heap} {locs : List Loc} {cells slots : Nat} {Q : State → Prop}
variable {cc : ByteArray} {pc : Nat} {ls : Array Slot} {rest : List Value} {D : va_G} {cl : List vw_C} {A : Nat → Prop} {tys : List (ClassId × FieldType)} {H0 : Heap} {K : Nat} {ad : Nat → Nat} {tg pa pb : Nat → Nat} {Rr : Nat → (Nat → Int32) → va_E} {M : Mem} {t a b : Nat}
theorem m_iast {x : Int32} (hx : p.tables.exec = Jvm.exec) (hb : c.code = cc) (hK : va_K D cl tys s) (hP : va_P D cl (wl K ad (me tg pa pb Rr M)) H) (hA : wl_ok A K ad) (hS : va_S A H0 H locs) (hJ : mj K tg pa pb) (q0 t0 : Nat) (hq : q0 < K) (hT : tg q0 = t ∧ pa q0 = a ∧ pb q0 = b) {cA : ClassId} {n : Nat} (he : ∀ f, Rr q0 f = .inl (cA, n, .inl f)) (ht : tys[t0]? = some (cA, .int)) {i : Int32} {j : Nat} (hi : ix i n = some j) (hdg : decode cc pc = .ok (.iastore, 1))
    (kk : ∀ (H1 : Heap) (locs1 : List Loc), va_P D cl (wl K ad (me tg pa pb Rr (mset M t a b j x))) H1 → va_S A H0 H1 locs1 → W p l e R s m args below meth c H1 locs1 cells slots Q (F0 m (pc + 1) ls rest)) : W p l e R s m args below meth c H locs cells slots Q (F0 m pc ls (.int x :: .int i :: .ref (ad q0) :: rest)) :=
  k_iast hx hb hK hP hA hS q0 t0 hq (me_at hT he) ht hi _ ((me_same hT).trans (he _)) (me_other hJ hq hT) hdg kk
theorem m_zast {x : Int32} (hx : p.tables.exec = Jvm.exec) (hb : c.code = cc) (hK : va_K D cl tys s) (hP : va_P D cl (wl K ad (me tg pa pb Rr M)) H) (hA : wl_ok A K ad) (hS : va_S A H0 H locs) (hJ : mj K tg pa pb) (q0 t0 : Nat) (hq : q0 < K) (hT : tg q0 = t ∧ pa q0 = a ∧ pb q0 = b) {cA : ClassId} {n : Nat} (he : ∀ f, Rr q0 f = .inl (cA, n, .inl f)) (ht : tys[t0]? = some (cA, .boolean)) {i : Int32} {j : Nat} (hi : ix i n = some j) (hn : vp_nar .boolean x = x) (hdg : decode cc pc = .ok (.bastore, 1))
    (kk : ∀ (H1 : Heap) (locs1 : List Loc), va_P D cl (wl K ad (me tg pa pb Rr (mset M t a b j x))) H1 → va_S A H0 H1 locs1 → W p l e R s m args below meth c H1 locs1 cells slots Q (F0 m (pc + 1) ls rest)) : W p l e R s m args below meth c H locs cells slots Q (F0 m pc ls (.int x :: .int i :: .ref (ad q0) :: rest)) :=
  k_zast hx hb hK hP hA hS q0 t0 hq (me_at hT he) ht hi hn _ ((me_same hT).trans (he _)) (me_other hJ hq hT) hdg kk
/-- an int field of an object -/
theorem m_put {x : Int32} {own C : String} {T : u_T} {N ci index : Nat} (hx : p.tables.exec = Jvm.exec) (hb : c.code = cc) (hts : ∀ w ∈ WS, w.before args s = true) (hin : ∀ w ∈ u_ws C T N, w ∈ WS) (ty0 : Nat → FieldType) (hty : ∀ k, k < N → parseFieldDescriptor (T k).2.2.1 = some (ty0 k)) (hnm : ∀ a, a < N → ∀ b, b < N → a ≠ b → (T a).2.1 ≠ (T b).2.1) (hown : s.vm.findClass own = some m.cls) (hK : va_K D cl tys s) (hP : va_P D cl (wl K ad (me tg pa pb Rr M)) H) (hA : wl_ok A K ad) (hS : va_S A H0 H locs) (hJ : mj K tg pa pb) (q0 : Nat) (hq : q0 < K) (fs : (Nat → Int32) → List Value) (he : ∀ f, Rr q0 f = .inr (ci, fs f)) (hT : tg q0 = t ∧ pa q0 = a ∧ pb q0 = b) (hc : cl[ci]? = some (C, T, N)) (k : Nat) (hk : k < N) (hlink : (Cond.fieldLink own index (T k).1 (T k).2.1 (T k).2.2.1).before args s = true) (hfin : (T k).2.2.2 = false) (hd : parseFieldDescriptor (T k).2.2.1 = some .int) (hfs : ∀ f, k < (fs f).length ∧ (fs f).set k (.int x) = fs (upd f k x)) (hdg : decode cc pc = .ok (.putfield index, 3))
    (kk : ∀ (H1 : Heap) (locs1 : List Loc), va_P D cl (wl K ad (me tg pa pb Rr (mset M t a b k x))) H1 → va_S A H0 H1 locs1 → W p l e R s m args below meth c H1 locs1 cells slots Q (F0 m (pc + 3) ls rest)) : W p l e R s m args below meth c H locs cells slots Q (F0 m pc ls (.int x :: .ref (ad q0) :: rest)) := by
  refine va_put (ref := (T k).1) hx hb hts hin ty0 hty hnm hown hK hP (wl_D hA) hS q0 (wl_to hq (me_at hT he)) hc k hk hlink (fun _ h => h) hfin hd rfl rfl (hfs _).1 hdg (fun H1 locs1 hP1 _ hS1 => kk H1 locs1 ?_ hS1)
  rw [wl_set hq (en' := me tg pa pb Rr (mset M t a b k x)) (by rw [(hfs _).2]; exact (me_same hT).trans (he _)) (me_other hJ hq hT)] at hP1
  exact hP1
abbrev cpok (sp dp n : Int32) (N : Nat) : Prop := ¬ sp < 0 ∧ ¬ dp < 0 ∧ ¬ n < 0 ∧ sp.toNatClampNeg + n.toNatClampNeg ≤ N ∧ dp.toNatClampNeg + n.toNatClampNeg ≤ N
theorem m_copy (hx : p.tables.exec = Jvm.exec) (hb : c.code = cc) (hml : c.maxLocals = ls.size) {own : String} {index : Nat} (hown : s.vm.findClass own = some m.cls) (hlink : (Cond.methodLink own index arraycopyName).before args s = true) (hnat : (Cond.native arraycopyName).before args s = true) (hstat : (Cond.static arraycopyName).before args s = true) (hini : (Cond.initialized "java/lang/System").before args s = true)
    (hK : va_K D cl tys s) (hP : va_P D cl (wl K ad (me tg pa pb Rr M)) H) (hA : wl_ok A K ad) (hS : va_S A H0 H locs) (hJ : mj K tg pa pb) (q0 t0 : Nat) (hq : q0 < K) (hT : tg q0 = t ∧ pa q0 = a ∧ pb q0 = b) {cA : ClassId} {N : Nat} (he : ∀ f, Rr q0 f = .inl (cA, N, .inl f)) (ht : tys[t0]? = some (cA, .int)) {sp dp n : Int32} (hc : cpok sp dp n N)
    (hframes : 1 ≤ R.frames) (hlocals : (rest.map fun v => v.category).sum + (nativeFrameWords "java/lang/System" "arraycopy" 5 + 11) ≤ R.locals) (hdg : decode cc pc = .ok (.invokestatic index, 3))
    (kk : ∀ (H1 : Heap) (locs1 : List Loc), va_P D cl (wl K ad (me tg pa pb Rr (ms M t a b (va_cpy (M t a b) (M t a b) sp.toNatClampNeg dp.toNatClampNeg n.toNatClampNeg)))) H1 → va_S A H0 H1 locs1 → W p l e R s m args below meth c H1 locs1 cells slots Q (F0 m (pc + 3) ls rest)) : W p l e R s m args below meth c H locs cells slots Q (F0 m pc ls (.int n :: .int dp :: .ref (ad q0) :: .int sp :: .ref (ad q0) :: rest)) := by
  obtain ⟨h1, h2, h3, h4, h5⟩ := hc
  refine va_copyi (ty := .int) hx hb hml hown hlink hnat hstat hini hK hP (wl_D hA) hS q0 q0 t0 t0 (wl_to hq (me_at hT he)) (wl_to hq (me_at hT he)) ht ht rfl h1 h2 h3 h4 h5 (fun _ _ => rfl) hframes hlocals hdg (fun H1 locs1 hP1 _ hS1 => kk H1 locs1 ?_ hS1)
  rw [wl_set hq (en' := me tg pa pb Rr (ms M t a b (va_cpy (M t a b) (M t a b) sp.toNatClampNeg dp.toNatClampNeg n.toNatClampNeg))) ((me_same hT).trans (he _)) (me_other hJ hq hT)] at hP1
  exact hP1
end KM
theorem sw_out2 {x : Int32} (h1 : ¬ x = 1) (h2 : ¬ x = 2) : x.toInt < 1 ∨ 2 < x.toInt := by
  have e1 : x.toInt ≠ 1 := fun h => h1 (Int32.toInt_inj.mp (by rw [h]; rfl))
  have e2 : x.toInt ≠ 2 := fun h => h2 (Int32.toInt_inj.mp (by rw [h]; rfl))
  omega
