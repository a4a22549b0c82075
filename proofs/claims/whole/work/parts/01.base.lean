/-! worlds over logical places, and contracts in two forms: a method that only reads, a method that writes its world -/
def ix (i : Int32) (n : Nat) : Option Nat := if i < 0 ∨ n ≤ i.toNatClampNeg then none else some i.toNatClampNeg
theorem ix_in {i : Int32} {n j : Nat} (h : ix i n = some j) : vp_in i n ∧ i.toNatClampNeg = j := by
  unfold ix at h
  split at h
  · cases h
  · rename_i h0
    exact ⟨h0, Option.some.inj h⟩
theorem ix_lt {i : Int32} {n j : Nat} (h : ix i n = some j) : j < n := by
  obtain ⟨h1, rfl⟩ := ix_in h
  exact Nat.not_le.mp fun q => h1 (Or.inr q)
theorem ix_nI {n j : Nat} (h : j < n) (hn : n < 2 ^ 31) : ix (nI j) n = some j := by
  unfold ix
  rw [if_neg (nI_in h hn), nI_clamp (Nat.lt_trans h hn)]
def wl (K : Nat) (ad : Nat → Nat) (en : Nat → va_E) : va_W := (List.range K).map (fun k => (ad k, en k))
theorem wl_len {K : Nat} {ad : Nat → Nat} {en : Nat → va_E} : (wl K ad en).length = K := by simp [wl]
theorem wl_at {K k : Nat} {ad : Nat → Nat} {en : Nat → va_E} (h : k < K) : (wl K ad en)[k]? = some (ad k, en k) := by
  simp [wl, h]
theorem wl_to {K k : Nat} {ad : Nat → Nat} {en : Nat → va_E} {x : va_E} (h : k < K) (hx : en k = x) : (wl K ad en)[k]? = some (ad k, x) := by
  rw [wl_at h, hx]
theorem wl_get {K k : Nat} {ad : Nat → Nat} {en : Nat → va_E} {q : Nat × va_E} (h : (wl K ad en)[k]? = some q) : k < K ∧ q = (ad k, en k) := by
  have hk : k < K := by
    have h1 := (List.getElem?_eq_some_iff.mp h).1
    rwa [wl_len] at h1
  rw [wl_at hk] at h
  exact ⟨hk, (Option.some.inj h).symm⟩
theorem wl_set {K k : Nat} {ad : Nat → Nat} {en en' : Nat → va_E} {x : va_E} (h : k < K) (he : en' k = x) (ho : ∀ j, j < K → j ≠ k → en' j = en j) : (wl K ad en).set k (ad k, x) = wl K ad en' := by
  apply List.ext_getElem?
  intro j
  by_cases hj : j < K
  · by_cases hjk : j = k
    · subst hjk
      rw [List.getElem?_set_self (by rw [wl_len]; exact hj), wl_at hj, he]
    · rw [List.getElem?_set_ne (Ne.symm hjk), wl_at hj, wl_at hj, ho j hj hjk]
  · rw [List.getElem?_eq_none (by rw [List.length_set, wl_len]; omega), List.getElem?_eq_none (by rw [wl_len]; omega)]
def wl_ok (A : Nat → Prop) (K : Nat) (ad : Nat → Nat) : Prop := (∀ i j, i < K → j < K → ad i = ad j → i = j) ∧ ∀ k, k < K → A (ad k)
theorem wl_D {A : Nat → Prop} {K : Nat} {ad : Nat → Nat} {en : Nat → va_E} (h : wl_ok A K ad) : va_D A (wl K ad en) := by
  refine ⟨fun i j p q hi hj e => ?_, fun k q hk => ?_⟩
  · obtain ⟨hi9, rfl⟩ := wl_get hi
    obtain ⟨hj9, rfl⟩ := wl_get hj
    exact h.1 i j hi9 hj9 e
  · obtain ⟨hk9, rfl⟩ := wl_get hk
    exact h.2 k hk9
def wl_A (K : Nat) (ad : Nat → Nat) : Nat → Prop := fun q => ∃ k, k < K ∧ ad k = q
theorem wl_own {A : Nat → Prop} {K : Nat} {ad : Nat → Nat} (h : wl_ok A K ad) : wl_ok (wl_A K ad) K ad := ⟨h.1, fun k hk => ⟨k, hk, rfl⟩⟩
/-- a state that holds a world -/
def wl_B (D : va_G) (cl : List vw_C) (tys : List (ClassId × FieldType)) (K : Nat) (ad : Nat → Nat) (en : Nat → va_E) (U : State) : Prop :=
  va_P D cl (wl K ad en) U.heap ∧ va_K D cl tys U ∧ wl_ok (fun _ => True) K ad
def rd_Q (v : Option Value) : Array Value → State → Outcome → State → Prop := fun _ st o t => o = .returned v ∧ t.heap = st.heap
def wr_Q (v : Option Value) (D : va_G) (cl : List vw_C) (K : Nat) (ad : Nat → Nat) (en : Nat → va_E) : Array Value → State → Outcome → State → Prop := fun _ st o t =>
  o = .returned v ∧ va_P D cl (wl K ad en) t.heap ∧ va_F (wl_A K ad) st t
theorem wl_blind {D : va_G} {cl : List vw_C} {tys : List (ClassId × FieldType)} {K : Nat} {ad : Nat → Nat} {en : Nat → va_E} {av : List Value} : FrameBlind (va_Pc av (wl_B D cl tys K ad en)) := by
  intro a U g mk h
  obtain ⟨h0, h1, h2, h3⟩ := h
  exact ⟨h0, h1, va_K.moved (u := U) (U := U.calling g mk a) (Vm.Alike.refl U.vm) h2, h3⟩
theorem wl_pre {s : State} {H : Heap} {D : va_G} {cl : List vw_C} {tys : List (ClassId × FieldType)} {K : Nat} {ad : Nat → Nat} {en : Nat → va_E} {A : Nat → Prop} (hP : va_P D cl (wl K ad en) H) (hK : va_K D cl tys s) (hA : wl_ok A K ad) (U : State) (hU : U.heap = H) (hW : s.WarmedH U.vm) : wl_B D cl tys K ad en U :=
  ⟨by rw [hU]; exact hP, va_K.moved hW.alike hK, hA.1, fun _ _ => trivial⟩
section KB
variable {p : Program} {l : Launch} {e : Env} {R : Room} {s : State} {m : MethodId} {args : Array Value} {below : List Frame} {meth : Method} {c : Code} {H : Heap} {locs : List Loc} {cells slots : Nat} {Q : State → Prop}
variable {cc : ByteArray} {pc : Nat} {ls : Array Slot} {rest st0 : List Value} {D : va_G} {cl : List vw_C} {A : Nat → Prop} {tys : List (ClassId × FieldType)} {H0 : Heap} {K : Nat} {ad : Nat → Nat} {en : Nat → va_E} {a : Array Value}
/-- behind a call that only read -/
theorem k_rd {v : Option Value} (hr : va_Run p l e R s m args below meth c H locs cells slots 0 0 (F0 m pc ls st0) rest (rd_Q v a) (fun _ => False)) (kk : W p l e R s m args below meth c H locs cells slots Q (F0 m (pc + 3) ls (v.toList ++ rest))) : W p l e R s m args below meth c H locs cells slots Q (F0 m pc ls st0) := by
  intro T hT X
  obtain ⟨v', st₀, t, T', L, h0, X', hL, e1, e2, ⟨hv, hh⟩, st⟩ := hr T hT X
  cases hv
  obtain ⟨t2, a1, b1⟩ := kk T' (by rw [e1, hh, h0]) (Stand.forget X' (fun q h => (hL q h).elim))
  exact ⟨t2, st t2 a1, b1⟩
/-- behind a call that wrote its world -/
theorem k_wr {v : Option Value} (hr : va_Run p l e R s m args below meth c H locs cells slots 0 0 (F0 m pc ls st0) rest (wr_Q v D cl K ad en a) (wl_A K ad)) (hS : va_S A H0 H locs) (hA : ∀ q, wl_A K ad q → A q)
    (kk : ∀ (H1 : Heap) (locs1 : List Loc), va_P D cl (wl K ad en) H1 → H.size ≤ H1.size → (∀ q : Nat, q < H.size → ¬ wl_A K ad q → H1[q]? = H[q]?) → va_S A H0 H1 locs1 → W p l e R s m args below meth c H1 locs1 cells slots Q (F0 m (pc + 3) ls (v.toList ++ rest))) : W p l e R s m args below meth c H locs cells slots Q (F0 m pc ls st0) := by
  intro T hT X
  obtain ⟨v', st₀, t, T', L, h0, X', hL, e1, e2, ⟨hv, hp, hz, hk⟩, st⟩ := hr T hT X
  cases hv
  rw [h0] at hz hk
  obtain ⟨t2, a1, b1⟩ := kk T'.heap (locs ++ L) (by rw [e1]; exact hp) (by rw [e1]; exact hz) (fun q h1 h2 => by rw [e1]; exact hk q h1 h2)
    ⟨Nat.le_trans hS.1 (by rw [e1]; exact hz), fun q h1 h2 => by rw [e1, hk q (Nat.lt_of_lt_of_le h1 hS.1) (fun z => h2 (hA q z))]; exact hS.2.1 q h1 h2, fun q hq => by
      rcases List.mem_append.mp hq with h | h
      · exact hS.2.2 q h
      · exact hA _ (hL q h)⟩ T' rfl X'
  exact ⟨t2, st t2 a1, b1⟩
theorem r_iret {v : Int32} (hx : p.tables.exec = Jvm.exec) (hb : c.code = cc) (hr : meth.sig.returnType = some .int) (hlk : meth.locks = false) (hdg : decode cc pc = .ok (.ireturn, 1)) : W p l e R s m args below meth c s.heap [] 0 0 (MQ below (rd_Q (some (.int v))) args s 0 0 (fun _ => False)) (F0 m pc ls [.int v]) :=
  W.iret hx hb hr (fun t ht hW => ⟨rfl, ht⟩) (fun q h => by cases h) hdg hlk
theorem r_zret {v : Int32} (hx : p.tables.exec = Jvm.exec) (hb : c.code = cc) (hr : meth.sig.returnType = some .boolean) (hlk : meth.locks = false) (hn : narrow .boolean (.int v) = .int v) (hdg : decode cc pc = .ok (.ireturn, 1)) : W p l e R s m args below meth c s.heap [] 0 0 (MQ below (rd_Q (some (.int v))) args s 0 0 (fun _ => False)) (F0 m pc ls [.int v]) :=
  W.zret hx hb hr hn (fun t ht hW => ⟨rfl, ht⟩) (fun q h => by cases h) hdg hlk
theorem r_vret (hx : p.tables.exec = Jvm.exec) (hb : c.code = cc) (hr : meth.sig.returnType = none) (hlk : meth.locks = false) (hdg : decode cc pc = .ok (.return_, 1)) : W p l e R s m args below meth c s.heap [] 0 0 (MQ below (rd_Q none) args s 0 0 (fun _ => False)) (F0 m pc ls []) :=
  W.vret hx hb hr (fun t ht hW => ⟨rfl, ht⟩) (fun q h => by cases h) hdg hlk
theorem w_iret {v : Int32} (hx : p.tables.exec = Jvm.exec) (hb : c.code = cc) (hr : meth.sig.returnType = some .int) (hlk : meth.locks = false) (hP : va_P D cl (wl K ad en) H) (hS : va_S (wl_A K ad) s.heap H locs) (hdg : decode cc pc = .ok (.ireturn, 1)) : W p l e R s m args below meth c H locs 0 0 (MQ below (wr_Q (some (.int v)) D cl K ad en) args s 0 0 (wl_A K ad)) (F0 m pc ls [.int v]) :=
  W.iret hx hb hr (fun t ht hW => ⟨rfl, by rw [ht]; exact hP, hS.F ht⟩) hS.2.2 hdg hlk
theorem w_zret {v : Int32} (hx : p.tables.exec = Jvm.exec) (hb : c.code = cc) (hr : meth.sig.returnType = some .boolean) (hlk : meth.locks = false) (hn : narrow .boolean (.int v) = .int v) (hP : va_P D cl (wl K ad en) H) (hS : va_S (wl_A K ad) s.heap H locs) (hdg : decode cc pc = .ok (.ireturn, 1)) : W p l e R s m args below meth c H locs 0 0 (MQ below (wr_Q (some (.int v)) D cl K ad en) args s 0 0 (wl_A K ad)) (F0 m pc ls [.int v]) :=
  W.zret hx hb hr hn (fun t ht hW => ⟨rfl, by rw [ht]; exact hP, hS.F ht⟩) hS.2.2 hdg hlk
theorem w_vret (hx : p.tables.exec = Jvm.exec) (hb : c.code = cc) (hr : meth.sig.returnType = none) (hlk : meth.locks = false) (hP : va_P D cl (wl K ad en) H) (hS : va_S (wl_A K ad) s.heap H locs) (hdg : decode cc pc = .ok (.return_, 1)) : W p l e R s m args below meth c H locs 0 0 (MQ below (wr_Q none D cl K ad en) args s 0 0 (wl_A K ad)) (F0 m pc ls []) :=
  W.vret hx hb hr (fun t ht hW => ⟨rfl, by rw [ht]; exact hP, hS.F ht⟩) hS.2.2 hdg hlk
/-- an int out of an array -/
theorem k_iald (hx : p.tables.exec = Jvm.exec) (hb : c.code = cc) (hK : va_K D cl tys s) (hP : va_P D cl (wl K ad en) H) (q0 t0 : Nat) (hq : q0 < K) {cA : ClassId} {n : Nat} {f : Nat → Int32} (he : en q0 = .inl (cA, n, .inl f)) (ht : tys[t0]? = some (cA, .int)) {i : Int32} {j : Nat} (hi : ix i n = some j) (hdg : decode cc pc = .ok (.iaload, 1))
    (kk : W p l e R s m args below meth c H locs cells slots Q (F0 m (pc + 1) ls (.int (f j) :: rest))) : W p l e R s m args below meth c H locs cells slots Q (F0 m pc ls (.int i :: .ref (ad q0) :: rest)) := by
  obtain ⟨h1, rfl⟩ := ix_in hi
  exact va_iald hx hb hK hP q0 t0 (wl_to hq he) ht h1 hdg kk
theorem k_zald (hx : p.tables.exec = Jvm.exec) (hb : c.code = cc) (hK : va_K D cl tys s) (hP : va_P D cl (wl K ad en) H) (q0 t0 : Nat) (hq : q0 < K) {cA : ClassId} {n : Nat} {f : Nat → Int32} (he : en q0 = .inl (cA, n, .inl f)) (ht : tys[t0]? = some (cA, .boolean)) {i : Int32} {j : Nat} (hi : ix i n = some j) (hdg : decode cc pc = .ok (.baload, 1))
    (kk : W p l e R s m args below meth c H locs cells slots Q (F0 m (pc + 1) ls (.int (f j) :: rest))) : W p l e R s m args below meth c H locs cells slots Q (F0 m pc ls (.int i :: .ref (ad q0) :: rest)) := by
  obtain ⟨h1, rfl⟩ := ix_in hi
  exact va_zald hx hb hK hP q0 t0 (wl_to hq he) ht h1 hdg kk
/-- an object out of an array of objects -/
theorem k_aald (hx : p.tables.exec = Jvm.exec) (hb : c.code = cc) (hK : va_K D cl tys s) (hP : va_P D cl (wl K ad en) H) (q0 t0 : Nat) (hq : q0 < K) {cA : ClassId} {C : String} {n : Nat} {f : Nat → Option Nat} (he : en q0 = .inl (cA, n, .inr (.inr (.inr (.inr f))))) (ht : tys[t0]? = some (cA, .object C)) {i : Int32} {j r : Nat} (hi : ix i n = some j) (hf : f j = some r) (hdg : decode cc pc = .ok (.aaload, 1))
    (kk : W p l e R s m args below meth c H locs cells slots Q (F0 m (pc + 1) ls (.ref r :: rest))) : W p l e R s m args below meth c H locs cells slots Q (F0 m pc ls (.int i :: .ref (ad q0) :: rest)) := by
  obtain ⟨h1, rfl⟩ := ix_in hi
  refine va_aldq hx hb hK hP q0 t0 (wl_to hq he) ht h1 hdg ?_
  rw [hf]
  exact kk
/-- a row out of an array of arrays of ints -/
theorem k_rald (hx : p.tables.exec = Jvm.exec) (hb : c.code = cc) (hK : va_K D cl tys s) (hP : va_P D cl (wl K ad en) H) (q0 t0 : Nat) (hq : q0 < K) {cA : ClassId} {n : Nat} {f : Nat → Option Nat} (he : en q0 = .inl (cA, n, .inr (.inr (.inr (.inr f))))) (ht : tys[t0]? = some (cA, .array .int)) {i : Int32} {j r : Nat} (hi : ix i n = some j) (hf : f j = some r) (hdg : decode cc pc = .ok (.aaload, 1))
    (kk : W p l e R s m args below meth c H locs cells slots Q (F0 m (pc + 1) ls (.ref r :: rest))) : W p l e R s m args below meth c H locs cells slots Q (F0 m pc ls (.int i :: .ref (ad q0) :: rest)) := by
  obtain ⟨h1, rfl⟩ := ix_in hi
  have hlt : i.toNatClampNeg < n := Nat.not_le.mp fun q => h1 (Or.inr q)
  refine W.aald (v := va_rf (f i.toNatClampNeg)) (ty := .array .int) hx hb (hP q0 _ (wl_to hq he)) ((hK.2 t0 _ ht).1 n (fun j => va_rf (f j))) rfl (fun q => by cases q) (by show ¬ (i < 0 ∨ (arrV _ _ _).slots.size ≤ _); rw [arrV_size]; exact h1) (by show (arrV _ _ _).slots[_]? = _; rw [arrV_read _ _ hlt]) rfl rfl hdg ?_
  rw [hf]
  exact kk
/-- an int into an array -/
theorem k_iast (hx : p.tables.exec = Jvm.exec) (hb : c.code = cc) (hK : va_K D cl tys s) (hP : va_P D cl (wl K ad en) H) (hA : wl_ok A K ad) (hS : va_S A H0 H locs) (q0 t0 : Nat) (hq : q0 < K) {cA : ClassId} {n : Nat} {f : Nat → Int32} (he : en q0 = .inl (cA, n, .inl f)) (ht : tys[t0]? = some (cA, .int)) {i x : Int32} {j : Nat} (hi : ix i n = some j) (en' : Nat → va_E) (he' : en' q0 = .inl (cA, n, .inl (upd f j x))) (ho : ∀ k, k < K → k ≠ q0 → en' k = en k) (hdg : decode cc pc = .ok (.iastore, 1))
    (kk : ∀ (H1 : Heap) (locs1 : List Loc), va_P D cl (wl K ad en') H1 → va_S A H0 H1 locs1 → W p l e R s m args below meth c H1 locs1 cells slots Q (F0 m (pc + 1) ls rest)) : W p l e R s m args below meth c H locs cells slots Q (F0 m pc ls (.int x :: .int i :: .ref (ad q0) :: rest)) := by
  obtain ⟨h1, rfl⟩ := ix_in hi
  refine va_iast hx hb hK hP (wl_D hA) hS q0 t0 (wl_to hq he) ht h1 hdg (fun H1 locs1 hP1 _ hS1 => kk H1 locs1 ?_ hS1)
  rwa [wl_set hq he' ho] at hP1
theorem k_zast (hx : p.tables.exec = Jvm.exec) (hb : c.code = cc) (hK : va_K D cl tys s) (hP : va_P D cl (wl K ad en) H) (hA : wl_ok A K ad) (hS : va_S A H0 H locs) (q0 t0 : Nat) (hq : q0 < K) {cA : ClassId} {n : Nat} {f : Nat → Int32} (he : en q0 = .inl (cA, n, .inl f)) (ht : tys[t0]? = some (cA, .boolean)) {i x : Int32} {j : Nat} (hi : ix i n = some j) (hn : vp_nar .boolean x = x) (en' : Nat → va_E) (he' : en' q0 = .inl (cA, n, .inl (upd f j x))) (ho : ∀ k, k < K → k ≠ q0 → en' k = en k) (hdg : decode cc pc = .ok (.bastore, 1))
    (kk : ∀ (H1 : Heap) (locs1 : List Loc), va_P D cl (wl K ad en') H1 → va_S A H0 H1 locs1 → W p l e R s m args below meth c H1 locs1 cells slots Q (F0 m (pc + 1) ls rest)) : W p l e R s m args below meth c H locs cells slots Q (F0 m pc ls (.int x :: .int i :: .ref (ad q0) :: rest)) := by
  obtain ⟨h1, rfl⟩ := ix_in hi
  refine va_zast hx hb hK hP (wl_D hA) hS q0 t0 (wl_to hq he) ht h1 hdg (fun H1 locs1 hP1 _ hS1 => kk H1 locs1 ?_ hS1)
  rw [hn] at hP1
  rwa [wl_set hq he' ho] at hP1
end KB
