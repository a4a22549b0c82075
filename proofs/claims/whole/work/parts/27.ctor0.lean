/-! worlds that grow: the cells from h on, in the order in which they are made -/
abbrev aw (h j : Nat) (E : Nat → va_E) : va_W := wl j (fun i => h + i) E
theorem aw_ok {h j : Nat} : wl_ok (fun q => h ≤ q) j (fun i => h + i) := ⟨fun _ _ _ _ e => Nat.add_left_cancel e, fun _ _ => Nat.le_add_right _ _⟩
theorem aw_push {D : va_G} {cl : List vw_C} {h j : Nat} {E : Nat → va_E} {x : va_E} {H H1 : Heap} (hP : va_P D cl (aw h j E) H) (hz : H.size = h + j) (hx : va_at D cl (h + j, x) H1) (ho : ∀ q : Nat, q < H.size → H1[q]? = H[q]?) : va_P D cl (aw h (j + 1) (va_up E j x)) H1 := by
  intro k q hk
  obtain ⟨hk9, rfl⟩ := wl_get hk
  by_cases e : k = j
  · subst e
    rw [va_up_self]
    exact hx
  · rw [va_up_ne _ _ e]
    have hlt : k < j := by omega
    have h1 := hP k _ (wl_at hlt)
    exact h1.kept (ho _ h1.lt)
theorem aw_set {D : va_G} {cl : List vw_C} {h j i : Nat} {E : Nat → va_E} {x : va_E} {H H1 : Heap} (hP : va_P D cl (aw h j E) H) (hi : i < j) (hx : va_at D cl (h + i, x) H1) (ho : ∀ q : Nat, q ≠ h + i → H1[q]? = H[q]?) : va_P D cl (aw h j (va_up E i x)) H1 := by
  intro k q hk
  obtain ⟨hk9, rfl⟩ := wl_get hk
  by_cases e : k = i
  · subst e
    rw [va_up_self]
    exact hx
  · rw [va_up_ne _ _ e]
    exact (hP k _ (wl_at hk9)).kept (ho _ (by show h + k ≠ h + i; omega))
def aoa (U : State) : Prop := (Cond.arrayOver (.array .int)).before #[] U = true
theorem aoa_moved {u U : State} (hvm : u.vm.Alike U.vm) (h : aoa u) : aoa U := by
  show (Cond.arrayOver (.array .int)).before #[] (u.setVm U.vm) = true
  rw [Cond.arrayOver_setVmC hvm]
  exact h
def kz (U : State) : Prop := aoa U ∧ va_AO R_Router U ∧ va_Nw (.methodLinkNest R_LR 33 ⟨R_Mail, "<init>", "()V"⟩ R_LR) U ∧ va_Nw (.methodLinkNest R_LR 44 ⟨R_Router, "<init>", "()V"⟩ R_LR) U ∧ va_Nw (.methodLinkNest R_LR 57 ⟨R_Packet, "<init>", "()V"⟩ R_LR) U
theorem kz_warm {s U : State} (hW : s.WarmedH U.vm) (h : kz s) : kz U := ⟨aoa_moved hW.alike h.1, va_AO.moved hW.alike h.2.1, h.2.2.1.warmM hW, h.2.2.2.1.warmM hW, h.2.2.2.2.warmM hW⟩
theorem gr_outer (c : ClassId) (N h0 : Nat) : ∀ i : Nat, Jvm.Free.Multi.outerC c N h0 i = arrV c N (fun j => va_rf (if j < i then some (h0 + 1 + j) else none))
  | 0 => by
    have e : (fun j : Nat => va_rf (if j < 0 then some (h0 + 1 + j) else none)) = fun _ => Value.null := by
      funext j
      rw [if_neg (Nat.not_lt_zero j)]
      rfl
    rw [e, ← arrV_new]
    rfl
  | i + 1 => by
    have e : Jvm.Free.Multi.outerC c N h0 (i + 1) = (Jvm.Free.Multi.outerC c N h0 i).setSlot i (.ref (h0 + 1 + i)) := rfl
    rw [e, gr_outer c N h0 i, arrV_store]
    congr 1
    funext j
    unfold updV
    by_cases h : j = i
    · subst h
      rw [if_pos rfl, if_pos (Nat.lt_succ_self j)]
      rfl
    · rw [if_neg h]
      show va_rf (if j < i then some (h0 + 1 + j) else none) = va_rf (if j < i + 1 then some (h0 + 1 + j) else none)
      by_cases h2 : j < i
      · rw [if_pos h2, if_pos (Nat.lt_succ_of_lt h2)]
      · rw [if_neg h2, if_neg (by omega)]
section PR
variable {p : Program} {l : Launch} {e : Env} {R : Room} {s : State} {m : MethodId} {args : Array Value} {below : List Frame} {meth : Method} {c : Code} {H : Heap} {locs : List Loc} {cells slots : Nat} {Q : State → Prop}
variable {cc : ByteArray} {pc : Nat} {ls : Array Slot} {rest : List Value} {D : va_G} {cl : List vw_C} {tys : List (ClassId × FieldType)} {H0 : Heap} {h j i : Nat} {E : Nat → va_E}
theorem p_putF {own C : String} {T : u_T} {N ci index : Nat} (hx : p.tables.exec = Jvm.exec) (hb : c.code = cc) (hts : ∀ w ∈ WS, w.before args s = true) (hin : ∀ w ∈ u_ws C T N, w ∈ WS) (ty0 : Nat → FieldType) (hty : ∀ k, k < N → parseFieldDescriptor (T k).2.2.1 = some (ty0 k)) (hnm : ∀ a, a < N → ∀ b, b < N → a ≠ b → (T a).2.1 ≠ (T b).2.1) (hown : s.vm.findClass own = some m.cls) (hK : va_K D cl tys s) (hP : va_P D cl (aw h j E) H) (hz : H.size = h + j) (hS : va_S (fun q => h ≤ q) H0 H locs) (hi : i < j) {fs : List Value} (he : E i = .inr (ci, fs)) (hc : cl[ci]? = some (C, T, N)) (k : Nat) (hk : k < N) (hlink : (Cond.fieldLink own index (T k).1 (T k).2.1 (T k).2.2.1).before args s = true) (hfin : (T k).2.2.2 = true) (hin2 : meth.name = "<init>") (hdecl : (T k).1 = own) {ty : FieldType} {v : Value} (hd : parseFieldDescriptor (T k).2.2.1 = some ty) (hn : narrow ty v = v) (hfit : fits ty v = true) (hl : k < fs.length) (hdg : decode cc pc = .ok (.putfield index, 3))
    (kk : ∀ (H1 : Heap) (locs1 : List Loc), va_P D cl (aw h j (va_up E i (.inr (ci, fs.set k v)))) H1 → H1.size = h + j → va_S (fun q => h ≤ q) H0 H1 locs1 → W p l e R s m args below meth c H1 locs1 cells slots Q (F0 m (pc + 3) ls rest)) : W p l e R s m args below meth c H locs cells slots Q (F0 m pc ls (v :: .ref (h + i) :: rest)) := by
  have hap := va_apart (own := own) hts hin ty0 hty hnm hK hc
  obtain ⟨r, h1, cell, q1, q2, q3, q4⟩ := hP i _ (wl_to hi he)
  have hr : r = (C, T, N) := Option.some.inj (h1.symm.trans hc)
  subst hr
  obtain ⟨hSl, hfc, kC, hkC, hkind⟩ := hK.1 ci _ hc
  obtain ⟨cf, kf, fi, f, hi9, hsl⟩ := hSl k hk
  have hlay := hts _ (hin _ (u_in_lay hk))
  unfold u_lay at hlay
  rw [if_pos hfin] at hlay
  have hst := (u_facts hfc hkC (u_lays hts hin hk) hi9).1
  have hcf : m.cls = cf := by
    obtain ⟨_, _, c', _, _, _, -, -, hf', -, -, -, hown2, -⟩ := Cond.laysFinal_spec hlay
    have e1 : c' = cf := by have := hi9.symm.trans hf'; simp at this; exact this.1.symm
    rw [hdecl] at hown2
    rw [← e1]; exact Option.some.inj (hown.symm.trans hown2)
  have h6 := u_fits hfc hkC hkind (Or.inr hlay) hi9 hd hn hfit
  refine W.putFinK hx hb hown hlink hi9 hst hcf hin2 (by rw [q2]; exact h6) q1 q3 (by rw [hsl]; exact k2_hasslot (q4 k hk)) rfl rfl hdg fun H' e1 e2 e3 => ?_
  rw [hsl] at e1 ⊢
  exact kk H' _ (aw_set hP hi ⟨_, hc, t_OB.to (V := updV (vp_V fs) k v) ⟨_, e1, q2, q3, t_set q4 hap hk v⟩ (fun j _ => vp_updV_set hl v j)⟩ e3) (by rw [e2]; exact hz) (hS.put e2 e3 (Nat.le_add_right _ _))
theorem p_put {own C : String} {T : u_T} {N ci index : Nat} (hx : p.tables.exec = Jvm.exec) (hb : c.code = cc) (hts : ∀ w ∈ WS, w.before args s = true) (hin : ∀ w ∈ u_ws C T N, w ∈ WS) (ty0 : Nat → FieldType) (hty : ∀ k, k < N → parseFieldDescriptor (T k).2.2.1 = some (ty0 k)) (hnm : ∀ a, a < N → ∀ b, b < N → a ≠ b → (T a).2.1 ≠ (T b).2.1) (hown : s.vm.findClass own = some m.cls) (hK : va_K D cl tys s) (hP : va_P D cl (aw h j E) H) (hz : H.size = h + j) (hS : va_S (fun q => h ≤ q) H0 H locs) (hi : i < j) {fs : List Value} (he : E i = .inr (ci, fs)) (hc : cl[ci]? = some (C, T, N)) (k : Nat) (hk : k < N) (hlink : (Cond.fieldLink own index (T k).1 (T k).2.1 (T k).2.2.1).before args s = true) (hfin : (T k).2.2.2 = false) {ty : FieldType} {v : Value} (hd : parseFieldDescriptor (T k).2.2.1 = some ty) (hn : narrow ty v = v) (hfit : fits ty v = true) (hl : k < fs.length) (hdg : decode cc pc = .ok (.putfield index, 3))
    (kk : ∀ (H1 : Heap) (locs1 : List Loc), va_P D cl (aw h j (va_up E i (.inr (ci, fs.set k v)))) H1 → H1.size = h + j → va_S (fun q => h ≤ q) H0 H1 locs1 → W p l e R s m args below meth c H1 locs1 cells slots Q (F0 m (pc + 3) ls rest)) : W p l e R s m args below meth c H locs cells slots Q (F0 m pc ls (v :: .ref (h + i) :: rest)) := by
  have hap := va_apart (own := own) hts hin ty0 hty hnm hK hc
  obtain ⟨r, h1, cell, q1, q2, q3, q4⟩ := hP i _ (wl_to hi he)
  have hr : r = (C, T, N) := Option.some.inj (h1.symm.trans hc)
  subst hr
  obtain ⟨hSl, hfc, kC, hkC, hkind⟩ := hK.1 ci _ hc
  obtain ⟨cf, kf, fi, f, hi9, hsl⟩ := hSl k hk
  have hlay := hts _ (hin _ (u_in_lay hk))
  unfold u_lay at hlay
  rw [if_neg (by rw [hfin]; decide)] at hlay
  have hst := (u_facts hfc hkC (u_lays hts hin hk) hi9).1
  have h6 := u_store hfc hkC hkind hlay hi9 hd hn hfit
  refine W.putK hx hb (f := f) ⟨hown, hlink, ⟨_, _, _, hi9⟩, hst⟩ (by rw [q2]; exact h6) q1 q3 (by rw [hsl]; exact k2_hasslot (q4 k hk)) rfl rfl hdg fun H' e1 e2 e3 => ?_
  rw [hsl] at e1 ⊢
  exact kk H' _ (aw_set hP hi ⟨_, hc, t_OB.to (V := updV (vp_V fs) k v) ⟨_, e1, q2, q3, t_set q4 hap hk v⟩ (fun j _ => vp_updV_set hl v j)⟩ e3) (by rw [e2]; exact hz) (hS.put e2 e3 (Nat.le_add_right _ _))
theorem aw_S {H1 : Heap} (hS : va_S (fun q => h ≤ q) H0 H locs) (hz : H.size ≤ H1.size) (ho : ∀ q : Nat, q < H.size → H1[q]? = H[q]?) : va_S (fun q => h ≤ q) H0 H1 locs :=
  ⟨Nat.le_trans hS.1 hz, fun q h1 h2 => (ho q (Nat.lt_of_lt_of_le h1 hS.1)).trans (hS.2.1 q h1 h2), hS.2.2⟩
theorem p_new {own C : String} {T : u_T} {N ci index : Nat} (hx : p.tables.exec = Jvm.exec) (hb : c.code = cc) (hts : ∀ w ∈ WS, w.before args s = true) (hin : ∀ w ∈ u_ws C T N, w ∈ WS) (ty : Nat → FieldType) (hty : ∀ k, k < N → parseFieldDescriptor (T k).2.2.1 = some (ty k)) (hown : s.vm.findClass own = some m.cls) (hcl : (Cond.classLink own index C).before args s = true) (hinst : (Cond.instantiable C N).before args s = true) (hini : (Cond.initialized C).before args s = true)
    (hK : va_K D cl tys s) (hP : va_P D cl (aw h j E) H) (hz : H.size = h + j) (hS : va_S (fun q => h ≤ q) H0 H locs) (hc : cl[ci]? = some (C, T, N)) {fs : List Value} (hfs : ∀ k, k < N → defaultValue (ty k) = vp_V fs k) (hcells : cells + 1 ≤ R.cells) (hslots : slots + N ≤ R.slots) (hdg : decode cc pc = .ok (.new index, 3))
    (kk : ∀ H1 : Heap, va_P D cl (aw h (j + 1) (va_up E j (.inr (ci, fs)))) H1 → H1.size = h + (j + 1) → va_S (fun q => h ≤ q) H0 H1 locs → W p l e R s m args below meth c H1 locs (cells + 1) (slots + N) Q (F0 m (pc + 3) ls (.ref (h + j) :: rest))) : W p l e R s m args below meth c H locs cells slots Q (F0 m pc ls rest) := by
  have hKn := hK.1 ci _ hc
  refine W.newcK hx hb hown hcl hinst hini rfl hdg hcells hslots hKn.2.1 hz fun H1 kC hkC e1 z1 o1 => ?_
  exact kk H1 (aw_push hP hz ⟨_, hc, (u_born ty hts hin hKn hkC e1 hty).to hfs⟩ (fun q hq => o1 q (by omega))) (by omega) (aw_S hS (by omega) (fun q hq => o1 q (by omega)))
theorem p_newa {atype : ArrayType} {ty : FieldType} (hx : p.tables.exec = Jvm.exec) (hb : c.code = cc) (harr : (Cond.arrayClass (newarray.typeOf atype)).before args s = true) (hty : newarray.typeOf atype = ty) (hK : va_K D cl tys s) (hP : va_P D cl (aw h j E) H) (hz : H.size = h + j) (hS : va_S (fun q => h ≤ q) H0 H locs) (t0 : Nat) {cA : ClassId} (ht : tys[t0]? = some (cA, ty)) (hRA : va_RA s cA ty → s.vm.findClass ("[" ++ ty.toString) = some cA)
    {n : Int32} {N' : Nat} {a0 : vp_A} (ha : vp_cell cA a0 = arrV cA N' (fun _ => defaultValue ty)) (hn : ¬ n < 0) (hN : n.toNatClampNeg = N') (hbytes : N' * componentBytes ty ≤ 536870912) (hcells : cells + 1 ≤ R.cells) (hslots : slots + N' ≤ R.slots) (hdg : decode cc pc = .ok (.newarray atype, 2))
    (kk : ∀ H1 : Heap, va_P D cl (aw h (j + 1) (va_up E j (.inl (cA, a0)))) H1 → H1.size = h + (j + 1) → va_S (fun q => h ≤ q) H0 H1 locs → W p l e R s m args below meth c H1 locs (cells + 1) (slots + N') Q (F0 m (pc + 2) ls (.ref (h + j) :: rest))) : W p l e R s m args below meth c H locs cells slots Q (F0 m pc ls (.int n :: rest)) := by
  subst hty
  refine va_newaK hx hb harr rfl hdg rfl hn hN hbytes hcells hslots hz fun H1 cB e1 z1 o1 hAr hNm => ?_
  have ec : cB = cA := Option.some.inj (hNm.symm.trans (hRA (hK.2 t0 _ ht).2))
  subst ec
  refine kk H1 (aw_push hP hz ?_ (fun q hq => o1 q (by omega))) (by omega) (aw_S hS (by omega) (fun q hq => o1 q (by omega)))
  show H1[h + j]? = some (vp_cell _ _)
  rw [ha]
  exact e1
theorem p_anew {own C : String} {index : Nat} (hx : p.tables.exec = Jvm.exec) (hb : c.code = cc) (hown : s.vm.findClass own = some m.cls) (hclink : (Cond.classLink own index C).before args s = true) (hover : va_AO C s) (hK : va_K D cl tys s) (hP : va_P D cl (aw h j E) H) (hz : H.size = h + j) (hS : va_S (fun q => h ≤ q) H0 H locs) (t0 : Nat) {cA : ClassId} (ht : tys[t0]? = some (cA, .object C))
    {n : Int32} {N' : Nat} (hn : ¬ n < 0) (hN : n.toNatClampNeg = N') (hbytes : N' * 4 ≤ 536870912) (hcells : cells + 1 ≤ R.cells) (hslots : slots + N' ≤ R.slots) (hdg : decode cc pc = .ok (.anewarray index, 3))
    (kk : ∀ H1 : Heap, va_P D cl (aw h (j + 1) (va_up E j (.inl (cA, N', .inr (.inr (.inr (.inr (fun _ => none)))))))) H1 → H1.size = h + (j + 1) → va_S (fun q => h ≤ q) H0 H1 locs → W p l e R s m args below meth c H1 locs (cells + 1) (slots + N') Q (F0 m (pc + 3) ls (.ref (h + j) :: rest))) : W p l e R s m args below meth c H locs cells slots Q (F0 m pc ls (.int n :: rest)) := by
  subst hN
  refine W.anew hx hb hown hclink (va_AO.use hover) rfl hdg rfl hn hbytes hcells hslots fun cB kA comp f1 f2 f3 f4 => ?_
  obtain ⟨kA9, comp9, -, -, -, f9⟩ := (hK.2 t0 _ ht).2
  have ec : cB = cA := Option.some.inj (f1.symm.trans f9)
  subst ec
  generalize hH1 : H.push ({ cls := cB, slots := Array.replicate n.toNatClampNeg .null, vm := .none } : Cell) = H1
  have z1 : H1.size = H.size + 1 := by rw [← hH1, Array.size_push]
  have o1 : ∀ q : Nat, q < H.size → H1[q]? = H[q]? := fun q hq => by rw [← hH1, Array.getElem?_push, if_neg (Nat.ne_of_lt hq)]
  have e1 : H1[h + j]? = some (arrV cB n.toNatClampNeg (fun _ => .null)) := by rw [← hz, ← hH1, Array.getElem?_push_size, ← arrV_new]
  rw [show H.size = h + j from hz]
  exact kk H1 (aw_push hP hz e1 o1) (by omega) (aw_S hS (by omega) o1)
/-- an int into an array of a growing world -/
theorem p_iast (hx : p.tables.exec = Jvm.exec) (hb : c.code = cc) (hK : va_K D cl tys s) (hP : va_P D cl (aw h j E) H) (hz : H.size = h + j) (hS : va_S (fun q => h ≤ q) H0 H locs) (hi : i < j) (t0 : Nat) {cA : ClassId} {n : Nat} {f : Nat → Int32} (he : E i = .inl (cA, n, .inl f)) (ht : tys[t0]? = some (cA, .int)) {b x : Int32} {k : Nat} (hix : ix b n = some k) (hdg : decode cc pc = .ok (.iastore, 1))
    (kk : ∀ (H1 : Heap) (locs1 : List Loc), va_P D cl (aw h j (va_up E i (.inl (cA, n, .inl (upd f k x))))) H1 → H1.size = h + j → va_S (fun q => h ≤ q) H0 H1 locs1 → W p l e R s m args below meth c H1 locs1 cells slots Q (F0 m (pc + 1) ls rest)) : W p l e R s m args below meth c H locs cells slots Q (F0 m pc ls (.int x :: .int b :: .ref (h + i) :: rest)) := by
  obtain ⟨hin, rfl⟩ := ix_in hix
  refine W.iast hx hb (hP i _ (wl_to hi he)) ((hK.2 t0 _ ht).1 n (fun j => .int (f j))) (fun q => by cases q) (by show ¬ (b < 0 ∨ (arrV _ _ _).slots.size ≤ _); rw [arrV_size]; exact hin) rfl rfl hdg fun H1 e1 z oq => ?_
  refine kk H1 _ (aw_set hP hi ?_ oq) (by rw [z]; exact hz) (hS.put z oq (Nat.le_add_right _ _))
  show H1[h + i]? = some (vp_cell _ _)
  rw [e1, vp_cell_i, vp_cell_i, arrV_store]
  congr 2
  funext q
  by_cases hq : q = b.toNatClampNeg
  · subst hq
    simp [updV, upd]
  · simp [updV, upd, hq]
/-- an object into an array of objects -/
theorem p_aast (hx : p.tables.exec = Jvm.exec) (hb : c.code = cc) (hK : va_K D cl tys s) (hP : va_P D cl (aw h j E) H) (hz : H.size = h + j) (hS : va_S (fun q => h ≤ q) H0 H locs) (hi : i < j) (t0 ci : Nat) {i2 : Nat} (hi2 : i2 < j) {cA : ClassId} {r : vw_C} {n : Nat} {vs : List Value} {f : Nat → Option Nat} (he : E i = .inl (cA, n, .inr (.inr (.inr (.inr f))))) (ht : tys[t0]? = some (cA, .object r.1)) (hv : E i2 = .inr (ci, vs)) (hc : cl[ci]? = some r) {b : Int32} {k : Nat} (hix : ix b n = some k) (hdg : decode cc pc = .ok (.aastore, 1))
    (kk : ∀ (H1 : Heap) (locs1 : List Loc), va_P D cl (aw h j (va_up E i (.inl (cA, n, .inr (.inr (.inr (.inr (va_up f k (some (h + i2)))))))))) H1 → H1.size = h + j → va_S (fun q => h ≤ q) H0 H1 locs1 → W p l e R s m args below meth c H1 locs1 cells slots Q (F0 m (pc + 1) ls rest)) : W p l e R s m args below meth c H locs cells slots Q (F0 m pc ls (.ref (h + i2) :: .int b :: .ref (h + i) :: rest)) := by
  obtain ⟨hin, rfl⟩ := ix_in hix
  have hlt : b.toNatClampNeg < n := Nat.not_le.mp fun q => hin (Or.inr q)
  have h0 : ¬ b < 0 := fun q => hin (Or.inl q)
  obtain ⟨r', hr', cellV, g1, g2, g3, -⟩ := hP i2 _ (wl_to hi2 hv)
  have hcls := (hK.1 ci r hc).2
  obtain ⟨kA, comp, k1, k2, k3, -⟩ := (hK.2 t0 _ ht).2
  have hcomp : comp = D.1 ci := Option.some.inj (k3.symm.trans hcls.1)
  subst hcomp
  obtain ⟨kC, hkC, -⟩ := hcls.2
  refine W.aast hx hb (hP i _ (wl_to hi he)) (fun q h => by cases h) (fun h => by cases h) k1 k2 rfl hkC ⟨h0, by show _ < (arrV _ _ _).slots.size; rw [arrV_size]; exact hlt⟩ g1 (fun q h => by rw [g3] at h; cases h) (by rw [g2]; exact hkC) (by rw [g2]; exact va_assign hcls) rfl rfl hdg fun H1 e1 z oq => ?_
  refine kk H1 _ (aw_set hP hi ?_ oq) (by rw [z]; exact hz) (hS.put z oq (Nat.le_add_right _ _))
  show H1[h + i]? = some (vp_cell _ _)
  rw [e1, vp_cell_q, vp_cell_q, arrV_store]
  congr 2
  funext q
  by_cases hq : q = b.toNatClampNeg
  · subst hq
    simp [updV, va_up, va_rf]
  · simp [updV, va_up, hq]
/-- new int[n][k] -/
theorem p_mna {own : String} {index : Nat} (hx : p.tables.exec = Jvm.exec) (hb : c.code = cc) (hown : s.vm.findClass own = some m.cls) (hclink : (Cond.classLink own index "[[I").before args s = true) (hover : aoa s) (harr : (Cond.arrayClass .int).before args s = true) (hK : va_K D cl tys s) (hP : va_P D cl (aw h j E) H) (hz : H.size = h + j) (hS : va_S (fun q => h ≤ q) H0 H locs) {cA cy : ClassId} (ht0 : tys[0]? = some (cy, .int)) (ht1 : tys[1]? = some (cA, .array .int))
    {n k : Int32} {N' K' : Nat} (hn : ¬ n < 0) (hk : ¬ k < 0) (hN : n.toNatClampNeg = N') (hM : k.toNatClampNeg = K') (hb1 : N' * 4 ≤ 536870912) (hb2 : K' * 4 ≤ 536870912) (hcells : cells + (1 + N') ≤ R.cells) (hslots : slots + (N' + N' * K') ≤ R.slots) (hdg : decode cc pc = .ok (.multianewarray index 2, 4))
    (kk : ∀ H1 : Heap, va_P D cl (aw h (j + 1 + N') (fun a => if a = j then .inl (cA, N', .inr (.inr (.inr (.inr (fun i => if i < N' then some (h + (j + 1 + i)) else none))))) else if j < a then .inl (cy, K', .inl (fun _ => 0)) else E a)) H1 → H1.size = h + (j + 1 + N') → va_S (fun q => h ≤ q) H0 H1 locs →
      W p l e R s m args below meth c H1 locs (cells + 1 + N') (slots + N' + N' * K') Q (F0 m (pc + 4) ls (.ref (h + j) :: rest))) : W p l e R s m args below meth c H locs cells slots Q (F0 m pc ls (.int k :: .int n :: rest)) := by
  subst hN
  subst hM
  intro T hT Xs
  obtain ⟨vm₁, cB, comp, -, fA, fC, -, -, X', step⟩ := Xs.multianewarray2F hx (ty := .int) hown hclink hover harr (g := F0 m pc ls (.int k :: .int n :: rest)) rfl (by rw [hb]; exact hdg) rfl hn hk hb1 hb2 (by omega) rfl rfl hcells hslots
  have e1 : cB = cA := Option.some.inj (fA.symm.trans (hK.2 1 _ ht1).2)
  have e2 : comp = cy := Option.some.inj (fC.symm.trans (hK.2 0 _ ht0).2)
  subst e1; subst e2
  have hTh : (T.setVm vm₁).heap = H := hT
  obtain ⟨f1, f2, -, -⟩ := Jvm.Free.Multi.fill_facts (T.setVm vm₁) cB comp n.toNatClampNeg k.toNatClampNeg (defaultValue .int) n.toNatClampNeg
  have hold := fun x (hx9 : x < (T.setVm vm₁).heap.size) => Jvm.Free.Multi.fill_old (T.setVm vm₁) cB comp n.toNatClampNeg k.toNatClampNeg (defaultValue .int) (a := x) hx9 n.toNatClampNeg
  have hrow := fun i (hi9 : i < n.toNatClampNeg) => Jvm.Free.Multi.fill_inner (T.setVm vm₁) cB comp n.toNatClampNeg k.toNatClampNeg (defaultValue .int) n.toNatClampNeg i hi9
  generalize Jvm.Free.Multi.fill (T.setVm vm₁) cB comp n.toNatClampNeg k.toNatClampNeg (defaultValue .int) n.toNatClampNeg = F at X' step f1 f2 hold hrow
  rw [hTh] at f1 f2
  have hout : Jvm.Free.Multi.outerC cB n.toNatClampNeg H.size n.toNatClampNeg = vp_cell cB (n.toNatClampNeg, .inr (.inr (.inr (.inr (fun i => if i < n.toNatClampNeg then some (h + (j + 1 + i)) else none))))) := by
    rw [vp_cell_q, gr_outer, hz]
    congr 1
    funext i
    rw [show h + j + 1 + i = h + (j + 1 + i) by omega]
  have o1 : ∀ q : Nat, q < H.size → F.heap[q]? = H[q]? := fun q hq => by
    have := hold q (by rw [hTh]; exact hq)
    rw [hTh] at this
    exact this
  have hP1 : va_P D cl (aw h (j + 1 + n.toNatClampNeg) (fun a => if a = j then .inl (cB, n.toNatClampNeg, .inr (.inr (.inr (.inr (fun i => if i < n.toNatClampNeg then some (h + (j + 1 + i)) else none))))) else if j < a then .inl (comp, k.toNatClampNeg, .inl (fun _ => 0)) else E a)) F.heap := by
    intro a q ha
    obtain ⟨ha9, rfl⟩ := wl_get ha
    by_cases e1 : a = j
    · subst e1
      rw [if_pos rfl]
      show F.heap[h + a]? = some (vp_cell _ _)
      rw [← hout, ← hz]
      exact f2
    · rw [if_neg e1]
      by_cases e2 : j < a
      · rw [if_pos e2]
        show F.heap[h + a]? = some (vp_cell _ _)
        have := hrow (a - j - 1) (by omega)
        rw [hTh, hz, show h + j + 1 + (a - j - 1) = h + a by omega] at this
        rw [this, vp_cell_i]
        exact congrArg some (arrV_new comp k.toNatClampNeg (.int 0))
      · rw [if_neg e2]
        have h9 := hP a _ (wl_at (show a < j by omega))
        exact h9.kept (o1 _ h9.lt)
  obtain ⟨t, a1, b1⟩ := kk F.heap hP1 (by rw [f1]; omega) (aw_S hS (by rw [f1]; omega) o1) F rfl X'
  refine ⟨t, ?_, b1⟩
  rw [← hz, ← hT] at a1
  exact step t a1
end PR
