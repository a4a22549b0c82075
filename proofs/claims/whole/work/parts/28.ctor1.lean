/-! constructors' contracts: from the cells j at h on to more of them; what the new ones hold, by a predicate -/
def ctB (D : va_G) (G : Nat → ClassId) (h j : Nat) (E : Nat → va_E) (U : State) : Prop := U.heap.size = h + j ∧ va_P D cls (aw h j E) U.heap ∧ va_K D cls (tyL G) U ∧ kz U
def ctQ (D : va_G) (h j : Nat) (Sp : (Nat → va_E) → Prop) : Array Value → State → Outcome → State → Prop := fun _ st o t =>
  o = .returned none ∧ ∃ E : Nat → va_E, Sp E ∧ t.heap.size = h + j ∧ va_P D cls (aw h j E) t.heap ∧ va_F (fun q => h ≤ q) st t
theorem ctB_blind {D : va_G} {G : Nat → ClassId} {h j : Nat} {E : Nat → va_E} {av : List Value} : FrameBlind (va_Pc av (ctB D G h j E)) := fun a U g mk q =>
  ⟨q.1, q.2.1, q.2.2.1, va_K.moved (u := U) (U := U.calling g mk a) (Vm.Alike.refl U.vm) q.2.2.2.1, kz_warm (State.WarmedH.refl U) q.2.2.2.2⟩
theorem ctB_pre {D : va_G} {G : Nat → ClassId} {h j : Nat} {E : Nat → va_E} {s : State} {H : Heap} (hz : H.size = h + j) (hP : va_P D cls (aw h j E) H) (hK : va_K D cls (tyL G) s) (hk : kz s) (U : State) (hU : U.heap = H) (hW : s.WarmedH U.vm) : ctB D G h j E U :=
  ⟨by rw [hU]; exact hz, by rw [hU]; exact hP, va_K.moved hW.alike hK, kz_warm hW hk⟩
section KI
variable {p : Program} {l : Launch} {e : Env} {R : Room} {s : State} {m : MethodId} {args : Array Value} {below : List Frame} {meth : Method} {c : Code} {H : Heap} {locs : List Loc} {cells slots mc ms : Nat} {Q : State → Prop}
variable {cc : ByteArray} {pc : Nat} {ls : Array Slot} {rest st0 : List Value} {a : Array Value} {H0 : Heap} {D : va_G} {h j : Nat} {Sp : (Nat → va_E) → Prop}
variable {y : MethodName} {bytes : ByteArray} {maxL n index nL : Nat} {ret : Option FieldType} {rm : Room} {B : State → Prop} {Qc : Array Value → State → Outcome → State → Prop} {free : Addr → Prop} {own host : String} {b : Nat} {As : List Value}
theorem k_metC {av : List Value} (hy : plainName y.cls = true) (hav : (lg_sl av).length ≤ maxL)
    (body : ∀ (p : Program) (e : Env) (s : State) (m : MethodId) (args : Array Value) (below : List Frame) (meth : Method) (c : Code), CallFix p m c cc maxL s args WS y.cls → meth.name = y.name → meth.sig.returnType = ret → meth.locks = false → B s → ∀ ls : Array Slot, lv_has ls maxL (lv_args 0 av) →
      W p l e rm s m args below meth c s.heap [] 0 0 (MQ below Qc args s mc ms free) (F0 m 0 ls [])) : Met l y (wc y cc maxL ret) rm (va_Pc av B) Qc mc ms free := by
  refine Met.ofW (cc := cc) (maxL := maxL) (ret := ret) hy rfl ?_
  intro p e s m args below meth c s₁ B0 hml hv
  obtain ⟨rfl, hB⟩ := hv
  have hts := atoms_spec (ws := wc y cc maxL ret) B0.pre
  have hl := lv_entry av (n := maxL) hav
  rw [lg_entry_eq]
  generalize (lg_sl av ++ List.replicate (maxL - (lg_sl av).length) Slot.unset).toArray = ls at hl ⊢
  exact body p e s m _ below meth c ⟨B0.exec, B0.bytes, hml, findClass_of_methodNamed B0.named, fun w hw => hts w (List.mem_cons_of_mem _ hw)⟩ (name_of_methodNamed B0.named B0.method).1 B0.returns B0.notSynchronized hB ls hl
theorem k_ini (S : CallFix p m c cc nL s args WS own) (hM : Met l y (wc y bytes maxL none) rm (va_Pc (.ref b :: As) B) Qc mc ms free) (hcw : Cond.code y bytes maxL none ∈ WS) (hini : Cond.initialized y.cls ∈ WS) (hl : Cond.methodLink own index y ∈ WS) (him : Cond.instanceMethod y ∈ WS) (hy1 : y.name = "<init>")
    (hd : y.cls ≠ "java/lang/invoke/MethodHandle" ∧ y.cls ≠ "java/lang/invoke/VarHandle" ∧ (parseMethodDescriptor y.desc).map (fun d => d.parameters.length) = some n) (hr0 : rm.cells = mc ∧ rm.slots = ms) (hR : rm.frames + 1 ≤ R.frames ∧ 8 + (maxL + 11) + rm.locals ≤ R.locals)
    (hbl : FrameBlind (va_Pc (.ref b :: As) B)) (hB : ∀ U : State, U.heap = H → s.WarmedH U.vm → B U) (hn : As.length = n) (hsz : ls.size = nL) (hst : st0 = As.reverse ++ .ref b :: rest) (hcat : (rest.map fun v => v.category).sum ≤ 8) (hdg : decode cc pc = .ok (.invokespecial index, 3)) (hc : cells + mc ≤ R.cells) (hs : slots + ms ≤ R.slots) :
    va_Run p l e R s m args below meth c H locs cells slots mc ms (F0 m pc ls st0) rest (Qc (Value.ref b :: As).toArray) free :=
  va_runI S hM (cwI n S.2.2.2.2 (ws_good (wc_in hcw)) rfl hr0.1 hr0.2 (S.2.2.2.2 _ hini) (S.2.2.2.2 _ hl) (S.2.2.2.2 _ him) hy1 hd hR) ⟨hbl, fun U h1 h2 => ⟨rfl, hB U h1 h2⟩⟩ rfl hn hsz hst (lv_room hcat) hdg ⟨hc, hs⟩
theorem k_iniN (S : CallFix p m c cc nL s args WS own) (hM : Met l y (wc y bytes maxL none) rm (va_Pc (.ref b :: As) B) Qc mc ms free) (hcw : Cond.code y bytes maxL none ∈ WS) (hini : Cond.initialized y.cls ∈ WS) (hl : va_Nw (.methodLinkNest own index y host) s) (him : Cond.instanceMethod y ∈ WS) (hy1 : y.name = "<init>")
    (hd : y.cls ≠ "java/lang/invoke/MethodHandle" ∧ y.cls ≠ "java/lang/invoke/VarHandle" ∧ (parseMethodDescriptor y.desc).map (fun d => d.parameters.length) = some n) (hr0 : rm.cells = mc ∧ rm.slots = ms) (hR : rm.frames + 1 ≤ R.frames ∧ 8 + (maxL + 11) + rm.locals ≤ R.locals)
    (hbl : FrameBlind (va_Pc (.ref b :: As) B)) (hB : ∀ U : State, U.heap = H → s.WarmedH U.vm → B U) (hn : As.length = n) (hsz : ls.size = nL) (hst : st0 = As.reverse ++ .ref b :: rest) (hcat : (rest.map fun v => v.category).sum ≤ 8) (hdg : decode cc pc = .ok (.invokespecial index, 3)) (hc : cells + mc ≤ R.cells) (hs : slots + ms ≤ R.slots) :
    va_Run p l e R s m args below meth c H locs cells slots mc ms (F0 m pc ls st0) rest (Qc (Value.ref b :: As).toArray) free :=
  va_runIN S hM ⟨va_cnB n S.2.2.2.2 (ws_good (wc_in hcw)) rfl hr0.1 hr0.2 hl (S.2.2.2.2 _ hini) hd hR, hy1, S.2.2.2.2 _ him⟩ ⟨hbl, fun U h1 h2 => ⟨rfl, hB U h1 h2⟩⟩ rfl hn hsz hst (lv_room hcat) hdg ⟨hc, hs⟩
/-- behind a constructor, or a call that fills an array of a growing world -/
theorem k_ct (hr : va_Run p l e R s m args below meth c H locs cells slots mc ms (F0 m pc ls st0) rest (ctQ D h j Sp a) (fun q => h ≤ q)) (hS : va_S (fun q => h ≤ q) H0 H locs)
    (kk : ∀ (E : Nat → va_E) (H1 : Heap) (locs1 : List Loc), Sp E → va_P D cls (aw h j E) H1 → H1.size = h + j → va_S (fun q => h ≤ q) H0 H1 locs1 → W p l e R s m args below meth c H1 locs1 (cells + mc) (slots + ms) Q (F0 m (pc + 3) ls rest)) : W p l e R s m args below meth c H locs cells slots Q (F0 m pc ls st0) := by
  intro T hT X
  obtain ⟨v, st₀, t, T', L, h0, X', hL, e1, e2, ⟨hv, E, hE, hz, hp, hz2, hk⟩, st⟩ := hr T hT X
  cases hv
  rw [h0] at hz2 hk
  obtain ⟨t2, a1, b1⟩ := kk E T'.heap (locs ++ L) hE (by rw [e1]; exact hp) (by rw [e1]; exact hz)
    ⟨Nat.le_trans hS.1 (by rw [e1]; exact hz2), fun q h1 h2 => by rw [e1, hk q (Nat.lt_of_lt_of_le h1 hS.1) h2]; exact hS.2.1 q h1 h2, fun q hq => by
      rcases List.mem_append.mp hq with h9 | h9
      · exact hS.2.2 q h9
      · exact hL q h9⟩ T' rfl X'
  exact ⟨t2, st t2 a1, b1⟩
theorem i_ret {E : Nat → va_E} (hx : p.tables.exec = Jvm.exec) (hb : c.code = cc) (hr : meth.sig.returnType = none) (hlk : meth.locks = false) (hE : Sp E) (hz : H.size = h + j) (hP : va_P D cls (aw h j E) H) (hS : va_S (fun q => h ≤ q) s.heap H locs) (hdg : decode cc pc = .ok (.return_, 1)) : W p l e R s m args below meth c H locs cells slots (MQ below (ctQ D h j Sp) args s cells slots (fun q => h ≤ q)) (F0 m pc ls []) :=
  W.vret hx hb hr (fun t ht hW => ⟨rfl, E, hE, by rw [ht]; exact hz, by rw [ht]; exact hP, hS.F ht⟩) hS.2.2 hdg hlk
end KI
