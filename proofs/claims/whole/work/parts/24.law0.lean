/-! the law's helpers: an object's call, its answer into a cell of its own, or 1 where it throws -/
abbrev wh (y : MethodName) (b : ByteArray) (n : Nat) (r : Option FieldType) (hh : List (Nat × Nat × Nat × Nat)) : List Cond := Cond.codeWith y b n r hh :: WS
theorem wh_good {own : String} {idx : Nat} {y : MethodName} {b : ByteArray} {n : Nat} {r : Option FieldType} {hh : List (Nat × Nat × Nat × Nat)} (h1 : Cond.methodLink own idx y ∈ WS) (h2 : Cond.static y ∈ WS) (h4 : Cond.initialized y.cls ∈ WS) (h5 : Cond.codeWith y b n r hh ∈ WS) : GoodIn WS (va_wsS own idx y (wh y b n r hh)) := by
  refine ws_good fun w hw => ?_
  rcases List.mem_append.mp hw with hw | hw
  · simp only [List.mem_cons, List.not_mem_nil, or_false] at hw
    rcases hw with rfl | rfl | rfl <;> assumption
  · rcases List.mem_cons.mp hw with rfl | hw
    · exact h5
    · exact hw
section KW
variable {p : Program} {l : Launch} {e : Env} {R : Room} {s : State} {m : MethodId} {args : Array Value} {below : List Frame} {meth : Method} {c : Code} {H : Heap} {locs : List Loc} {cells slots mc ms : Nat} {Q : State → Prop}
variable {cc : ByteArray} {pc : Nat} {ls : Array Slot} {rest st0 : List Value}
variable {y : MethodName} {bytes : ByteArray} {maxL n index nL : Nat} {ret : Option FieldType} {hh : List (Nat × Nat × Nat × Nat)} {rm : Room} {B : State → Prop} {Qc : Array Value → State → Outcome → State → Prop} {free : Addr → Prop} {own : String} {As : List Value}
theorem k_metW {av : List Value} (hy : plainName y.cls = true) (hav : (lg_sl av).length ≤ maxL)
    (body : ∀ (p : Program) (e : Env) (s : State) (m : MethodId) (args : Array Value) (below : List Frame) (meth : Method) (c : Code), CallFix p m c cc maxL s args WS y.cls → c.exceptionTable.toList = tableOf hh → meth.sig.returnType = ret → meth.locks = false → B s → ∀ ls : Array Slot, lv_has ls maxL (lv_args 0 av) →
      W p l e rm s m args below meth c s.heap [] 0 0 (MQ below Qc args s mc ms free) (F0 m 0 ls [])) : Met l y (wh y cc maxL ret hh) rm (va_Pc av B) Qc mc ms free := by
  refine va_MetW (cc := cc) (maxL := maxL) (ret := ret) (hh := hh) hy rfl ?_
  intro p e s m args below meth c s₁ B0 hml hv
  obtain ⟨rfl, hB⟩ := hv
  have hts := atoms_spec (ws := wh y cc maxL ret hh) B0.pre
  have htab : c.exceptionTable.toList = tableOf hh := by
    obtain ⟨m9, meth9, c9, hn9, h1, h2, -, -, h6, -⟩ := Cond.codeWith_spec (hts _ List.mem_cons_self)
    cases Option.some.inj (hn9.symm.trans B0.named)
    cases Option.some.inj (h1.symm.trans B0.method)
    cases Option.some.inj (h2.symm.trans (Stand.of_body B0).code)
    rw [← h6, table_eq]
  have hl := lv_entry av (n := maxL) hav
  rw [lg_entry_eq]
  generalize (lg_sl av ++ List.replicate (maxL - (lg_sl av).length) Slot.unset).toArray = ls at hl ⊢
  exact body p e s m _ below meth c ⟨B0.exec, B0.bytes, hml, findClass_of_methodNamed B0.named, fun w hw => hts w (List.mem_cons_of_mem _ hw)⟩ htab B0.returns B0.notSynchronized hB ls hl
/-- a static call of a method with a table of its own -/
theorem k_staW (S : CallFix p m c cc nL s args WS own) (hM : Met l y (wh y bytes maxL ret hh) rm (va_Pc As B) Qc mc ms free) (hG : GoodIn WS (va_wsS own index y (wh y bytes maxL ret hh)))
    (hd : y.cls ≠ "java/lang/invoke/MethodHandle" ∧ y.cls ≠ "java/lang/invoke/VarHandle" ∧ (parseMethodDescriptor y.desc).map (fun d => d.parameters.length) = some n) (hr0 : rm.cells = mc ∧ rm.slots = ms) (hR : rm.frames + 1 ≤ R.frames ∧ 8 + (maxL + 11) + rm.locals ≤ R.locals)
    (hbl : FrameBlind (va_Pc As B)) (hB : ∀ U : State, U.heap = H → s.WarmedH U.vm → B U)
    (hn : As.length = n) (hsz : ls.size = nL) (hst : st0 = As.reverse ++ rest) (hcat : (rest.map fun v => v.category).sum ≤ 8) (hdg : decode cc pc = .ok (.invokestatic index, 3)) (hc : cells + mc ≤ R.cells) (hs : slots + ms ≤ R.slots) :
    va_Run p l e R s m args below meth c H locs cells slots mc ms (F0 m pc ls st0) rest (Qc As.toArray) free := by
  obtain ⟨hx, hb, hml, hown, hts⟩ := S
  have ok : ∀ w ∈ va_wsS own index y (wh y bytes maxL ret hh), w.before args s = true := fun w h => hts w (hG w h).1
  have hG' : GoodIn WS (wh y bytes maxL ret hh) := fun w h => hG w (by unfold va_wsS; exact List.mem_append_right _ h)
  have hcode : (Cond.codeWith y bytes maxL ret hh).before args s = true := hts _ (hG' _ List.mem_cons_self).1
  have hini : (Cond.initialized y.cls).before args s = true := ok _ (by simp [va_wsS])
  have hK : Back l R p e below s args y 3 8 (PreOf R mc ms (va_Pc As B)) (PostOf Qc mc ms free) := va_backW (hh := hh) (bytes := bytes) (maxL := maxL) (ret := ret) hM hbl hr0.1 hr0.2 hR.1 hR.2 (pay_in hts hG') List.mem_cons_self (fun a' U hW => word_at hW (Or.inl (by first | rfl | simp [Cond.onTables, Cond.keeps, Cond.steady])) hini)
  intro T hT X
  obtain ⟨mk, methM, cM, hnamed, hmethM, -, -, -, -, -, -, hsigM⟩ := Cond.codeWith_spec hcode
  have hstatic : methM.isStatic = true := Cond.static_spec hnamed hmethM (ok _ (by simp [va_wsS]))
  obtain ⟨kP, hkP, -⟩ := className_of_methodNamed hnamed
  have hinitP : kP.init = .initialized := Cond.initialized_spec (findClass_of_methodNamed hnamed) hkP hini
  have hlen : As.length = methM.sig.parameters.length := by
    have h2 := hd.2.2
    rw [hsigM] at h2
    rw [hn]
    exact (Option.some.inj h2).symm
  obtain ⟨vm₁, X₁, hstep⟩ := X.invokestatic hx hown (ok (Cond.methodLink own index y) (by simp [va_wsS])) hnamed hmethM hstatic hkP hinitP ⟨hd.1, hd.2.1⟩ (g := F0 m pc ls st0) rfl (argsL := As) (rest := rest) hlen hst (by rw [hb]; exact hdg)
  obtain ⟨v, ⟨U', l2, c2, s2⟩, X', ⟨g', mk', t, L, e1, e2, hq, h1, hL, h2, h3⟩, st⟩ := hK m meth c ⟨T.setVm vm₁, locs, cells, slots⟩ (F0 m pc ls rest) (.invokestatic index) mk As.toArray X₁ rfl (hsz.trans hml.symm) (by rw [hb]; exact hdg) (lv_room hcat) (X₁.named hnamed) ⟨hc, hs, rfl, hB _ hT X₁.warmed⟩
  dsimp only [Pt.U, Pt.locs, Pt.cells, Pt.slots] at X' e1 e2 h1 h2 h3 st
  subst h1; subst h2; subst h3
  exact ⟨v, (T.setVm vm₁).calling g' mk' As.toArray, t, U', L, hT, X', hL, e1, e2, hq, fun target h => hstep _ fun acts => by rw [doInvoke_state]; exact st.trans h⟩
end KW
/-! one cell more beside a world -/
section OC
variable {D : va_G} {cl : List vw_C} {K o : Nat} {ad : Nat → Nat} {en : Nat → va_E} {x y : va_E} {H : Heap} {A : Nat → Prop}
theorem o_get : (wl K ad en ++ [(o, x)])[K]? = some (o, x) := by
  rw [List.getElem?_append_right (by rw [wl_len]; exact Nat.le_refl _), wl_len, Nat.sub_self]
  rfl
theorem o_set : (wl K ad en ++ [(o, x)]).set K (o, y) = wl K ad en ++ [(o, y)] := by
  rw [List.set_append_right _ _ (by rw [wl_len]; exact Nat.le_refl _), wl_len, Nat.sub_self]
  rfl
theorem o_one {q : Nat × va_E} {k : Nat} (h : ([(o, x)] : va_W)[k]? = some q) : q = (o, x) := by
  have h0 := (List.getElem?_eq_some_iff.mp h).1
  simp only [List.length_cons, List.length_nil] at h0
  have e : k = 0 := by omega
  subst e
  exact (Option.some.inj h).symm
theorem o_D (h : wl_ok A K ad) (ho : ∀ k, k < K → ad k ≠ o) (hA : A o) : va_D A (wl K ad en ++ [(o, x)]) := by
  refine va_D.app (wl_D h) ⟨fun i j p q hi hj _ => ?_, fun k q hk => by rw [o_one hk]; exact hA⟩ (fun i j p q hi hj => ?_)
  · have h1 := (List.getElem?_eq_some_iff.mp hi).1
    have h2 := (List.getElem?_eq_some_iff.mp hj).1
    simp only [List.length_cons, List.length_nil] at h1 h2
    omega
  · obtain ⟨hk, rfl⟩ := wl_get hi
    rw [o_one hj]
    exact ho i hk
theorem o_left (h : va_P D cl (wl K ad en ++ [(o, x)]) H) : va_P D cl (wl K ad en) H := fun k q hk => h k q (by rw [List.getElem?_append_left (List.getElem?_eq_some_iff.mp hk).1]; exact hk)
theorem o_right (h : va_P D cl (wl K ad en ++ [(o, x)]) H) : va_P D cl [(o, x)] H := fun k q hk => by
  rw [o_one hk]
  exact h K _ o_get
end OC
def oA (n : Nat) (ad : Nat → Nat) (o : Nat) : Nat → Prop := fun q => wl_A (cK n) ad q ∨ q = o
def oB (h0 : Nat) (D : va_G) (n : Nat) (ad : Nat → Nat) (G : Nat → ClassId) (M : Mem) (o : Nat) (v : Nat → Int64) (U : State) : Prop := zB h0 D n ad G M U ∧ va_P D cls [(o, .inl (G 4, 1, .inr (.inl v)))] U.heap ∧ ∀ k, k < cK n → ad k ≠ o
theorem oB_blind {h0 : Nat} {D : va_G} {n : Nat} {ad : Nat → Nat} {G : Nat → ClassId} {M : Mem} {o : Nat} {v : Nat → Int64} {av : List Value} : FrameBlind (va_Pc av (oB h0 D n ad G M o v)) := fun a U g mk h =>
  ⟨h.1, (zB_blind (av := av) a U g mk ⟨h.1, h.2.1⟩).2, h.2.2⟩
def okQ (D : va_G) (n : Nat) (ad : Nat → Nat) (G : Nat → ClassId) (M : Mem) (o : Nat) (v : Nat → Int64) : Array Value → State → Outcome → State → Prop := fun _ st r t =>
  r = .returned (some (.int 0)) ∧ va_P D cls (cW n ad G M) t.heap ∧ va_P D cls [(o, .inl (G 4, 1, .inr (.inl v)))] t.heap ∧ va_F (oA n ad o) st t
def noQ : Array Value → State → Outcome → State → Prop := fun _ st r t => r = .returned (some (.int 1)) ∧ st.heap.size ≤ t.heap.size ∧ ∀ q : Nat, q < st.heap.size → t.heap[q]? = st.heap[q]?
theorem oA_ok {A : Nat → Prop} {n o : Nat} {ad : Nat → Nat} (h : wl_ok A (cK n) ad) : wl_ok (oA n ad o) (cK n) ad := ⟨h.1, fun k hk => Or.inl ⟨k, hk, rfl⟩⟩
theorem one_kept {D : va_G} {cl : List vw_C} {o : Nat} {x : va_E} {H H1 : Heap} {A : Nat → Prop} (h : va_P D cl [(o, x)] H) (hk : ∀ q : Nat, q < H.size → ¬ A q → H1[q]? = H[q]?) (ho : ¬ A o) : va_P D cl [(o, x)] H1 :=
  h.kept (fun k q hq => by rw [o_one hq]; exact hk o ((h 0 _ rfl).lt) ho)
theorem oA_not {n o : Nat} {ad : Nat → Nat} (ho : ∀ k, k < cK n → ad k ≠ o) : ¬ wl_A (cK n) ad o := fun ⟨k, hk, e⟩ => ho k hk e
