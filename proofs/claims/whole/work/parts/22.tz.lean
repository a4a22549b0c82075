/-! what a throw needs beside the good words: the two statics, names that are declared, casts, three texts; all of it holds on while no cell below h0 changes -/
abbrev exI : String := "java/lang/IllegalArgumentException"
abbrev exN : String := "java/util/NoSuchElementException"
abbrev exR : String := "java/lang/RuntimeException"
abbrev exL : List String := ["java/lang/Exception"]
abbrev ebI : ByteArray := prog_9_method_2_code
abbrev ebN : ByteArray := prog_17_method_4_code
theorem ebI_0 : decode ebI 0 = .ok (.aload_n 0, 1) := by decide +kernel
theorem ebI_1 : decode ebI 1 = .ok (.aload_n 1, 1) := by decide +kernel
theorem ebI_2 : decode ebI 2 = .ok (.invokespecial 7, 3) := by decide +kernel
theorem ebI_5 : decode ebI 5 = .ok (.return_, 1) := by decide +kernel
theorem ebN_0 : decode ebN 0 = .ok (.aload_n 0, 1) := by decide +kernel
theorem ebN_1 : decode ebN 1 = .ok (.aload_n 1, 1) := by decide +kernel
theorem ebN_2 : decode ebN 2 = .ok (.invokespecial 13, 3) := by decide +kernel
theorem ebN_5 : decode ebN 5 = .ok (.return_, 1) := by decide +kernel
abbrev tx1 : String := "a number that there is not"
abbrev tx2 : String := "twice the same router"
abbrev tx3 : String := "the packet was at no such router"
def tzX (U : State) : Prop := (va_Nw (.declares (Bundle.initS "java/lang/RuntimeException")) U ∧ va_Nw (.declares (Bundle.initS "java/lang/Exception")) U ∧ va_Nw (.declares (Bundle.initS Bundle.tN)) U) ∧ (va_Nw (.castable exI exI) U ∧ va_Nw (.castable exN exN) U) ∧
  (∃ sa, vk_R "LabelRoads" 155 tx1 sa U) ∧ (∃ sa, vk_R "LabelRoads" 160 tx2 sa U) ∧ ∃ sa, vk_R "LabelRoads" 164 tx3 sa U
theorem tzX_warm {s U : State} (hW : s.WarmedH U.vm) (h : tzX s) : tzX U := by
  obtain ⟨⟨h1, h2, h3⟩, ⟨h4, h5⟩, ⟨s1, h6⟩, ⟨s2, h7⟩, s3, h8⟩ := h
  exact ⟨⟨h1.warmD hW, h2.warmD hW, h3.warmD hW⟩, ⟨h4.warmC hW, h5.warmC hW⟩, ⟨s1, h6.warm hW⟩, ⟨s2, h7.warm hW⟩, s3, h8.warm hW⟩
def tz (h0 : Nat) (U : State) : Prop := vx_Zq Bundle.tN "UNASSIGNED_STACK" Bundle.steD (fun q => h0 ≤ q) U U.heap ∧ vx_Zq Bundle.tN "SUPPRESSED_SENTINEL" Bundle.listD (fun q => h0 ≤ q) U U.heap ∧ tzX U
theorem tz_move {h0 : Nat} {s U : State} (h : tz h0 s) (hW : s.WarmedH U.vm) (hh : ∀ q : Nat, q < h0 → U.heap[q]? = s.heap[q]?) : tz h0 U :=
  ⟨vx_Zq.moved hW.alike (h.1.kept (fun a _ ha => hh a (Nat.not_le.mp ha))), vx_Zq.moved hW.alike (h.2.1.kept (fun a _ ha => hh a (Nat.not_le.mp ha))), tzX_warm hW h.2.2⟩
theorem tz_pre {h0 : Nat} {s : State} (h : tz h0 s) (U : State) (hU : U.heap = s.heap) (hW : s.WarmedH U.vm) : tz h0 U := tz_move h hW (fun q _ => by rw [hU])
theorem tz_call {h0 : Nat} {U : State} {g : JFrame} {mk : MethodId} {a : Array Value} (h : tz h0 U) : tz h0 (U.calling g mk a) := tz_move h (State.WarmedH.refl U) (fun _ _ => rfl)
theorem tz_blind {h0 : Nat} {av : List Value} : FrameBlind (va_Pc av (tz h0)) := fun _ _ _ _ h => ⟨h.1, tz_call h.2⟩
def zB (h0 : Nat) (D : va_G) (n : Nat) (ad : Nat → Nat) (G : Nat → ClassId) (M : Mem) (U : State) : Prop := cB D n ad G M U ∧ tz h0 U
theorem zB_blind {h0 : Nat} {D : va_G} {n : Nat} {ad : Nat → Nat} {G : Nat → ClassId} {M : Mem} {av : List Value} : FrameBlind (va_Pc av (zB h0 D n ad G M)) := fun a U g mk h =>
  ⟨h.1, (wl_blind (av := av) a U g mk ⟨h.1, h.2.1⟩).2, tz_call h.2.2⟩
theorem zB_pre {h0 : Nat} {D : va_G} {n : Nat} {ad : Nat → Nat} {G : Nat → ClassId} {M : Mem} {s : State} {A : Nat → Prop} (hP : va_P D cls (cW n ad G M) s.heap) (hK : va_K D cls (tyL G) s) (hA : wl_ok A (cK n) ad) (hZ : tz h0 s) (U : State) (hU : U.heap = s.heap) (hW : s.WarmedH U.vm) : zB h0 D n ad G M U :=
  ⟨wl_pre hP hK hA U hU hW, tz_pre hZ U hU hW⟩
theorem tz_s1 {h0 : Nat} {s : State} (h : tz h0 s) : ∃ sa, vk_R "LabelRoads" 155 tx1 sa s := h.2.2.2.2.1
theorem tz_s2 {h0 : Nat} {s : State} (h : tz h0 s) : ∃ sa, vk_R "LabelRoads" 160 tx2 sa s := h.2.2.2.2.2.1
theorem tz_s3 {h0 : Nat} {s : State} (h : tz h0 s) : ∃ sa, vk_R "LabelRoads" 164 tx3 sa s := h.2.2.2.2.2.2
theorem vk_use {own tx : String} {k a : Nat} {A : Array Value} {U : State} (h : vk_R own k tx a U) : (Cond.stringRef own k tx).before A U = true ∧ (Term.string own k).eval A U none [] U = some (.ref a) := h
theorem ob_n {α : Type} {f : α → Option Unit} {u : α} (h : (some u).bind f = none) : f u = none := h
/-- the words of a throw but those that speak of the heap: good ones of the tables, or declared names and casts -/
def thX : List Cond := [.declares (Bundle.initS "java/lang/RuntimeException"), .declares (Bundle.initS "java/lang/Exception"), .declares (Bundle.initS Bundle.tN), .castable exI exI, .castable exN exN]
theorem thX_ok {h0 : Nat} {s : State} {args : Array Value} (h : tz h0 s) : ∀ w ∈ thX, w.before args s = true := by
  obtain ⟨⟨h1, h2, h3⟩, ⟨h4, h5⟩, -⟩ := h.2.2
  intro w hw
  simp only [thX, List.mem_cons, List.not_mem_nil, or_false] at hw
  rcases hw with rfl | rfl | rfl | rfl | rfl
  · exact h1.use rfl
  · exact h2.use rfl
  · exact h3.use rfl
  · exact h4.use rfl
  · exact h5.use rfl
theorem thI_in : ∀ w ∈ (thAtoms "LabelRoads" 157 exI exR 7 ebI exL).filter vx_no, w ∈ WS ∨ w ∈ thX := by decide +kernel
theorem thN_in : ∀ w ∈ (thAtoms "LabelRoads" 166 exN exR 13 ebN exL).filter vx_no, w ∈ WS ∨ w ∈ thX := by decide +kernel
theorem tz_own {h0 : Nat} {s : State} {args : Array Value} {L : List Cond} (hts : ∀ w ∈ WS, w.before args s = true) (h : tz h0 s) (hL : ∀ w ∈ L.filter vx_no, w ∈ WS ∨ w ∈ thX) : ∀ w ∈ L, w.before args s = true :=
  vx_own (fun w hw => (hL w hw).elim (hts w) (thX_ok h w)) (vx_isRefq h.1.1) (vx_isRefq h.2.1.1) h.1.2.word h.2.1.2.word
theorem tz_atI {h0 : Nat} {s : State} {args : Array Value} (hts : ∀ w ∈ WS, w.before args s = true) (h : tz h0 s) : ∀ w ∈ thAtoms "LabelRoads" 157 exI exR 7 ebI exL, w.before args s = true := tz_own hts h thI_in
theorem tz_atN {h0 : Nat} {s : State} {args : Array Value} (hts : ∀ w ∈ WS, w.before args s = true) (h : tz h0 s) : ∀ w ∈ thAtoms "LabelRoads" 166 exN exR 13 ebN exL, w.before args s = true := tz_own hts h thN_in
theorem cx_153 : Cond.classLink "LabelRoads" 153 exI ∈ WS := ws_t 183 (by decide +kernel) (by decide +kernel)
theorem ci_I : Cond.initialized exI ∈ WS := ws_t 12 (by decide +kernel) (by decide +kernel)
theorem cx_162 : Cond.classLink "LabelRoads" 162 exN ∈ WS := ws_t 571 (by decide +kernel) (by decide +kernel)
theorem ci_N : Cond.initialized exN ∈ WS := ws_t 15 (by decide +kernel) (by decide +kernel)
