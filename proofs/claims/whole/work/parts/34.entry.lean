/-! what holds at the law's entry: the classes and arrays by their numbers, what constructors need, what a throw needs -/
theorem en_arr {args : Array Value} {s : State} {ty : FieldType} (h : (Cond.arrayClass ty).before args s = true) : ∃ cA : ClassId, ArrOfT s cA ty ∧ s.vm.findClass ("[" ++ ty.toString) = some cA := by
  obtain ⟨c, k, comp, h1, h2, h3⟩ := Cond.arrayClass_spec h
  exact ⟨c, fun n z => ⟨fun k h => (by cases h), k, h2, comp, h3⟩, h1⟩
theorem en_K {args : Array Value} {s : State} (hts : ∀ w ∈ lw_tbl, w.before args s = true) : ∃ (D : va_G) (G : Nat → ClassId), va_K D cls (tyL G) s := by
  have hw : ∀ w ∈ WS, w.before args s = true := fun w h => hts w (List.mem_filter.mp h).1
  obtain ⟨c0, i0, u0⟩ := u_known hw in_LR (hw _ cn_LR)
  obtain ⟨c1, i1, u1⟩ := u_known hw in_Ways (hw _ cn_Ways)
  obtain ⟨c2, i2, u2⟩ := u_known hw in_Mail (hw _ cn_Mail)
  obtain ⟨c3, i3, u3⟩ := u_known hw in_Router (hw _ cn_Router)
  obtain ⟨c4, i4, u4⟩ := u_known hw in_Packet (hw _ cn_Packet)
  obtain ⟨c5, i5, u5⟩ := u_known hw in_Model (hw _ cn_Model)
  obtain ⟨g0, a0, b0⟩ := en_arr (hw _ ac_int)
  obtain ⟨g3, a3, b3⟩ := en_arr (hw _ ac_boolean)
  obtain ⟨g4, a4, b4⟩ := en_arr (hw _ ac_long)
  obtain ⟨comp1, g1, k1, -, -, x1, x2, b1⟩ := arrayOver_specB (hts (.arrayOver (.array .int)) (by decide +kernel))
  obtain ⟨comp2, g2, k2, y0, -, y1, y2, b2⟩ := Cond.arrayOver_spec (hts (.arrayOver (.object R_Router)) (by decide +kernel))
  refine ⟨(fun k => match k with | 0 => c0 | 1 => c1 | 2 => c2 | 3 => c3 | 4 => c4 | _ => c5, fun k => match k with | 0 => i0 | 1 => i1 | 2 => i2 | 3 => i3 | 4 => i4 | _ => i5), fun k => match k with | 0 => g0 | 1 => g1 | 2 => g2 | 3 => g3 | _ => g4, ?_, ?_⟩
  · intro c q hq
    match c, hq with
    | 0, hq => cases hq; exact u0
    | 1, hq => cases hq; exact u1
    | 2, hq => cases hq; exact u2
    | 3, hq => cases hq; exact u3
    | 4, hq => cases hq; exact u4
    | 5, hq => cases hq; exact u5
    | c + 6, hq => cases hq
  · intro k q hq
    match k, hq with
    | 0, hq => cases hq; exact ⟨a0, b0⟩
    | 1, hq => cases hq; exact ⟨fun n z => ⟨fun k h => (by cases h), k1, x1, comp1, x2⟩, b1⟩
    | 2, hq => cases hq; exact ⟨fun n z => ⟨fun k h => (by cases h), k2, y1, comp2, y2⟩, k2, comp2, y1, y2, y0, b2⟩
    | 3, hq => cases hq; exact ⟨a3, b3⟩
    | 4, hq => cases hq; exact ⟨a4, b4⟩
    | k + 5, hq => cases hq
theorem en_kz {args : Array Value} {s : State} (hts : ∀ w ∈ lw_tbl, w.before args s = true) : kz s :=
  ⟨hts (.arrayOver (.array .int)) (by decide +kernel), va_AO.of (hts (.arrayOver (.object R_Router)) (by decide +kernel)), va_tabs (A := args) rfl rfl (hts (.methodLinkNest R_LR 33 ⟨R_Mail, "<init>", "()V"⟩ R_LR) (by decide +kernel)), va_tabs (A := args) rfl rfl (hts (.methodLinkNest R_LR 44 ⟨R_Router, "<init>", "()V"⟩ R_LR) (by decide +kernel)), va_tabs (A := args) rfl rfl (hts (.methodLinkNest R_LR 57 ⟨R_Packet, "<init>", "()V"⟩ R_LR) (by decide +kernel))⟩
theorem en_sr {args : Array Value} {s : State} {own tx : String} {k : Nat} {cur : ClassId} (hcur : s.vm.findClass own = some cur) (h : (Cond.stringRef own k tx).before args s = true) : ∃ sa, vk_R own k tx sa s := by
  obtain ⟨k9, cf, j, a, -, -, -, -, -, hev⟩ := Cond.stringRef_spec hcur h
  exact ⟨a, vk_R.of h hev⟩
theorem en_tz {b : Nat} {s : State} (hts : ∀ w ∈ lw_tbl, w.before #[Value.ref b] s = true) (hg : (Jvm.Cond.and given_1 narrow_1).before #[Value.ref b] s = true) : tz s.heap.size s := by
  have hw : ∀ w ∈ WS, w.before #[Value.ref b] s = true := fun w h => hts w (List.mem_filter.mp h).1
  have hs := flat_of_before _ hg
  have hA : ∀ a : Nat, a < s.heap.size → ¬ s.heap.size ≤ a := fun a h1 h2 => Nat.lt_irrefl _ (Nat.lt_of_lt_of_le h1 h2)
  obtain ⟨c0, i0, u0⟩ := u_known hw in_LR (hw _ cn_LR)
  have hcur : s.vm.findClass "LabelRoads" = some c0 := u0.2.1
  have tb : ∀ w : Cond, w.onTables = true → w ∈ lw_tbl → va_Nw w s := fun w h1 h2 => va_tabs (A := #[Value.ref b]) h1 rfl (hts w h2)
  exact ⟨vx_Zqof (hts (.laysStatic Bundle.tN "UNASSIGNED_STACK" Bundle.steD) (by decide +kernel)) (hts (.initialized Bundle.tN) (by decide +kernel)) (hs _ (by decide +kernel)) hA, vx_Zqof (hts (.laysStatic Bundle.tN "SUPPRESSED_SENTINEL" Bundle.listD) (by decide +kernel)) (hts (.initialized Bundle.tN) (by decide +kernel)) (hs _ (by decide +kernel)) hA,
    ⟨tb _ rfl (by decide +kernel), tb _ rfl (by decide +kernel), tb _ rfl (by decide +kernel)⟩, ⟨tb _ rfl (by decide +kernel), tb _ rfl (by decide +kernel)⟩, en_sr hcur (hts (.stringRef "LabelRoads" 155 tx1) (by decide +kernel)), en_sr hcur (hts (.stringRef "LabelRoads" 160 tx2) (by decide +kernel)), en_sr hcur (hts (.stringRef "LabelRoads" 164 tx3) (by decide +kernel))⟩
