/-! the mail between two routers is gone, and both sides still agree; what a router forgets -/
section DR
variable {cd : Int32} {n x y : Nat} {g : Nat → Nat → Nat} {ow : Nat → Nat} {lab : Nat → Nat → Nat} {tol : Nat → Nat → Nat → Nat} {aw : Nat → Nat → Nat} {M N : Mem}
theorem db_rel (hn : n ≤ 6) (hxy : x ≠ y) (hx : x < n) (hy : y < n) (h : RR cd n g ow lab tol aw M N) : ∃ M' N', f_Mail_dropBetween n (nI x) (nI y) M = some M' ∧ f_Model_forget (nI x) (nI y) N = f_Model_forget_64 (nI x) (nI y) 1000 0 N' ∧ RR cd n g ow lab tol aw M' N' := by
  obtain ⟨hB, w, ml, w1, w2, w3, w4, w5⟩ := h
  have hlen : ((List.range' 0 w).map ml).length = w := by rw [List.length_map, List.length_range']
  have hok : ∀ m, m ∈ (List.range' 0 w).map ml → okm n m := by
    intro m hm
    obtain ⟨i, hi, rfl⟩ := List.mem_map.mp hm
    rw [List.mem_range'_1] at hi
    exact (w5 i (by omega)).1
  have A : ∀ (f : Msg → Int32) (F : Nat → Int32), (∀ i, i < w → F i = f (ml i)) → segm f 0 ((List.range' 0 w).map ml) F := fun f F h => seg_fun w 0 (fun i _ hi => h i (by omega))
  have s6 := A (fun m => nI (pk m)) (M 6 0 0) (fun i hi => (w5 i hi).2.1)
  have s7 := A (fun m => nI m.2.1) (N 7 0 0) (fun i hi => (w5 i hi).2.2.1)
  have s8 := A (fun m => nI m.2.2.1) (N 8 0 0) (fun i hi => (w5 i hi).2.2.2.1)
  have s9 := A (fun m => nI m.1) (N 9 0 0) (fun i hi => (w5 i hi).2.2.2.2.1)
  have s10 := A (fun m => nI m.2.2.2.1) (N 10 0 0) (fun i hi => (w5 i hi).2.2.2.2.2.1)
  have s11 := A (fun m => nI m.2.2.2.2) (N 11 0 0) (fun i hi => (w5 i hi).2.2.2.2.2.2)
  generalize (List.range' 0 w).map ml = L at *
  subst hlen
  obtain ⟨F, c1, c2⟩ := db_loop hxy hn hx hy w1 L 0 1000 [] M (by omega) (by omega) (by simp) hok w2 trivial s6
  obtain ⟨N', r1, r2, v, r3⟩ := fg_loop hxy hn hx hy L.length 1000 L [] N rfl (by omega) (by simp only [List.length_nil]; omega) hok (by rw [List.append_nil]; exact ⟨s7, s8, s9, s10, s11, w3⟩)
  rw [List.append_nil] at r2
  rw [List.nil_append] at c1 c2
  have hle : (L.filter (keepm x y)).length ≤ L.length := List.length_filter_le ..
  have hok' : ∀ m, m ∈ L.filter (keepm x y) → okm n m := fun m hm => hok m (List.mem_filter.mp hm).1
  generalize L.filter (keepm x y) = L' at *
  refine ⟨_, N', ?_, ?_, RB_shd r3 (show RB cd n g ow lab tol aw (mset (ms M 6 0 0 F) 5 0 0 1 (nI L'.length)) (mset N 0 0 0 8 v) from hB), L'.length, fun j => L'.getD j (0, 0, 0, 0, 0), ?_⟩
  · unfold f_Mail_dropBetween
    rw [List.length_nil, nI_0] at c1
    exact c1
  · unfold f_Model_forget
    rw [w3]
    exact r1
  · obtain ⟨s7, s8, s9, s10, s11, sw⟩ := r2
    refine ⟨by omega, ?_, sw, ?_, fun i hi => ⟨?_, ?_, ?_, ?_, ?_, ?_, ?_⟩⟩
    · rw [mset_row]; exact upd_same
    · rw [r3 0 (by omega)]
      exact w4
    · dsimp only
      rw [List.getD_eq_getElem?_getD, List.getElem?_eq_getElem hi]
      exact hok' _ (List.getElem_mem hi)
    · have := seg_at (d := (0, 0, 0, 0, 0)) L' 0 c2 i hi
      rw [Nat.zero_add] at this
      exact this
    · have := seg_at (d := (0, 0, 0, 0, 0)) L' 0 s7 i hi
      rw [Nat.zero_add] at this
      exact this
    · have := seg_at (d := (0, 0, 0, 0, 0)) L' 0 s8 i hi
      rw [Nat.zero_add] at this
      exact this
    · have := seg_at (d := (0, 0, 0, 0, 0)) L' 0 s9 i hi
      rw [Nat.zero_add] at this
      exact this
    · have := seg_at (d := (0, 0, 0, 0, 0)) L' 0 s10 i hi
      rw [Nat.zero_add] at this
      exact this
    · have := seg_at (d := (0, 0, 0, 0, 0)) L' 0 s11 i hi
      rw [Nat.zero_add] at this
      exact this
theorem ct_fill {r q B : Nat} {F : Nat → Int32} : ∀ (c i k : Nat), i + c = 4 → c < k → f_Arr_fillT_5 n r q (nI B) k (nI i) (ms M 21 r q F) = some (ms M 21 r q (fun j => if i ≤ j ∧ j < 4 then nI B else F j)) := by
  intro c
  induction c generalizing F with
  | zero =>
    intro i k h1 h2
    obtain ⟨k, rfl⟩ : ∃ k', k = k' + 1 := ⟨k - 1, by omega⟩
    rw [f_Arr_fillT_5, if_pos (nI_le (by omega) (by omega))]
    congr 2
    funext j
    rw [if_neg (by omega)]
  | succ c ih =>
    intro i k h1 h2
    obtain ⟨k, rfl⟩ : ∃ k', k = k' + 1 := ⟨k - 1, by omega⟩
    rw [f_Arr_fillT_5, if_neg (nI_ge (by omega) (by omega)), ix_nI (show i < 4 by omega) (by decide), nI_1]
    show f_Arr_fillT_5 n r q (nI B) k (nI (i + 1)) (mset (ms M 21 r q F) 21 r q i (nI B)) = _
    rw [ms_mset, ih (i + 1) k (by omega) (by omega)]
    congr 2
    funext j
    unfold upd
    by_cases h : j = i
    · rw [if_neg (by omega), if_pos h, if_pos (by omega)]
    · by_cases h2 : i + 1 ≤ j ∧ j < 4
      · rw [if_pos h2, if_pos (by omega)]
      · rw [if_neg h2, if_neg h, if_neg (by omega)]
abbrev msk (x : Nat) : Int32 := (1 <<< (nI x &&& 31)) ^^^ (-1)
theorem cf_end {r : Nat} {F : Nat → Int32} : ∀ (c i k : Nat), i + c = 8 → c < k → f_Router_forget_12 n r (nI x) k (nI i) (ms M 20 r 0 F) = some (ms M 20 r 0 (fun j => if i ≤ j ∧ j < 8 then F j &&& msk x else F j)) := by
  intro c
  induction c generalizing F with
  | zero =>
    intro i k h1 h2
    obtain ⟨k, rfl⟩ : ∃ k', k = k' + 1 := ⟨k - 1, by omega⟩
    rw [f_Router_forget_12, if_pos (show (8 : Int32) ≤ nI i from nI_le (a := 8) (by omega) (by omega))]
    congr 2
    funext j
    rw [if_neg (by omega)]
  | succ c ih =>
    intro i k h1 h2
    obtain ⟨k, rfl⟩ : ∃ k', k = k' + 1 := ⟨k - 1, by omega⟩
    rw [f_Router_forget_12, if_neg (show ¬ (8 : Int32) ≤ nI i from nI_ge (b := 8) (by omega) (by omega)), nI_1]
    unfold f_Router_endRelease
    rw [show (16 : Int32) + nI i - 16 = nI i by rw [show (16 : Int32) = nI 16 from rfl, nI_add, nI_sub (by omega)]; congr 1; omega, ix_nI (show i < 8 by omega) (by decide)]
    show f_Router_forget_12 n r (nI x) k (nI (i + 1)) (mset (ms M 20 r 0 F) 20 r 0 i ((ms M 20 r 0 F) 20 r 0 i &&& msk x)) = _
    rw [ms_mset, ms_same, ih (i + 1) k (by omega) (by omega)]
    congr 2
    funext j
    unfold upd
    by_cases h : j = i
    · subst h
      rw [if_neg (by omega), if_pos rfl, if_pos (by omega)]
    · by_cases h2 : i + 1 ≤ j ∧ j < 8
      · rw [if_pos h2, if_neg h, if_pos (by omega)]
      · rw [if_neg h2, if_neg h, if_neg (by omega)]
theorem cf_rel {r : Nat} (hx : x < 6) : f_Router_forget n r (nI x) M = some (ms (ms M 21 r x (fun j => if j < 4 then 0 else M 21 r x j)) 20 r 0 (fun j => if j < 8 then M 20 r 0 j &&& msk x else M 20 r 0 j)) := by
  have e1 := ct_fill (n := n) (M := M) (r := r) (q := x) (B := 0) (F := M 21 r x) 4 0 1000 (by omega) (by omega)
  rw [ms_self, nI_0] at e1
  have e2 := cf_end (n := n) (x := x) (r := r) (M := ms M 21 r x (fun j => if 0 ≤ j ∧ j < 4 then 0 else M 21 r x j)) (F := M 20 r 0) 8 0 1000 (by omega) (by omega)
  rw [show ms (ms M 21 r x (fun j => if 0 ≤ j ∧ j < 4 then 0 else M 21 r x j)) 20 r 0 (M 20 r 0) = ms M 21 r x (fun j => if 0 ≤ j ∧ j < 4 then 0 else M 21 r x j) from ms_self (ms M 21 r x (fun j => if 0 ≤ j ∧ j < 4 then 0 else M 21 r x j)) 20 r 0, nI_0] at e2
  unfold f_Router_forget f_Arr_fillT
  rw [ix_nI hx (by decide), Option.bind_some, e1, Option.bind_some, e2]
  simp only [Nat.zero_le, true_and]
theorem rf_aw {F : Nat → Int32} (hx : x < 6) (hy : y < 6) : ∀ (c i k : Nat), i + c = 8 → c < k → f_Model_forget_109 (nI x) (nI y) k (nI i) (ms N 6 0 0 F) = some (ms N 6 0 0 (fun j => if (48 * x + 8 * y + i ≤ j ∧ j < 48 * x + 8 * y + 8) ∨ (48 * y + 8 * x + i ≤ j ∧ j < 48 * y + 8 * x + 8) then 0 else F j)) := by
  intro c
  induction c generalizing F with
  | zero =>
    intro i k h1 h2
    obtain ⟨k, rfl⟩ : ∃ k', k = k' + 1 := ⟨k - 1, by omega⟩
    rw [f_Model_forget_109, if_pos (show (8 : Int32) ≤ nI i from nI_le (a := 8) (by omega) (by omega))]
    congr 2
    funext j
    rw [if_neg (by omega)]
  | succ c ih =>
    intro i k h1 h2
    obtain ⟨k, rfl⟩ : ∃ k', k = k' + 1 := ⟨k - 1, by omega⟩
    rw [f_Model_forget_109, if_neg (show ¬ (8 : Int32) ≤ nI i from nI_ge (b := 8) (by omega) (by omega)), nI_1, e48, e48, ix_nI (show 48 * x + 8 * y + i < 288 by omega) (by decide), ix_nI (show 48 * y + 8 * x + i < 288 by omega) (by decide)]
    show f_Model_forget_109 (nI x) (nI y) k (nI (i + 1)) (mset (mset (ms N 6 0 0 F) 6 0 0 (48 * x + 8 * y + i) 0) 6 0 0 (48 * y + 8 * x + i) 0) = _
    rw [ms_mset, ms_mset, ih (i + 1) k (by omega) (by omega)]
    congr 2
    funext j
    unfold upd
    by_cases h : (48 * x + 8 * y + (i + 1) ≤ j ∧ j < 48 * x + 8 * y + 8) ∨ (48 * y + 8 * x + (i + 1) ≤ j ∧ j < 48 * y + 8 * x + 8)
    · rw [if_pos h, if_pos (by omega)]
    · rw [if_neg h]
      by_cases h3 : j = 48 * y + 8 * x + i
      · rw [if_pos h3, if_pos (by omega)]
      · rw [if_neg h3]
        by_cases h4 : j = 48 * x + 8 * y + i
        · rw [if_pos h4, if_pos (by omega)]
        · rw [if_neg h4, if_neg (by omega)]
theorem rf_tol {F : Nat → Int32} (hx : x < 6) (hy : y < 6) : ∀ (c i k : Nat), i + c = 4 → c < k → f_Model_forget_64 (nI x) (nI y) k (nI i) (ms N 5 0 0 F) = f_Model_forget_109 (nI x) (nI y) 1000 0 (ms N 5 0 0 (fun j => if (24 * x + 4 * y + i ≤ j ∧ j < 24 * x + 4 * y + 4) ∨ (24 * y + 4 * x + i ≤ j ∧ j < 24 * y + 4 * x + 4) then 0 else F j)) := by
  intro c
  induction c generalizing F with
  | zero =>
    intro i k h1 h2
    obtain ⟨k, rfl⟩ : ∃ k', k = k' + 1 := ⟨k - 1, by omega⟩
    rw [f_Model_forget_64, if_pos (show (4 : Int32) ≤ nI i from nI_le (a := 4) (by omega) (by omega))]
    congr 2
    funext j
    rw [if_neg (by omega)]
  | succ c ih =>
    intro i k h1 h2
    obtain ⟨k, rfl⟩ : ∃ k', k = k' + 1 := ⟨k - 1, by omega⟩
    rw [f_Model_forget_64, if_neg (show ¬ (4 : Int32) ≤ nI i from nI_ge (b := 4) (by omega) (by omega)), nI_1, e24, e24, ix_nI (show 24 * x + 4 * y + i < 144 by omega) (by decide), ix_nI (show 24 * y + 4 * x + i < 144 by omega) (by decide)]
    show f_Model_forget_64 (nI x) (nI y) k (nI (i + 1)) (mset (mset (ms N 5 0 0 F) 5 0 0 (24 * x + 4 * y + i) 0) 5 0 0 (24 * y + 4 * x + i) 0) = _
    rw [ms_mset, ms_mset, ih (i + 1) k (by omega) (by omega)]
    congr 2
    funext j
    unfold upd
    by_cases h : (24 * x + 4 * y + (i + 1) ≤ j ∧ j < 24 * x + 4 * y + 4) ∨ (24 * y + 4 * x + (i + 1) ≤ j ∧ j < 24 * y + 4 * x + 4)
    · rw [if_pos h, if_pos (by omega)]
    · rw [if_neg h]
      by_cases h3 : j = 24 * y + 4 * x + i
      · rw [if_pos h3, if_pos (by omega)]
      · rw [if_neg h3]
        by_cases h4 : j = 24 * x + 4 * y + i
        · rw [if_pos h4, if_pos (by omega)]
        · rw [if_neg h4, if_neg (by omega)]
end DR
