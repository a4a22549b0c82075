/-! what a router hears; a release that ended -/
def clr (a i : Nat) : Nat := if a.testBit i then a - 2 ^ i else a
set_option maxRecDepth 100000 in
theorem and64 : ∀ a, a < 64 → ∀ i, i < 6 → nI a &&& ((1 <<< (nI i &&& 31)) ^^^ (-1)) = nI (clr a i) := by decide +kernel
theorem clr_lt : ∀ a, a < 64 → ∀ i, i < 6 → clr a i < 64 := by decide +kernel
set_option maxRecDepth 100000 in
theorem clr_bit : ∀ a, a < 64 → ∀ i, i < 6 → ∀ y, y < 6 → (clr a i).testBit y = if y = i then false else a.testBit y := by decide +kernel
section HE
variable {cd : Int32} {n r p q x : Nat} {g : Nat → Nat → Nat} {ow : Nat → Nat} {lab : Nat → Nat → Nat} {tol : Nat → Nat → Nat → Nat} {aw : Nat → Nat → Nat} {M N : Mem}
theorem VT_set {l : Nat} (hr : r < n) (hx : x < n) (hn : n ≤ 6) (hp : p < 4) (hl : okl l) (hT : VT n tol (M 21) (N 5 0 0)) : VT n (fun r' x' p' => if r' = r ∧ x' = x ∧ p' = p then l else tol r' x' p') ((mset M 21 r x p (nI l)) 21) ((mset N 5 0 0 (24 * r + 4 * x + p) (nI l)) 5 0 0) := by
  intro r' x' p' hr' hx' hp'
  obtain ⟨a1, a2, a3⟩ := hT r' x' p' hr' hx' hp'
  dsimp only
  by_cases h : r' = r ∧ x' = x ∧ p' = p
  · obtain ⟨rfl, rfl, rfl⟩ := h
    rw [if_pos ⟨rfl, rfl, rfl⟩, mset_row, mset_row]
    exact ⟨hl, upd_same, upd_same⟩
  · rw [if_neg h]
    refine ⟨a1, ?_, ?_⟩
    · by_cases h1 : r' = r ∧ x' = x
      · obtain ⟨rfl, rfl⟩ := h1
        rw [mset_row, upd_ne (fun e => h ⟨rfl, rfl, e⟩)]
        exact a2
      · rw [mset_ab h1]
        exact a2
    · rw [mset_row, upd_ne (by omega)]
      exact a3
theorem RR_tol {l : Nat} (hn : n ≤ 6) (hr : r < n) (hx : x < n) (hp : p < 4) (hl : okl l) (h : RR cd n g ow lab tol aw M N) : RR cd n g ow lab (fun r' x' p' => if r' = r ∧ x' = x ∧ p' = p then l else tol r' x' p') aw (mset M 21 r x p (nI l)) (mset N 5 0 0 (24 * r + 4 * x + p) (nI l)) := by
  obtain ⟨⟨b1, b2, b3, b4, b5, b6, b7, b8, b9⟩, w, ml, hw⟩ := h
  exact ⟨⟨b1, b2, b3, b4, b5, VT_set hr hx hn hp hl b6, b7, b8, b9⟩, w, ml, hw⟩
theorem end_rel {l : Nat} (hn : n ≤ 6) (hr : r < n) (hx : x < n) (hl : 16 ≤ l ∧ l < 24) (h : RR cd n g ow lab tol aw M N) : ∃ M' aw', f_Router_endRelease n r (nI l) (nI x) M = some M' ∧ RR cd n g ow lab tol aw' M' (mset N 6 0 0 (48 * r + 8 * x + (l - 16)) 0) := by
  obtain ⟨v1, v2, v3⟩ := h.1.2.2.2.2.2.2.1 r (l - 16) hr (by omega)
  unfold f_Router_endRelease
  rw [show nI l - 16 = nI (l - 16) from nI_sub (b := 16) hl.1, ix_nI (show l - 16 < 8 by omega) (by decide)]
  refine ⟨_, fun r' q' => if r' = r ∧ q' = l - 16 then clr (aw r (l - 16)) x else aw r' q', rfl, ?_⟩
  · rw [v2, and64 _ v1 x (by omega)]
    exact RR_aw (v := false) hr (by omega) (by omega) (clr_lt _ v1 x (by omega)) (fun y hy => clr_bit _ v1 x (by omega) y hy) h
end HE
