/-! labels that are taken, the reference's side; a label given, on both -/
theorem bI_t : bI true = 1 := rfl
theorem bI_f : bI false = 0 := rfl
def cntf (P : Nat → Bool) : Nat → Nat → Nat
  | _, 0 => 0
  | i, c + 1 => (if P i then 1 else 0) + cntf P (i + 1) c
theorem cntf_le {P : Nat → Bool} : ∀ c i, cntf P i c ≤ c
  | 0, _ => Nat.le_refl _
  | c + 1, i => by
    have := cntf_le (P := P) c (i + 1)
    show (if P i then 1 else 0) + cntf P (i + 1) c ≤ c + 1
    split <;> omega
theorem cnt8_f {b : Nat} {P : Nat → Bool} : ∀ c i, (∀ j, i ≤ j → j < i + c → b.testBit j = P j) → cnt8 b i c = cntf P i c
  | 0, _, _ => rfl
  | c + 1, i, h => by
    show (if b.testBit i then 1 else 0) + cnt8 b (i + 1) c = (if P i then 1 else 0) + cntf P (i + 1) c
    rw [h i (Nat.le_refl _) (by omega), cnt8_f c (i + 1) (fun j h1 h2 => h j (by omega) (by omega))]
section IT
variable {n r q : Nat} {lab aw : Nat → Nat → Nat} {M N : Mem}
theorem it_b (hn : n ≤ 6) (hr : r < n) (hq : q < 8) (hA : VA n aw (M 20) (N 6 0 0)) : ∀ (c i k : Nat) (t : Bool), i + c = 6 → c < k → f_Model_isTaken_48 (nI r) (nI q) N k (nI i) (bI t) = some (bI (t || exf (fun x => (aw r q).testBit x) i c)) := by
  intro c
  induction c with
  | zero =>
    intro i k t h1 h2
    obtain ⟨k, rfl⟩ : ∃ k', k = k' + 1 := ⟨k - 1, by omega⟩
    rw [f_Model_isTaken_48, if_pos (show (6 : Int32) ≤ nI i from nI_le (a := 6) (by omega) (by omega))]
    cases t <;> rfl
  | succ c ih =>
    intro i k t h1 h2
    obtain ⟨k, rfl⟩ : ∃ k', k = k' + 1 := ⟨k - 1, by omega⟩
    have e2 : ((48 : Int32) * nI r + 8 * nI i) + nI q = nI (48 * r + 8 * i + q) := by rw [show (48 : Int32) = nI 48 from rfl, show (8 : Int32) = nI 8 from rfl, nI_mul, nI_mul, nI_add, nI_add]
    have hv := (hA r q hr hq).2.2 i (by omega)
    rw [f_Model_isTaken_48, if_neg (show ¬ (6 : Int32) ≤ nI i from nI_ge (b := 6) (by omega) (by omega)), exf_s]
    unfold f_Model_isTaken_j84
    rw [nI_1]
    cases t with
    | true =>
      rw [if_neg (by decide), Bool.true_or]
      have := ih (i + 1) k true (by omega) (by omega)
      rw [Bool.true_or] at this
      exact this
    | false =>
      rw [if_pos (show bI false = 0 from rfl), e2, ix_nI (show 48 * r + 8 * i + q < 288 by omega) (by decide), Bool.false_or]
      show (if N 6 0 0 (48 * r + 8 * i + q) = 0 then _ else _) = _
      rw [hv]
      cases hb : (aw r q).testBit i with
      | true =>
        rw [if_pos rfl, if_neg (by decide)]
        exact ih (i + 1) k true (by omega) (by omega)
      | false =>
        rw [if_pos (show (if false = true then (1 : Int32) else 0) = 0 from rfl)]
        exact ih (i + 1) k false (by omega) (by omega)
theorem it_a (hn : n ≤ 6) (hr : r < n) (hq : q < 8) (hL : VL n lab (M 18) (N 4 0 0)) (hA : VA n aw (M 20) (N 6 0 0)) : ∀ (c i k : Nat) (t : Bool), i + c = 4 → c < k → f_Model_isTaken_5 (nI r) (nI q) N k (nI i) (bI t) = some (bI (t || exf (fun p => lab r p == 16 + q) i c || exf (fun x => (aw r q).testBit x) 0 6)) := by
  intro c
  induction c with
  | zero =>
    intro i k t h1 h2
    obtain ⟨k, rfl⟩ : ∃ k', k = k' + 1 := ⟨k - 1, by omega⟩
    rw [f_Model_isTaken_5, if_pos (show (4 : Int32) ≤ nI i from nI_le (a := 4) (by omega) (by omega))]
    have := it_b hn hr hq hA 6 0 1000 t (by omega) (by omega)
    rw [nI_0] at this
    rw [this]
    simp [exf]
  | succ c ih =>
    intro i k t h1 h2
    obtain ⟨k, rfl⟩ : ∃ k', k = k' + 1 := ⟨k - 1, by omega⟩
    have e2 : (4 : Int32) * nI r + nI i = nI (4 * r + i) := by rw [show (4 : Int32) = nI 4 from rfl, nI_mul, nI_add]
    obtain ⟨l1, l2, l3⟩ := hL r i hr (by omega)
    have hl24 : lab r i < 24 := by rcases l1 with h | h <;> omega
    rw [f_Model_isTaken_5, if_neg (show ¬ (4 : Int32) ≤ nI i from nI_ge (b := 4) (by omega) (by omega)), exf_s]
    unfold f_Model_isTaken_j38
    rw [nI_1]
    cases t with
    | true =>
      rw [if_neg (by decide), Bool.true_or]
      have := ih (i + 1) k true (by omega) (by omega)
      rw [Bool.true_or] at this
      exact this
    | false =>
      rw [if_pos (show bI false = 0 from rfl), e2, ix_nI (show 4 * r + i < 24 by omega) (by decide), Bool.false_or]
      show (if N 4 0 0 (4 * r + i) = 16 + nI q then _ else _) = _
      rw [l3, show (16 : Int32) + nI q = nI (16 + q) from nI_add 16 q]
      by_cases h : lab r i = 16 + q
      · rw [if_pos (by rw [h]), show (lab r i == 16 + q) = true from beq_iff_eq.mpr h]
        exact ih (i + 1) k true (by omega) (by omega)
      · rw [if_neg (fun e => h ((nI_eq (by omega) (by omega)).mp e)), show (lab r i == 16 + q) = false from beq_eq_false_iff_ne.mpr h]
        exact ih (i + 1) k false (by omega) (by omega)
theorem it_taken (hn : n ≤ 6) (hr : r < n) (hq : q < 8) (hL : VL n lab (M 18) (N 4 0 0)) (hA : VA n aw (M 20) (N 6 0 0)) : f_Model_isTaken (nI r) (nI q) N = some (bI (tk lab aw r q)) := by
  have := it_a hn hr hq hL hA 4 0 1000 false (by omega) (by omega)
  rw [nI_0, Bool.false_or] at this
  exact this
theorem to_loop (hn : n ≤ 6) (hr : r < n) (hL : VL n lab (M 18) (N 4 0 0)) (hA : VA n aw (M 20) (N 6 0 0)) : ∀ (c i k m : Nat), i + c = 8 → c < k → f_Model_takenOf_4 (nI r) N k (nI i) (nI m) = some (nI (m + cntf (tk lab aw r) i c)) := by
  intro c
  induction c with
  | zero =>
    intro i k m h1 h2
    obtain ⟨k, rfl⟩ : ∃ k', k = k' + 1 := ⟨k - 1, by omega⟩
    rw [f_Model_takenOf_4, if_pos (show (8 : Int32) ≤ nI i from nI_le (a := 8) (by omega) (by omega))]
    rfl
  | succ c ih =>
    intro i k m h1 h2
    obtain ⟨k, rfl⟩ : ∃ k', k = k' + 1 := ⟨k - 1, by omega⟩
    rw [f_Model_takenOf_4, if_neg (show ¬ (8 : Int32) ≤ nI i from nI_ge (b := 8) (by omega) (by omega)), it_taken hn hr (by omega) hL hA]
    unfold f_Model_takenOf_j26
    rw [nI_1, nI_1]
    show (if bI (tk lab aw r i) = 0 then f_Model_takenOf_4 (nI r) N k (nI (i + 1)) (nI m) else f_Model_takenOf_4 (nI r) N k (nI (i + 1)) (nI (m + 1))) = some (nI (m + ((if tk lab aw r i then 1 else 0) + cntf (tk lab aw r) (i + 1) c)))
    cases tk lab aw r i with
    | true =>
      rw [if_neg (by decide), ih (i + 1) k (m + 1) (by omega) (by omega), if_pos rfl]
      congr 2
      omega
    | false =>
      rw [if_pos (show bI false = 0 from rfl), ih (i + 1) k m (by omega) (by omega), if_neg (by decide)]
      congr 2
      omega
/-- the count of labels taken, on both sides -/
theorem tc_rel (hn : n ≤ 6) (hr : r < n) (hL : VL n lab (M 18) (N 4 0 0)) (hA : VA n aw (M 20) (N 6 0 0)) : ∃ x, f_Router_takenCount n r M = some x ∧ f_Model_takenOf (nI r) N = some x := by
  obtain ⟨b, a1, a2, a3⟩ := ct_bits hr hL hA
  refine ⟨nI (cntf (tk lab aw r) 0 8), ?_, ?_⟩
  · unfold f_Router_takenCount
    rw [a1]
    show (f_Int_bitCount (nI b)).bind _ = _
    rw [bc8 b a2, cnt8_f 8 0 (fun j _ hj => a3 j (by omega))]
    rfl
  · have := to_loop hn hr hL hA 8 0 1000 0 (by omega) (by omega)
    rw [nI_0, Nat.zero_add] at this
    exact this
end IT
