/-! labels that are taken, on both sides -/
def exf (P : Nat → Bool) : Nat → Nat → Bool
  | _, 0 => false
  | i, c + 1 => P i || exf P (i + 1) c
theorem exf_s {P : Nat → Bool} {i c : Nat} : exf P i (c + 1) = (P i || exf P (i + 1) c) := rfl
def bI (b : Bool) : Int32 := if b then 1 else 0
def tk (lab aw : Nat → Nat → Nat) (r k : Nat) : Bool := exf (fun p => lab r p == 16 + k) 0 4 || exf (fun x => (aw r k).testBit x) 0 6
set_option maxRecDepth 100000 in
theorem or8 : ∀ b, b < 256 → ∀ i, i < 8 → nI b ||| (1 <<< (nI i &&& 31)) = nI (b ||| 2 ^ i) := by decide +kernel
set_option maxRecDepth 100000 in
theorem or8b : ∀ b, b < 256 → ∀ i, i < 8 → (b ||| 2 ^ i) < 256 := by decide +kernel
set_option maxRecDepth 100000 in
theorem sh8 : ∀ b, b < 256 → ∀ i, i < 8 → (((nI b >>> (nI i &&& 31)) &&& 1) == 0) = !(b.testBit i) := by decide +kernel
theorem ne64 : ∀ a, a < 64 → (a != 0) = exf (fun x => a.testBit x) 0 6 := by decide +kernel
def cnt8 (b : Nat) : Nat → Nat → Nat
  | _, 0 => 0
  | i, c + 1 => (if b.testBit i then 1 else 0) + cnt8 b (i + 1) c
set_option maxRecDepth 100000 in
theorem bc8 : ∀ b, b < 256 → f_Int_bitCount (nI b) = some (nI (cnt8 b 0 8)) := by decide +kernel
section TK
variable {n r : Nat} {lab aw : Nat → Nat → Nat} {M N : Mem}
theorem ct_b (hr : r < n) (hL : VL n lab (M 18) (N 4 0 0)) : ∀ (c i k b : Nat), i + c = 4 → c < k → b < 256 → ∃ b', f_Router_takenBits_33 n r M k (nI i) (nI b) = some (nI b') ∧ b' < 256 ∧ ∀ j, j < 8 → b'.testBit j = (b.testBit j || exf (fun p => lab r p == 16 + j) i c) := by
  intro c
  induction c with
  | zero =>
    intro i k b h1 h2 hb
    obtain ⟨k, rfl⟩ : ∃ k', k = k' + 1 := ⟨k - 1, by omega⟩
    rw [f_Router_takenBits_33, if_pos (show (4 : Int32) ≤ nI i from nI_le (a := 4) (by omega) (by omega))]
    exact ⟨b, rfl, hb, fun j _ => by simp [exf]⟩
  | succ c ih =>
    intro i k b h1 h2 hb
    obtain ⟨k, rfl⟩ : ∃ k', k = k' + 1 := ⟨k - 1, by omega⟩
    obtain ⟨l1, l2, l3⟩ := hL r i hr (by omega)
    rw [f_Router_takenBits_33, if_neg (show ¬ (4 : Int32) ≤ nI i from nI_ge (b := 4) (by omega) (by omega)), ix_nI (show i < 4 by omega) (by decide), nI_1]
    show ∃ b', (if M 18 r 0 i = 0 then _ else _) = _ ∧ _
    rw [l2]
    by_cases h0 : lab r i = 0
    · rw [if_pos (show nI (lab r i) = 0 by rw [h0]; rfl)]
      obtain ⟨b', a1, a2, a3⟩ := ih (i + 1) k b (by omega) (by omega) hb
      refine ⟨b', a1, a2, fun j hj => ?_⟩
      rw [a3 j hj, exf_s, show (lab r i == 16 + j) = false by rw [beq_eq_false_iff_ne]; omega, Bool.false_or]
    · have hl : 16 ≤ lab r i ∧ lab r i < 24 := by rcases l1 with h | h; exact absurd h h0; exact h
      rw [if_neg (nI_ne0 (by omega) (by omega))]
      show ∃ b', f_Router_takenBits_33 n r M k (nI (i + 1)) (nI b ||| (1 <<< ((M 18 r 0 i - 16) &&& 31))) = _ ∧ _
      rw [l2, show nI (lab r i) - 16 = nI (lab r i - 16) from nI_sub (b := 16) hl.1, or8 b hb _ (by omega)]
      obtain ⟨b', a1, a2, a3⟩ := ih (i + 1) k (b ||| 2 ^ (lab r i - 16)) (by omega) (by omega) (or8b b hb _ (by omega))
      refine ⟨b', a1, a2, fun j hj => ?_⟩
      rw [a3 j hj, exf_s, Nat.testBit_or, Nat.testBit_two_pow, Bool.or_assoc]
      congr 2
      by_cases h9 : lab r i - 16 = j
      · rw [decide_eq_true h9]; symm; rw [beq_iff_eq]; omega
      · rw [decide_eq_false h9]; symm; rw [beq_eq_false_iff_ne]; omega
theorem ct_a (hr : r < n) (hL : VL n lab (M 18) (N 4 0 0)) (hA : VA n aw (M 20) (N 6 0 0)) : ∀ (c i k b : Nat), i + c = 8 → c < k → b < 256 → (∀ j, i ≤ j → b.testBit j = false) → ∃ b', f_Router_takenBits_4 n r M k (nI i) (nI b) = some (nI b') ∧ b' < 256 ∧ ∀ j, j < 8 → b'.testBit j = (b.testBit j || (decide (i ≤ j) && (aw r j != 0)) || exf (fun p => lab r p == 16 + j) 0 4) := by
  intro c
  induction c with
  | zero =>
    intro i k b h1 h2 hb hz
    obtain ⟨k, rfl⟩ : ∃ k', k = k' + 1 := ⟨k - 1, by omega⟩
    rw [f_Router_takenBits_4, if_pos (show (8 : Int32) ≤ nI i from nI_le (a := 8) (by omega) (by omega))]
    obtain ⟨b', a1, a2, a3⟩ := ct_b hr hL 4 0 1000 b (by omega) (by omega) hb
    rw [nI_0] at a1
    refine ⟨b', a1, a2, fun j hj => ?_⟩
    rw [a3 j hj, decide_eq_false (by omega), Bool.false_and, Bool.or_false]
  | succ c ih =>
    intro i k b h1 h2 hb hz
    obtain ⟨k, rfl⟩ : ∃ k', k = k' + 1 := ⟨k - 1, by omega⟩
    obtain ⟨l1, l2, l3⟩ := hA r i hr (by omega)
    rw [f_Router_takenBits_4, if_neg (show ¬ (8 : Int32) ≤ nI i from nI_ge (b := 8) (by omega) (by omega)), ix_nI (show i < 8 by omega) (by decide), nI_1]
    show ∃ b', (if M 20 r 0 i = 0 then _ else _) = _ ∧ _
    rw [l2]
    by_cases h0 : aw r i = 0
    · rw [if_pos (show nI (aw r i) = 0 by rw [h0]; rfl)]
      obtain ⟨b', a1, a2, a3⟩ := ih (i + 1) k b (by omega) (by omega) hb (fun j hj => hz j (by omega))
      refine ⟨b', a1, a2, fun j hj => ?_⟩
      rw [a3 j hj]
      congr 2
      by_cases h9 : j = i
      · subst h9
        rw [h0, decide_eq_false (by omega)]
        simp
      · by_cases h8 : i ≤ j
        · rw [decide_eq_true h8, decide_eq_true (by omega)]
        · rw [decide_eq_false h8, decide_eq_false (by omega)]
    · rw [if_neg (nI_ne0 (by omega) (by omega)), or8 b hb i (by omega)]
      obtain ⟨b', a1, a2, a3⟩ := ih (i + 1) k (b ||| 2 ^ i) (by omega) (by omega) (or8b b hb i (by omega)) (fun j hj => by rw [Nat.testBit_or, hz j (by omega), Nat.testBit_two_pow, decide_eq_false (by omega)]; rfl)
      refine ⟨b', a1, a2, fun j hj => ?_⟩
      rw [a3 j hj, Nat.testBit_or, Nat.testBit_two_pow]
      congr 1
      rw [Bool.or_assoc]
      congr 1
      by_cases h9 : j = i
      · subst h9
        rw [decide_eq_true rfl, decide_eq_true (Nat.le_refl _), show (aw r j != 0) = true by rw [bne_iff_ne]; exact h0]
        rfl
      · by_cases h8 : i ≤ j
        · rw [decide_eq_false (by omega), decide_eq_true h8, decide_eq_true (by omega), Bool.false_or]
        · rw [decide_eq_false (by omega), decide_eq_false h8, decide_eq_false (by omega), Bool.false_or]
theorem ct_bits (hr : r < n) (hL : VL n lab (M 18) (N 4 0 0)) (hA : VA n aw (M 20) (N 6 0 0)) : ∃ b, f_Router_takenBits n r M = some (nI b) ∧ b < 256 ∧ ∀ j, j < 8 → b.testBit j = tk lab aw r j := by
  obtain ⟨b, a1, a2, a3⟩ := ct_a hr hL hA 8 0 1000 0 (by omega) (by omega) (by omega) (fun j _ => Nat.zero_testBit j)
  rw [nI_0] at a1
  refine ⟨b, a1, a2, fun j hj => ?_⟩
  rw [a3 j hj, Nat.zero_testBit, decide_eq_true (Nat.zero_le _), Bool.true_and, Bool.false_or, ne64 _ (hA r j hr hj).1, Bool.or_comm]
  rfl
theorem lf_loop {b : Nat} (hb : b < 256) : ∀ (c i k : Nat), i + c = 8 → c < k → f_Router_leastFree_7 n (nI b) k (nI i) = some (if nxf (fun j => b.testBit j = false) i c = 99 then 0 else nI (16 + nxf (fun j => b.testBit j = false) i c)) := by
  intro c
  induction c with
  | zero =>
    intro i k h1 h2
    obtain ⟨k, rfl⟩ : ∃ k', k = k' + 1 := ⟨k - 1, by omega⟩
    rw [f_Router_leastFree_7, if_pos (show (8 : Int32) ≤ nI i from nI_le (a := 8) (by omega) (by omega))]
    rfl
  | succ c ih =>
    intro i k h1 h2
    obtain ⟨k, rfl⟩ : ∃ k', k = k' + 1 := ⟨k - 1, by omega⟩
    have e := sh8 b hb i (by omega)
    rw [f_Router_leastFree_7, if_neg (show ¬ (8 : Int32) ≤ nI i from nI_ge (b := 8) (by omega) (by omega)), nI_1]
    by_cases h : b.testBit i = false
    · rw [h] at e
      rw [if_pos (beq_iff_eq.mp e), nxf_p (P := fun j => b.testBit j = false) h, if_neg (by omega), show (16 : Int32) = nI 16 from rfl, nI_add]
    · have h' : b.testBit i = true := by simpa using h
      rw [h'] at e
      rw [if_neg (beq_eq_false_iff_ne.mp e), nxf_n (P := fun j => b.testBit j = false) h]
      exact ih (i + 1) k (by omega) (by omega)
end TK
