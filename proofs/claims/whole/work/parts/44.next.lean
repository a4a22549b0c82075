/-! the next router on the way, on both sides -/
def nxf (P : Nat → Prop) [DecidablePred P] : Nat → Nat → Nat
  | _, 0 => 99
  | i, c + 1 => if P i then i else nxf P (i + 1) c
theorem nxf_p {P : Nat → Prop} [DecidablePred P] {i c : Nat} (h : P i) : nxf P i (c + 1) = i := if_pos h
theorem nxf_n {P : Nat → Prop} [DecidablePred P] {i c : Nat} (h : ¬ P i) : nxf P i (c + 1) = nxf P (i + 1) c := if_neg h
theorem nxf_r {P : Nat → Prop} [DecidablePred P] : ∀ c i, nxf P i c = 99 ∨ (i ≤ nxf P i c ∧ nxf P i c < i + c ∧ P (nxf P i c)) := by
  intro c
  induction c with
  | zero => intro i; exact Or.inl rfl
  | succ c ih =>
    intro i
    by_cases h : P i
    · rw [nxf_p h]; exact Or.inr ⟨Nat.le_refl _, by omega, h⟩
    · rw [nxf_n h]
      rcases ih (i + 1) with h1 | ⟨h1, h2, h3⟩
      · exact Or.inl h1
      · exact Or.inr ⟨by omega, by omega, h3⟩
abbrev nxP (g : Nat → Nat → Nat) (d : Nat → Nat) (r x : Nat) : Prop := g x r ≠ 0 ∧ d x + g x r = d r
def nxt (n : Nat) (g : Nat → Nat → Nat) (o r : Nat) : Nat := nxf (nxP g (dist n g o) r) 0 n
theorem nxt_lt {n o r : Nat} {g : Nat → Nat → Nat} : nxt n g o r = 99 ∨ (nxt n g o r < n ∧ g (nxt n g o r) r ≠ 0) := by
  rcases nxf_r (P := nxP g (dist n g o) r) n 0 with h | ⟨h1, h2, h3⟩
  · exact Or.inl h
  · exact Or.inr ⟨by unfold nxt; omega, h3.1⟩
section NX
variable {n q o r : Nat} {M N : Mem} {g : Nat → Nat → Nat}
theorem cn_loop (hn : n ≤ 6) (hr : r < n) {d : Nat → Nat} (hd : ∀ v, v < n → M 12 q 0 v = nI (d v)) (hb : ∀ v, d v ≤ 1000) (hg : ∀ r u, r < n → u < n → M 16 r 0 u = nI (g u r)) (h15 : ∀ u v, g u v ≤ 15) : ∀ (c i k : Nat), i + c = n → c < k →
    f_Ways_nextOf_10 n (nI r) M q k (nI i) = some (ownI (nxf (nxP g d r) i c)) := by
  intro c
  induction c with
  | zero =>
    intro i k h1 h2
    obtain ⟨k, rfl⟩ : ∃ k', k = k' + 1 := ⟨k - 1, by omega⟩
    rw [f_Ways_nextOf_10, if_pos (nI_le (by omega) (by omega))]
    rfl
  | succ c ih =>
    intro i k h1 h2
    obtain ⟨k, rfl⟩ : ∃ k', k = k' + 1 := ⟨k - 1, by omega⟩
    have hi : i < n := by omega
    have b1 := hb i
    have b2 := hb r
    have b3 := h15 i r
    rw [f_Ways_nextOf_10, if_neg (nI_ge hi (by omega)), cl_lk hr hi hn (hg r i hr hi) (h15 i r), nI_1]
    show (if (if g i r = 0 then (0 : Int32) else 1) = 0 then _ else _) = some (ownI (if nxP g d r i then i else nxf (nxP g d r) (i + 1) c))
    by_cases h : g i r = 0
    · rw [if_pos h, if_pos rfl, if_neg (fun z => z.1 h)]
      exact ih (i + 1) k (by omega) (by omega)
    · rw [if_neg h, if_neg (by decide), ix_nI hr (by omega), ix_nI hi (by omega)]
      show (if M 16 r 0 i + M 12 q 0 i = M 12 q 0 r then some (nI i) else f_Ways_nextOf_10 n (nI r) M q k (nI (i + 1))) = _
      rw [hg r i hr hi, hd i hi, hd r hr, nI_add]
      by_cases h9 : d i + g i r = d r
      · rw [if_pos (by rw [← h9, Nat.add_comm]), if_pos ⟨h, h9⟩, ownI_r (by omega)]
      · rw [if_neg (fun e => h9 (by have := (nI_eq (by omega) (by omega)).mp e; omega)), if_neg (fun z => h9 z.2)]
        exact ih (i + 1) k (by omega) (by omega)
theorem cn_next (hn : 2 ≤ n ∧ n ≤ 6) (hr : r < n) (hq : q < 4) (hd : ∀ v, v < n → M 12 q 0 v = nI (dist n g o v)) (hg : ∀ r u, r < n → u < n → M 16 r 0 u = nI (g u r)) (h15 : ∀ u v, g u v ≤ 15) : f_Ways_nextOf n (nI r) (nI q) M = some (ownI (nxt n g o r)) := by
  unfold f_Ways_nextOf
  rw [ix_nI hq (by decide)]
  have h := cn_loop hn.2 hr hd (fun v => by rcases dist_cases (o := o) h15 hn v with h | h <;> omega) hg h15 n 0 1000 (by omega) (by omega)
  rw [nI_0] at h
  exact h
theorem mn_loop (hn : 2 ≤ n ∧ n ≤ 6) (hr : r < n) (hg : cstR n g (N 1 0 0)) {d : Nat → Nat} (hc : ∀ v, d v = 1000 ∨ d v ≤ 75) (hF : ∀ v, v < n → N 12 0 0 v = if d v = 1000 then -1 else nI (d v)) : ∀ (c k : Nat), c ≤ n → c < k →
    f_Model_nextOf_15 (nI r) k (nI c - 1) (ownI (nxf (nxP g d r) c (n - c))) N = some (ownI (nxf (nxP g d r) 0 n), N) := by
  intro c
  induction c with
  | zero =>
    intro k h1 h2
    obtain ⟨k, rfl⟩ : ∃ k', k = k' + 1 := ⟨k - 1, by omega⟩
    rw [f_Model_nextOf_15, if_pos (show nI 0 - 1 < 0 by decide)]
    rfl
  | succ c ih =>
    intro k h1 h2
    obtain ⟨k, rfl⟩ : ∃ k', k = k' + 1 := ⟨k - 1, by omega⟩
    obtain ⟨g1, g2, g3, g4⟩ := hg
    have ih := ih k (by omega) (by omega)
    have e1 : nI c + (-1) = nI c - 1 := by rw [Int32.sub_eq_add_neg]
    have e2 : (6 : Int32) * nI r + nI c = nI (6 * r + c) := by rw [show (6 : Int32) = nI 6 from rfl, nI_mul, nI_add]
    have step : nxf (nxP g d r) c (n - c) = if nxP g d r c then c else nxf (nxP g d r) (c + 1) (n - (c + 1)) := by
      rw [show n - c = (n - (c + 1)) + 1 by omega]
      rfl
    have b := g2 c r
    have dc := hc c
    have dr := hc r
    rw [f_Model_nextOf_15, nI_pred, if_neg (nI_pos (by omega)), e2, ix_nI (show 6 * r + c < 36 by omega) (by decide)]
    show (if N 1 0 0 (6 * r + c) ≤ 0 then _ else _) = _
    rw [g1 r c (by omega) (by omega), g4 r c]
    unfold f_Model_nextOf_j83
    rw [e1]
    by_cases h0 : g c r = 0
    · rw [h0, if_pos (show nI 0 ≤ 0 by decide)]
      rw [step, if_neg (fun z => z.1 h0)] at ih
      exact ih
    · rw [if_neg (nI_nle (by omega) (by omega)), ix_nI (show c < 6 by omega) (by decide)]
      show (if N 12 0 0 c < 0 then _ else _) = _
      rw [hF c (by omega)]
      by_cases h3 : d c = 1000
      · rw [if_pos h3, if_pos (by decide)]
        rw [step, if_neg (fun z => by have := z.2; omega)] at ih
        exact ih
      · rw [if_neg h3, if_neg (nI_pos (by omega)), ix_nI (show r < 6 by omega) (by decide)]
        show (if N 12 0 0 r ≤ 0 then _ else _) = _
        rw [hF r hr]
        by_cases h4 : d r = 1000
        · rw [if_pos h4, if_pos (by decide)]
          rw [step, if_neg (fun z => by have := z.2; omega)] at ih
          exact ih
        · rw [if_neg h4]
          by_cases h5 : d r = 0
          · rw [if_pos (show nI (d r) ≤ 0 by rw [h5]; decide)]
            rw [step, if_neg (fun z => by have := z.2; omega)] at ih
            exact ih
          · rw [if_neg (nI_nle (by omega) (by omega))]
            show (if N 12 0 0 c + nI (g c r) = N 12 0 0 r then _ else _) = _
            rw [hF c (by omega), hF r hr, if_neg h3, if_neg h4, nI_add]
            by_cases h6 : d c + g c r = d r
            · rw [if_pos (by rw [h6])]
              rw [step, if_pos ⟨h0, h6⟩, ownI_r (by omega)] at ih
              exact ih
            · rw [if_neg (fun e => h6 ((nI_eq (by omega) (by omega)).mp e))]
              rw [step, if_neg (fun z => h6 z.2)] at ih
              exact ih
theorem mn_next (hn : 2 ≤ n ∧ n ≤ 6) (hr : r < n) (hq : q < 4) (hg : cstR n g (N 1 0 0)) (ho : o = 99 ∨ o < n) (hN : N 0 0 0 1 = nI n) (hO : N 2 0 0 q = ownI o) :
    ∃ F, f_Model_nextOf (nI r) (nI q) N = some (ownI (nxt n g o r), ms N 12 0 0 F) := by
  obtain ⟨F, h1, h2⟩ := mw_measure hn hq hg ho hN hO
  refine ⟨F, ?_⟩
  unfold f_Model_nextOf
  rw [h1]
  have t1 : (ms N 12 0 0 F) 1 = N 1 := ms_t (by decide)
  show f_Model_nextOf_15 (nI r) 1000 ((ms N 12 0 0 F) 0 0 0 1 - 1) (-1) (ms N 12 0 0 F) = _
  rw [ms_t (by decide), hN]
  have h := mn_loop (N := ms N 12 0 0 F) hn hr (by rw [t1]; exact hg) (d := dist n g o) (fun v => dist_cases hg.2.1 hn v) (fun v hv => by rw [ms_same]; exact h2 v hv) n 1000 (Nat.le_refl _) (by omega)
  rw [Nat.sub_self] at h
  exact h
end NX
