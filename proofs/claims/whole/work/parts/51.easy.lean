/-! all routers settle; the calls that only ask -/
section SL
variable {cd : Int32} {n r : Nat} {g : Nat → Nat → Nat} {ow : Nat → Nat} {tol : Nat → Nat → Nat → Nat}
theorem RX_n {M N : Mem} (h : RX cd n g ow tol M N) : N 0 0 0 1 = nI n := by
  obtain ⟨_, _, h⟩ := h
  exact h.1.1
theorem sp_loop (hn : 2 ≤ n ∧ n ≤ 6) (hr : r < n) : ∀ (c i k k' : Nat) (M N : Mem), i + c = 4 → c < k → c < k' → RX cd n g ow tol M N →
    ∃ M' N', f_LR_settlePrefixes_2 n (nI r) k (nI i) M = some M' ∧ f_Model_settleAll_2 (nI r) k' (nI i) N = some N' ∧ RX cd n g ow tol M' N' := by
  intro c
  induction c with
  | zero =>
    intro i k k' M N h1 h2 h3 h
    obtain ⟨k, rfl⟩ : ∃ k', k = k' + 1 := ⟨k - 1, by omega⟩
    obtain ⟨k', rfl⟩ : ∃ k'', k' = k'' + 1 := ⟨k' - 1, by omega⟩
    have e : (4 : Int32) ≤ nI i := nI_le (a := 4) (by omega) (by omega)
    rw [f_LR_settlePrefixes_2, f_Model_settleAll_2, if_pos e, if_pos e]
    exact ⟨M, N, rfl, rfl, h⟩
  | succ c ih =>
    intro i k k' M N h1 h2 h3 h
    obtain ⟨k, rfl⟩ : ∃ k', k = k' + 1 := ⟨k - 1, by omega⟩
    obtain ⟨k', rfl⟩ : ∃ k'', k' = k'' + 1 := ⟨k' - 1, by omega⟩
    have e : ¬ (4 : Int32) ≤ nI i := nI_ge (b := 4) (by omega) (by omega)
    obtain ⟨M1, N1, q1, q2, q3⟩ := settle_rel hn hr (show i < 4 by omega) h
    rw [f_LR_settlePrefixes_2, f_Model_settleAll_2, if_neg e, if_neg e, q1, q2, nI_1]
    exact ih (i + 1) k k' M1 N1 (by omega) (by omega) (by omega) q3
theorem sp_rel {M N : Mem} (hn : 2 ≤ n ∧ n ≤ 6) (hr : r < n) (h : RX cd n g ow tol M N) : ∃ M' N', f_LR_settlePrefixes n (nI r) M = some M' ∧ f_Model_settleAll (nI r) N = some N' ∧ RX cd n g ow tol M' N' := by
  obtain ⟨M', N', q1, q2, q3⟩ := sp_loop hn hr 4 0 1000 1000 M N (by omega) (by omega) (by omega) h
  rw [nI_0] at q1 q2
  exact ⟨M', N', q1, q2, q3⟩
theorem sa_loop (hn : 2 ≤ n ∧ n ≤ 6) : ∀ (c i k k' : Nat) (M N : Mem), i + c = n → c < k → c < k' → RX cd n g ow tol M N →
    ∃ M' N', f_LR_settleAll_2 n k (nI i) M = some M' ∧ f_Model_changed_2 k' (nI i) N = some N' ∧ RX cd n g ow tol M' N' := by
  intro c
  induction c with
  | zero =>
    intro i k k' M N h1 h2 h3 h
    obtain ⟨k, rfl⟩ : ∃ k', k = k' + 1 := ⟨k - 1, by omega⟩
    obtain ⟨k', rfl⟩ : ∃ k'', k' = k'' + 1 := ⟨k' - 1, by omega⟩
    have e : nI n ≤ nI i := nI_le (by omega) (by omega)
    rw [f_LR_settleAll_2, f_Model_changed_2, RX_n h, if_pos e, if_pos e]
    exact ⟨M, N, rfl, rfl, h⟩
  | succ c ih =>
    intro i k k' M N h1 h2 h3 h
    obtain ⟨k, rfl⟩ : ∃ k', k = k' + 1 := ⟨k - 1, by omega⟩
    obtain ⟨k', rfl⟩ : ∃ k'', k' = k'' + 1 := ⟨k' - 1, by omega⟩
    have e : ¬ nI n ≤ nI i := nI_ge (by omega) (by omega)
    obtain ⟨M1, N1, q1, q2, q3⟩ := sp_rel hn (show i < n by omega) h
    rw [f_LR_settleAll_2, f_Model_changed_2, RX_n h, if_neg e, if_neg e, q1, q2, nI_1]
    exact ih (i + 1) k k' M1 N1 (by omega) (by omega) (by omega) q3
theorem sa_rel {M N : Mem} (hn : 2 ≤ n ∧ n ≤ 6) (h : RX cd n g ow tol M N) : ∃ M' N', f_LR_settleAll n M = some M' ∧ f_Model_changed N = some N' ∧ RX cd n g ow tol M' N' := by
  obtain ⟨M', N', q1, q2, q3⟩ := sa_loop hn n 0 1000 1000 M N (by omega) (by omega) (by omega) h
  rw [nI_0] at q1 q2
  exact ⟨M', N', q1, q2, q3⟩
end SL
theorem Rel_code {n : Nat} {M N : Mem} {x : Int32} (h : Rel n M N) : Rel n M (mset N 0 0 0 0 x) := by
  obtain ⟨cd, g, ow, lab, tol, aw, h⟩ := h
  exact ⟨x, g, ow, lab, tol, aw, RR_code h⟩
theorem sim_waiting : Sim_waiting Rel := by
  intro n M N hn h
  refine ⟨_, _, rfl, rfl, ?_, Rel_code h⟩
  obtain ⟨_, _, _, _, _, _, -, w, ml, w1, w2, w3, -⟩ := h
  exact w2.trans w3.symm
theorem sim_lost : Sim_lost Rel := by
  intro n M N hn h
  refine ⟨_, _, rfl, rfl, ?_, Rel_code h⟩
  obtain ⟨_, _, _, _, _, _, -, w, ml, w1, w2, w3, w4, -⟩ := h
  exact w4
theorem sim_hops : Sim_hops Rel := by
  intro n M N hn h
  refine ⟨_, _, rfl, rfl, ?_, Rel_code h⟩
  obtain ⟨_, _, _, _, _, _, ⟨-, -, -, -, -, -, -, -, ⟨k, k1, k2, k3, -⟩, -⟩, -⟩ := h
  exact k2.trans k3.symm
theorem rng (a lo hi : Int32) : (¬ a < lo ∧ a ≤ hi ∧ f_LR_checkRange a lo hi = some () ∧ f_Model_within a lo hi = some 1) ∨ (f_LR_checkRange a lo hi = none ∧ f_Model_within a lo hi = some 0) := by
  unfold f_LR_checkRange f_Model_within
  by_cases h1 : a < lo
  · rw [if_pos h1, if_pos h1]; exact Or.inr ⟨rfl, rfl⟩
  · rw [if_neg h1, if_neg h1]
    by_cases h2 : a ≤ hi
    · rw [if_pos h2, if_neg (Int32.not_lt.mpr h2)]; exact Or.inl ⟨h1, h2, rfl, rfl⟩
    · rw [if_neg h2, if_pos (Int32.not_le.mp h2)]; exact Or.inr ⟨rfl, rfl⟩
theorem rtr {n : Nat} {M N : Mem} (hn : 2 ≤ n ∧ n ≤ 6) (hN : N 0 0 0 1 = nI n) (a : Int32) : (∃ i, i < n ∧ a = nI i ∧ f_LR_checkRouter n a M = some () ∧ f_Model_isRouter a N = some 1) ∨ (f_LR_checkRouter n a M = none ∧ f_Model_isRouter a N = some 0) := by
  obtain ⟨m, rfl⟩ : ∃ m, n = m + 1 := ⟨n - 1, by omega⟩
  unfold f_LR_checkRouter f_Model_isRouter
  rw [hN, nI_pred]
  rcases rng a 0 (nI m) with ⟨h1, h2, h3, h4⟩ | ⟨h3, h4⟩
  · obtain ⟨j, hj, rfl⟩ := nI_of2 (nI_toInt (n := m) (by omega)) h1 h2
    rw [h3, h4]
    exact Or.inl ⟨j, by omega, rfl, rfl, rfl⟩
  · rw [h3, h4]
    exact Or.inr ⟨rfl, rfl⟩
theorem prf (a : Int32) : (∃ i, i < 4 ∧ a = nI i ∧ f_LR_checkPrefix a = some () ∧ f_Model_within a 0 3 = some 1) ∨ (f_LR_checkPrefix a = none ∧ f_Model_within a 0 3 = some 0) := by
  unfold f_LR_checkPrefix
  rcases rng a 0 3 with ⟨h1, h2, h3, h4⟩ | ⟨h3, h4⟩
  · obtain ⟨j, hj, rfl⟩ := nI_of2 (M := 3) (n := 3) (by decide) h1 h2
    rw [h3, h4]
    exact Or.inl ⟨j, by omega, rfl, rfl, rfl⟩
  · rw [h3, h4]
    exact Or.inr ⟨rfl, rfl⟩
theorem sim_label : Sim_label Rel := by
  intro n M N a b hn h
  obtain ⟨cd, g, ow, lab, tol, aw, h9⟩ := id h
  unfold f_LR_label f_Model_label g_LR_label
  rcases rtr (M := M) hn h9.1.1 a with ⟨r, hr, rfl, e1, e2⟩ | ⟨e1, e2⟩
  · rw [e1, e2]
    rcases prf b with ⟨p, hp, rfl, e3, e4'⟩ | ⟨e3, e4'⟩
    · rw [e3, e4']
      obtain ⟨l1, l2, l3⟩ := h9.1.2.2.2.2.1 r p hr hp
      refine Or.inl ⟨nI (lab r p), (nI (lab r p), mset N 0 0 0 0 0), ?_, ?_, rfl, rfl, Rel_code h⟩
      · show ((ix (nI r) n).bind fun j14 => (f_Router_labelOf n j14 (nI p) M).bind fun r16 => some r16) = _
        rw [ix_nI hr (by omega)]
        show ((f_Router_labelOf n r (nI p) M).bind fun r16 => some r16) = _
        unfold f_Router_labelOf
        rw [ix_nI hp (by decide)]
        exact congrArg some l2
      · show ((ix ((4 * nI r) + nI p) 24).bind fun j38 => some ((mset N 0 0 0 0 0) 4 0 0 j38, mset N 0 0 0 0 0)) = _
        rw [e4, ix_nI (show 4 * r + p < 24 by omega) (by decide)]
        exact congrArg (fun x => some (x, mset N 0 0 0 0 0)) l3
    · rw [e3, e4']
      exact Or.inr ⟨(0, mset N 0 0 0 0 1), rfl, rfl, rfl, Rel_code h⟩
  · rw [e1, e2]
    exact Or.inr ⟨(0, mset N 0 0 0 0 1), rfl, rfl, rfl, Rel_code h⟩
