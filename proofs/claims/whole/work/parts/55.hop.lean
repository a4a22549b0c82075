/-! hop and entry -/
theorem hopc {n h : Nat} {M N : Mem} (hh : h ≤ 255) (h1 : M 9 0 0 2 = nI h) (h2 : N 0 0 0 21 = nI h) (a : Int32) : (∃ j, j < h ∧ a = nI j ∧ f_LR_checkHop n a M = some () ∧ f_Model_within a 0 ((N 0 0 0 21) - 1) = some 1) ∨ (f_LR_checkHop n a M = none ∧ f_Model_within a 0 ((N 0 0 0 21) - 1) = some 0) := by
  unfold f_LR_checkHop f_Model_within f_Packet_placeCount
  rw [h1, h2]
  by_cases ha : a < 0
  · rw [if_pos ha, if_pos ha]; exact Or.inr ⟨rfl, rfl⟩
  · rw [if_neg ha, if_neg ha]
    obtain ⟨j, hj, rfl⟩ := nI_of ha
    show (∃ j9, j9 < h ∧ nI j = nI j9 ∧ (if nI j < nI h then some () else none) = some () ∧ _) ∨ ((if nI j < nI h then some () else none) = none ∧ _)
    by_cases hl : j < h
    · refine Or.inl ⟨j, hl, rfl, if_pos (nI_lt hl (by omega)), if_neg ?_⟩
      obtain ⟨m, rfl⟩ : ∃ m, h = m + 1 := ⟨h - 1, by omega⟩
      rw [nI_pred]
      exact nI_nlt (by omega) (by omega)
    · refine Or.inr ⟨if_neg (nI_nlt (by omega) (by omega)), if_pos ?_⟩
      rcases Nat.eq_zero_or_pos h with h0 | h0
      · subst h0
        exact Int32.lt_of_lt_of_le (show nI 0 - 1 < 0 by decide) (nI_pos' hj)
      · obtain ⟨m, rfl⟩ : ∃ m, h = m + 1 := ⟨h - 1, by omega⟩
        rw [nI_pred]
        exact nI_lt (by omega) (by omega)
theorem sim_hop : Sim_hop Rel := by
  intro n M N a hn h
  obtain ⟨cd, g, ow, lab, tol, aw, h9⟩ := id h
  obtain ⟨hp, k1, k2, k3, k4⟩ := h9.1.2.2.2.2.2.2.2.2.1
  unfold f_LR_hop f_Model_hop g_LR_hop
  rcases hopc (n := n) k1 k2 k3 a with ⟨j, hj, rfl, e1, e2⟩ | ⟨e1, e2⟩
  · rw [e1, e2]
    refine Or.inl ⟨M 10 0 0 j, (N 13 0 0 j, mset N 0 0 0 0 0), ?_, ?_, rfl, (k4 j hj).1, Rel_code h⟩
    · show ((f_Packet_placeAt n (nI j) M).bind fun r10 => some r10) = _
      unfold f_Packet_placeAt
      rw [ix_nI (show j < 255 by omega) (by decide)]
      rfl
    · show ((ix (nI j) 300).bind fun j23 => some ((mset N 0 0 0 0 0) 13 0 0 j23, mset N 0 0 0 0 0)) = _
      rw [ix_nI (show j < 300 by omega) (by decide)]
      rfl
  · rw [e1, e2]
    exact Or.inr ⟨(0, mset N 0 0 0 0 1), rfl, rfl, rfl, Rel_code h⟩
theorem sim_entry : Sim_entry Rel := by
  intro n M N a hn h
  obtain ⟨cd, g, ow, lab, tol, aw, h9⟩ := id h
  obtain ⟨hp, k1, k2, k3, k4⟩ := h9.1.2.2.2.2.2.2.2.2.1
  unfold f_LR_entry f_Model_entry g_LR_entry
  rcases hopc (n := n) k1 k2 k3 a with ⟨j, hj, rfl, e1, e2⟩ | ⟨e1, e2⟩
  · rw [e1, e2]
    refine Or.inl ⟨M 11 0 0 j, (N 14 0 0 j, mset N 0 0 0 0 0), ?_, ?_, rfl, (k4 j hj).2, Rel_code h⟩
    · show ((f_Packet_entryAt n (nI j) M).bind fun r10 => some r10) = _
      unfold f_Packet_entryAt
      rw [ix_nI (show j < 255 by omega) (by decide)]
      rfl
    · show ((ix (nI j) 300).bind fun j23 => some ((mset N 0 0 0 0 0) 14 0 0 j23, mset N 0 0 0 0 0)) = _
      rw [ix_nI (show j < 300 by omega) (by decide)]
      rfl
  · rw [e1, e2]
    exact Or.inr ⟨(0, mset N 0 0 0 0 1), rfl, rfl, rfl, Rel_code h⟩
