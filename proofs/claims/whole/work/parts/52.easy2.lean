/-! more calls that only ask; own, serve, and the beginning -/
theorem pair {n : Nat} {M N : Mem} (hn : 2 ≤ n ∧ n ≤ 6) (hN : N 0 0 0 1 = nI n) (a b : Int32) : (∃ i j, i < n ∧ j < n ∧ i ≠ j ∧ a = nI i ∧ b = nI j ∧ f_LR_checkTwoRouters n a b M = some () ∧ f_Model_isPair a b N = some 1) ∨ (f_LR_checkTwoRouters n a b M = none ∧ f_Model_isPair a b N = some 0) := by
  unfold f_LR_checkTwoRouters f_Model_isPair
  rcases rtr (M := M) hn hN a with ⟨i, hi, rfl, e1, e2⟩ | ⟨e1, e2⟩
  · rw [e1, e2]
    rcases rtr (M := M) hn hN b with ⟨j, hj, rfl, e3, e4⟩ | ⟨e3, e4⟩
    · rw [e3, e4]
      by_cases h : i = j
      · subst h
        refine Or.inr ⟨?_, ?_⟩
        · show (if nI i = nI i then none else some ()) = none
          exact if_pos rfl
        · show (if nI i = nI i then some 0 else some 1) = some (0 : Int32)
          exact if_pos rfl
      · have hne : ¬ nI i = nI j := fun e => h ((nI_eq (by omega) (by omega)).mp e)
        refine Or.inl ⟨i, j, hi, hj, h, rfl, rfl, ?_, ?_⟩
        · show (if nI i = nI j then none else some ()) = some ()
          exact if_neg hne
        · show (if nI i = nI j then some 0 else some 1) = some (1 : Int32)
          exact if_neg hne
    · rw [e3, e4]; exact Or.inr ⟨rfl, rfl⟩
  · rw [e1, e2]; exact Or.inr ⟨rfl, rfl⟩
theorem sim_told : Sim_told Rel := by
  intro n M N a b z hn h
  obtain ⟨cd, g, ow, lab, tol, aw, h9⟩ := id h
  unfold f_LR_told f_Model_told g_LR_told
  rcases pair (M := M) hn h9.1.1 a b with ⟨r, x, hr, hx, -, rfl, rfl, e1, e2⟩ | ⟨e1, e2⟩
  · rw [e1, e2]
    rcases prf z with ⟨p, hp, rfl, e3, e4'⟩ | ⟨e3, e4'⟩
    · rw [e3, e4']
      obtain ⟨l1, l2, l3⟩ := h9.1.2.2.2.2.2.1 r x p hr hx hp
      refine Or.inl ⟨nI (tol r x p), (nI (tol r x p), mset N 0 0 0 0 0), ?_, ?_, rfl, rfl, Rel_code h⟩
      · show ((ix (nI r) n).bind fun j => (f_Router_toldBy n j (nI x) (nI p) M).bind fun r16 => some r16) = _
        rw [ix_nI hr (by omega)]
        show ((f_Router_toldBy n r (nI x) (nI p) M).bind fun r16 => some r16) = _
        rw [told_c hn.2 hr hx hp h9.1.2.2.2.2.2.1]
        rfl
      · show ((ix (((24 * nI r) + (4 * nI x)) + nI p) 144).bind fun j38 => some ((mset N 0 0 0 0 0) 5 0 0 j38, mset N 0 0 0 0 0)) = _
        rw [e24, ix_nI (show 24 * r + 4 * x + p < 144 by omega) (by decide)]
        exact congrArg (fun x => some (x, mset N 0 0 0 0 0)) l3
    · rw [e3, e4']
      exact Or.inr ⟨(0, mset N 0 0 0 0 1), rfl, rfl, rfl, Rel_code h⟩
  · rw [e1, e2]
    exact Or.inr ⟨(0, mset N 0 0 0 0 1), rfl, rfl, rfl, Rel_code h⟩
theorem sim_taken : Sim_taken Rel := by
  intro n M N a hn h
  obtain ⟨cd, g, ow, lab, tol, aw, h9⟩ := id h
  unfold f_LR_taken f_Model_taken g_LR_taken
  rcases rtr (M := M) hn h9.1.1 a with ⟨r, hr, rfl, e1, e2⟩ | ⟨e1, e2⟩
  · rw [e1, e2]
    obtain ⟨x, q1, q2⟩ := tc_rel (M := M) (N := mset N 0 0 0 0 0) hn.2 hr h9.1.2.2.2.2.1 h9.1.2.2.2.2.2.2.1
    refine Or.inl ⟨x, (x, mset N 0 0 0 0 0), ?_, ?_, rfl, rfl, Rel_code h⟩
    · show ((ix (nI r) n).bind fun j => (f_Router_takenCount n j M).bind fun r16 => some r16) = _
      rw [ix_nI hr (by omega)]
      show ((f_Router_takenCount n r M).bind fun r16 => some r16) = _
      rw [q1]
      rfl
    · show ((f_Model_takenOf (nI r) (mset N 0 0 0 0 0)).bind fun r14 => some (r14, mset N 0 0 0 0 0)) = _
      rw [q2]
      rfl
  · rw [e1, e2]
    exact Or.inr ⟨(0, mset N 0 0 0 0 1), rfl, rfl, rfl, Rel_code h⟩
theorem sim_next : Sim_next Rel := by
  intro n M N a b hn h
  obtain ⟨cd, g, ow, lab, tol, aw, h9⟩ := id h
  unfold f_LR_next f_Model_next g_LR_next
  rcases rtr (M := M) hn h9.1.1 a with ⟨r, hr, rfl, e1, e2⟩ | ⟨e1, e2⟩
  · rw [e1, e2]
    rcases prf b with ⟨p, hp, rfl, e3, e4'⟩ | ⟨e3, e4'⟩
    · rw [e3, e4']
      obtain ⟨F, q1, q2⟩ := next_m (N := mset N 0 0 0 0 0) hn hr hp (RR_code (x := 0) h9)
      refine Or.inl ⟨ownI (nxt n g (ow p) r), (ownI (nxt n g (ow p) r), ms (mset N 0 0 0 0 0) 12 0 0 F), ?_, ?_, rfl, rfl, 0, g, ow, lab, tol, aw, q2⟩
      · show ((f_Ways_nextOf n (nI r) (nI p) M).bind fun r15 => some r15) = _
        rw [next_c hn hr hp h9]
        rfl
      · show ((f_Model_nextOf (nI r) (nI p) (mset N 0 0 0 0 0)).bind fun r32 => some (r32.1, r32.2)) = _
        rw [q1]
        rfl
    · rw [e3, e4']
      exact Or.inr ⟨(0, mset N 0 0 0 0 1), rfl, rfl, rfl, Rel_code h⟩
  · rw [e1, e2]
    exact Or.inr ⟨(0, mset N 0 0 0 0 1), rfl, rfl, rfl, Rel_code h⟩
theorem sim_distance : Sim_distance Rel := by
  intro n M N a b hn h
  obtain ⟨cd, g, ow, lab, tol, aw, h9⟩ := id h
  unfold f_LR_distance f_Model_distance g_LR_distance
  rcases rtr (M := M) hn h9.1.1 a with ⟨r, hr, rfl, e1, e2⟩ | ⟨e1, e2⟩
  · rw [e1, e2]
    rcases prf b with ⟨p, hp, rfl, e3, e4'⟩ | ⟨e3, e4'⟩
    · rw [e3, e4']
      obtain ⟨o1, -, o3⟩ := h9.1.2.2.1 p hp
      obtain ⟨F, q1, q2⟩ := mw_measure (N := mset N 0 0 0 0 0) hn hp h9.1.2.1.2.1 o1 h9.1.1 o3
      have q3 := q2 r hr
      have q4 := h9.1.2.2.2.1 p r hp hr
      have q5 := dist_cases (o := ow p) h9.1.2.1.2.1.2.1 hn r
      refine Or.inl ⟨F r, (F r, ms (mset N 0 0 0 0 0) 12 0 0 F), ?_, ?_, rfl, rfl, 0, g, ow, lab, tol, aw, by have q9 : RR 0 n g ow lab tol aw M (mset N 0 0 0 0 0) := RR_code h9; exact q9⟩
      · show ((f_Ways_distanceOf n (nI r) (nI p) M).bind fun r15 => some r15) = _
        unfold f_Ways_distanceOf
        rw [ix_nI hp (by decide), ix_nI hr (by omega)]
        show ((if M 12 p 0 r = 1000 then some (-1) else some (M 12 p 0 r)).bind fun r15 => some r15) = _
        rw [q4, q3]
        by_cases h0 : dist n g (ow p) r = 1000
        · rw [if_pos (show nI (dist n g (ow p) r) = 1000 by rw [h0]; rfl), if_pos h0]; rfl
        · rw [if_neg (show ¬ nI (dist n g (ow p) r) = 1000 from fun e => h0 ((nI_eq (b := 1000) (by omega) (by decide)).mp e)), if_neg h0]; rfl
      · show ((f_Model_measure (nI p) (mset N 0 0 0 0 0)).bind fun r33 => (ix (nI r) 6).bind fun j41 => some (r33 12 0 0 j41, r33)) = _
        rw [q1, ix_nI (show r < 6 by omega) (by decide)]
        exact congrArg (fun x => some (x, ms (mset N 0 0 0 0 0) 12 0 0 F)) (congrFun ms_same r)
    · rw [e3, e4']
      exact Or.inr ⟨(0, mset N 0 0 0 0 1), rfl, rfl, rfl, Rel_code h⟩
  · rw [e1, e2]
    exact Or.inr ⟨(0, mset N 0 0 0 0 1), rfl, rfl, rfl, Rel_code h⟩
