/-! own, hop, entry -/
theorem own_inj {n o o' : Nat} (hn : n ≤ 6) (ho : o = 99 ∨ o < n) (ho' : o' = 99 ∨ o' < n) (h : ownI o = ownI o') : o = o' := by
  rcases ho' with rfl | h1
  · exact (own_m1 hn ho).mp h
  · rw [ownI_r (o := o') (by omega)] at h
    exact (own_eq hn h1 ho).mp h
theorem sim_own : Sim_own Rel := by
  intro n M N a b hn h
  obtain ⟨cd, g, ow, lab, tol, aw, h9⟩ := id h
  unfold f_LR_own f_Model_own g_LR_own
  rcases prf a with ⟨p, hp, rfl, e1, e2⟩ | ⟨e1, e2⟩
  · rw [e1, e2]
    rcases rtn (M := M) hn h9.1.1 b with ⟨o, ho, rfl, e3, e4'⟩ | ⟨e3, hb, e4'⟩
    · rw [e3]
      obtain ⟨o1, o2, o3⟩ := h9.1.2.2.1 p hp
      have K : ∀ X, f_Model_own_j28 (nI p) (ownI o) N 1 = some X → (if (1 : Int32) = 0 then f_Model_own_j28 (nI p) (ownI o) N 0 else (if ownI o = -1 then f_Model_own_j28 (nI p) (ownI o) N 1 else ((f_Model_isRouter (ownI o) N).bind fun r17 => if r17 = 0 then (f_Model_own_j28 (nI p) (ownI o) N 0) else (f_Model_own_j28 (nI p) (ownI o) N 1)))) = some X := by
        intro X hX
        rw [if_neg (by decide)]
        rcases e4' with e5 | ⟨e5, e6'⟩
        · rw [if_pos e5]; exact hX
        · rw [if_neg e5, e6']; exact hX
      have C : f_Ways_ownerOf n (nI p) M = some (ownI (ow p)) := by
        unfold f_Ways_ownerOf
        rw [ix_nI hp (by decide)]
        exact congrArg some o2
      by_cases hs : o = ow p
      · subst hs
        refine Or.inl ⟨(ownI (ow p), M), (ownI (ow p), mset N 0 0 0 0 0), ?_, K _ ?_, rfl, rfl, Rel_code h⟩
        · show ((f_Ways_ownerOf n (nI p) M).bind _) = _
          rw [C]
          exact if_pos rfl
        · show ((ix (nI p) 4).bind fun j41 => if (mset N 0 0 0 0 0) 2 0 0 j41 = ownI (ow p) then some ((mset N 0 0 0 0 0) 2 0 0 j41, mset N 0 0 0 0 0) else _) = _
          rw [ix_nI hp (by decide)]
          show (if N 2 0 0 p = ownI (ow p) then some (N 2 0 0 p, mset N 0 0 0 0 0) else _) = _
          rw [o3]
          exact if_pos rfl
      · have hne : ¬ ownI o = ownI (ow p) := fun e => hs (own_inj hn.2 ho o1 e)
        have m1 := cl_measure (n := n) (q := p) (o := o) (M := mset M 3 0 0 p (ownI o)) (g := g) hn hp h9.1.2.1.1 h9.1.2.1.2.1.2.1 ho (by rw [mset_row]; exact upd_same)
        have R : RX 0 n g (fun p' => if p' = p then o else ow p') tol (ms (mset M 3 0 0 p (ownI o)) 12 p 0 (row n (dist n g o) (M 12 p 0))) (mset (mset N 0 0 0 0 0) 2 0 0 p (ownI o)) := by
          obtain ⟨⟨b1, b2, b3, b4, b5, b6, b7, b8, b9⟩, hw⟩ := RR_code (x := 0) h9
          refine ⟨lab, aw, ⟨b1, b2, fun p' hp' => ?_, fun p' v hp' hv => ?_, b5, b6, b7, b8, b9⟩, hw⟩
          · obtain ⟨c1, c2, c3⟩ := b3 p' hp'
            dsimp only
            show _ ∧ upd (M 3 0 0) p (ownI o) p' = _ ∧ upd (N 2 0 0) p (ownI o) p' = _
            by_cases hpp : p' = p
            · subst hpp
              rw [if_pos rfl]
              exact ⟨ho, upd_same, upd_same⟩
            · rw [if_neg hpp, upd_ne hpp, upd_ne hpp]
              exact ⟨c1, c2, c3⟩
          · dsimp only
            by_cases hpp : p' = p
            · subst hpp
              rw [if_pos rfl, ms_same, row_at hv]
            · rw [if_neg hpp, ms_ab (fun z => hpp z.1)]
              exact b4 p' v hp' hv
        obtain ⟨M', N', q1, q2, lab', aw', q3⟩ := sa_rel hn R
        refine Or.inl ⟨(ownI (ow p), M'), (ownI (ow p), N'), ?_, K _ ?_, ?_, rfl, 0, g, _, lab', tol, aw', q3⟩
        · show ((f_Ways_ownerOf n (nI p) M).bind _) = _
          rw [C]
          show (if ownI o = ownI (ow p) then _ else ((f_Ways_setOwner n (nI p) (ownI o) M).bind fun r29 => (f_LR_settleAll n r29).bind fun r33 => some (ownI (ow p), r33))) = _
          rw [if_neg hne]
          unfold f_Ways_setOwner
          rw [ix_nI hp (by decide)]
          show (((f_Ways_measure n (nI p) (mset M 3 0 0 p (ownI o))).bind fun r9 => some r9).bind fun r29 => (f_LR_settleAll n r29).bind fun r33 => some (ownI (ow p), r33)) = _
          rw [m1]
          show ((f_LR_settleAll n (ms (mset M 3 0 0 p (ownI o)) 12 p 0 (row n (dist n g o) (M 12 p 0)))).bind fun r33 => some (ownI (ow p), r33)) = _
          rw [q1]
          rfl
        · show ((ix (nI p) 4).bind fun j41 => if (mset N 0 0 0 0 0) 2 0 0 j41 = ownI o then _ else ((ix (nI p) 4).bind fun j54 => (f_Model_changed (mset (mset N 0 0 0 0 0) 2 0 0 j54 (ownI o))).bind fun r56 => some ((mset N 0 0 0 0 0) 2 0 0 j41, r56))) = _
          rw [ix_nI hp (by decide)]
          show (if N 2 0 0 p = ownI o then _ else ((f_Model_changed (mset (mset N 0 0 0 0 0) 2 0 0 p (ownI o))).bind fun r56 => some (N 2 0 0 p, r56))) = _
          rw [o3, if_neg (fun e => hne e.symm), q2]
          rfl
        · exact q3.1.2.2.2.2.2.2.2.2.2
    · rw [e3]
      refine Or.inr ⟨(0, mset N 0 0 0 0 1), rfl, ?_, rfl, Rel_code h⟩
      show (if b = -1 then _ else _) = _
      rw [if_neg hb, e4']
      rfl
  · rw [e1, e2]
    exact Or.inr ⟨(0, mset N 0 0 0 0 1), rfl, rfl, rfl, Rel_code h⟩
