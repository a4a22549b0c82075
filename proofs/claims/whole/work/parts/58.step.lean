/-! step and run -/
section SP
variable {cd : Int32} {n w x y : Nat} {g : Nat → Nat → Nat} {ow : Nat → Nat} {lab : Nat → Nat → Nat} {tol : Nat → Nat → Nat → Nat} {aw : Nat → Nat → Nat} {M N : Mem} {ml : Nat → Msg}
theorem first_rel (hn : n ≤ 6) (hx : x < n) (hy : y < n) (h : VMM n w ml M N) : ∀ (c i k k' : Nat), i + c = w → c < k → c < k' →
    (f_Mail_firstBetween_2 n (nI x) (nI y) M k (nI i) = some (-1) ∧ f_Model_step_17 (nI x) (nI y) k' (nI i) N = some (0, N)) ∨ ∃ j, j < w ∧ f_Mail_firstBetween_2 n (nI x) (nI y) M k (nI i) = some (nI j) ∧ f_Model_step_17 (nI x) (nI y) k' (nI i) N = (f_Model_come (nI j) N).bind fun r => some (r.1, r.2) := by
  obtain ⟨w1, w2, w3, w4, w5⟩ := h
  intro c
  induction c with
  | zero =>
    intro i k k' h1 h2 h3
    obtain ⟨k, rfl⟩ : ∃ k', k = k' + 1 := ⟨k - 1, by omega⟩
    obtain ⟨k', rfl⟩ : ∃ k'', k' = k'' + 1 := ⟨k' - 1, by omega⟩
    have e : nI w ≤ nI i := nI_le (by omega) (by omega)
    rw [f_Mail_firstBetween_2, f_Model_step_17, w2, w3, if_pos e, if_pos e]
    exact Or.inl ⟨rfl, rfl⟩
  | succ c ih =>
    intro i k k' h1 h2 h3
    obtain ⟨k, rfl⟩ : ∃ k', k = k' + 1 := ⟨k - 1, by omega⟩
    obtain ⟨k', rfl⟩ : ∃ k'', k' = k'' + 1 := ⟨k' - 1, by omega⟩
    have e : ¬ nI w ≤ nI i := nI_ge (by omega) (by omega)
    obtain ⟨hm, m6, m7, m8, m9, m10, m11⟩ := w5 i (by omega)
    obtain ⟨d1, d2, d3, d4, d5⟩ := pk_dec hn hm
    obtain ⟨-, hF, hT, -⟩ := hm
    rw [f_Mail_firstBetween_2, f_Model_step_17, w2, w3, if_neg e, if_neg e, ix_nI (show i < 240 by omega) (by decide), nI_1]
    simp only [Option.bind_some]
    rw [m6, m7, m8, d2, d3]
    simp only [Option.bind_some]
    have I := ih (i + 1) k k' (by omega) (by omega) (by omega)
    by_cases a1 : (ml i).2.1 = x
    · by_cases a2 : (ml i).2.2.1 = y
      · refine Or.inr ⟨i, by omega, ?_, ?_⟩
        · rw [a1, a2, if_pos rfl, if_pos rfl]
        · rw [a1, a2, if_pos rfl, if_pos rfl]
      · have n2 : ¬ nI (ml i).2.2.1 = nI y := fun e => a2 ((nI_eq (by omega) (by omega)).mp e)
        rw [a1, if_pos rfl, if_neg n2, if_pos rfl, if_neg n2]
        exact I
    · have n1 : ¬ nI (ml i).2.1 = nI x := fun e => a1 ((nI_eq (by omega) (by omega)).mp e)
      rw [if_neg n1, if_neg n1]
      exact I
end SP
def RY (cd : Int32) (n : Nat) (M N : Mem) : Prop := ∃ g ow lab tol aw, RR cd n g ow lab tol aw M N
theorem RY_Rel {cd : Int32} {n : Nat} {M N : Mem} (h : RY cd n M N) : Rel n M N := ⟨cd, h⟩
theorem RY_cd {cd : Int32} {n : Nat} {M N : Mem} (h : RY cd n M N) : N 0 0 0 0 = cd := by
  obtain ⟨_, _, _, _, _, h⟩ := h
  exact h.1.2.2.2.2.2.2.2.2.2
theorem RX_RY {cd : Int32} {n : Nat} {g : Nat → Nat → Nat} {ow : Nat → Nat} {tol : Nat → Nat → Nat → Nat} {M N : Mem} (h : RX cd n g ow tol M N) : RY cd n M N := by
  obtain ⟨lab, aw, h⟩ := h
  exact ⟨g, ow, lab, tol, aw, h⟩
theorem sim_step : Sim_step Rel := by
  intro n M N a b hn h
  obtain ⟨cd, g, ow, lab, tol, aw, h9⟩ := id h
  unfold f_LR_step f_Model_step g_LR_step
  rcases pair (M := M) hn h9.1.1 a b with ⟨x, y, hx, hy, -, rfl, rfl, e1, e2⟩ | ⟨e1, e2⟩
  · rw [e1, e2]
    obtain ⟨hB, w, ml, hw⟩ := RR_code (x := 0) h9
    refine Or.inl ?_
    have F := first_rel hn.2 hx hy hw w 0 1000 1000 (by omega) (by have := hw.1; omega) (by have := hw.1; omega)
    rw [nI_0] at F
    rcases F with ⟨q1, q2⟩ | ⟨j, hj, q1, q2⟩
    · refine ⟨(0, M), (0, mset N 0 0 0 0 0), ?_, ?_, rfl, rfl, Rel_code h⟩
      · show ((f_Mail_firstBetween_2 n (nI x) (nI y) M 1000 0).bind _) = _
        rw [q1]
        rfl
      · exact q2
    · obtain ⟨M', N', tol', c1, c2, c3, c4⟩ := come_rel hn hj hB hw
      refine ⟨(nI (ml j).1, M'), (nI (ml j).1, N'), ?_, ?_, RY_cd (RX_RY c4), rfl, RY_Rel (RX_RY c4)⟩
      · show ((f_Mail_firstBetween_2 n (nI x) (nI y) M 1000 0).bind _) = _
        rw [q1]
        have hne : ¬ nI j = -1 := fun e => nI_pos (n := j) (by have := hw.1; omega) (e ▸ by decide)
        refine (if_neg hne).trans ?_
        rw [c1]
        show ((f_LR_receive n (nI (pk (ml j))) (tkn j w M)).bind fun r => (f_Mail_kindOf (nI (pk (ml j)))).bind fun r' => some (r', r)) = _
        rw [c2, (pk_dec hn.2 (hw.2.2.2.2 j hj).1).1]
        rfl
      · refine q2.trans ?_
        rw [c3]
        rfl
  · rw [e1, e2]
    exact Or.inr ⟨(0, mset N 0 0 0 0 1), rfl, rfl, rfl, Rel_code h⟩
theorem run_loop {cd : Int32} {n A : Nat} (hn : 2 ≤ n ∧ n ≤ 6) (hA : A ≤ 400) : ∀ (c i k k' : Nat) (M N : Mem), i + c = A → c < k → c < k' → RY cd n M N →
    ∃ v M' N', f_LR_run_10 n (nI A) k (nI i) M = some (v, M') ∧ f_Model_run_17 (nI A) k' (nI i) N = some (v, N') ∧ RY cd n M' N' := by
  intro c
  induction c with
  | zero =>
    intro i k k' M N h1 h2 h3 h
    obtain ⟨k, rfl⟩ : ∃ k', k = k' + 1 := ⟨k - 1, by omega⟩
    obtain ⟨k', rfl⟩ : ∃ k'', k' = k'' + 1 := ⟨k' - 1, by omega⟩
    have e : nI A ≤ nI i := nI_le (by omega) (by omega)
    rw [f_LR_run_10, f_Model_run_17, if_pos e, if_pos e]
    exact ⟨_, M, N, rfl, rfl, h⟩
  | succ c ih =>
    intro i k k' M N h1 h2 h3 h
    obtain ⟨k, rfl⟩ : ∃ k', k = k' + 1 := ⟨k - 1, by omega⟩
    obtain ⟨k', rfl⟩ : ∃ k'', k' = k'' + 1 := ⟨k' - 1, by omega⟩
    have e : ¬ nI A ≤ nI i := nI_ge (by omega) (by omega)
    obtain ⟨g, ow, lab, tol, aw, hB, w, ml, hw⟩ := id h
    rw [f_LR_run_10, f_Model_run_17, if_neg e, if_neg e]
    unfold f_Mail_size
    rw [hw.2.1, hw.2.2.1]
    simp only [Option.bind_some]
    by_cases hw0 : w = 0
    · subst hw0
      rw [if_pos (show nI 0 ≤ 0 by decide), if_pos (show nI 0 ≤ 0 by decide)]
      exact ⟨_, M, N, rfl, rfl, h⟩
    · have hle : ¬ nI w ≤ 0 := nI_nle (by omega) (by have := hw.1; omega)
      rw [if_neg hle, if_neg hle]
      obtain ⟨M', N', tol', c1, c2, c3, c4⟩ := come_rel hn (show 0 < w by omega) hB hw
      obtain ⟨⟨hK, hK'⟩, -⟩ := (hw.2.2.2.2 0 (by omega)).1
      rw [nI_0] at c1 c3
      rw [c1, c3]
      simp only [Option.bind_some]
      rw [c2, if_neg (nI_nle (n := (ml 0).1) (by omega) (by omega))]
      unfold f_Model_run_j46
      rw [nI_1]
      exact ih (i + 1) k k' M' N' (by omega) (by omega) (by omega) (RX_RY c4)
theorem sim_run : Sim_run Rel := by
  intro n M N a hn h
  obtain ⟨cd, g, ow, lab, tol, aw, h9⟩ := id h
  unfold f_LR_run f_Model_run g_LR_run
  rcases rng a 0 400 with ⟨h1, h2, e1, e2⟩ | ⟨e1, e2⟩
  · rw [e1, e2]
    obtain ⟨A, hA, rfl⟩ := nI_of2 (M := 400) (n := 400) (by decide) h1 h2
    obtain ⟨v, M', N', q1, q2, q3⟩ := run_loop hn hA A 0 1000 1000 M (mset N 0 0 0 0 0) (by omega) (by omega) (by omega) ⟨g, ow, lab, tol, aw, RR_code (x := 0) h9⟩
    rw [nI_0] at q1 q2
    exact Or.inl ⟨(v, M'), (v, N'), q1, q2, RY_cd q3, rfl, RY_Rel q3⟩
  · rw [e1, e2]
    exact Or.inr ⟨(0, mset N 0 0 0 0 1), rfl, rfl, rfl, Rel_code h⟩
