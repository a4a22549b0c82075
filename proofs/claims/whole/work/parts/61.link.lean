/-! link -/
section LK
variable {cd : Int32} {n x y : Nat} {g : Nat → Nat → Nat} {ow : Nat → Nat} {lab : Nat → Nat → Nat} {tol : Nat → Nat → Nat → Nat} {aw : Nat → Nat → Nat} {M N : Mem}
theorem off_rel (hn : n ≤ 6) (hxy : x ≠ y) (hx : x < n) (hy : y < n) (h : RR cd n g ow lab tol aw M N) : ∃ M' N' tol', f_LR_cutOff n (nI x) (nI y) M = some M' ∧ f_Model_forget (nI x) (nI y) N = some N' ∧ RX cd n g ow tol' M' N' := by
  obtain ⟨M1, N1, q1, q2, q3⟩ := db_rel hn hxy hx hy h
  have t1 := rf_tol (N := N1) (F := N1 5 0 0) (x := x) (y := y) (by omega) (by omega) 4 0 1000 (by omega) (by omega)
  rw [ms_self, nI_0] at t1
  have t2 := rf_aw (N := ms N1 5 0 0 (fun j => if (24 * x + 4 * y + 0 ≤ j ∧ j < 24 * x + 4 * y + 4) ∨ (24 * y + 4 * x + 0 ≤ j ∧ j < 24 * y + 4 * x + 4) then 0 else N1 5 0 0 j)) (F := N1 6 0 0) (x := x) (y := y) (by omega) (by omega) 8 0 1000 (by omega) (by omega)
  rw [show ms (ms N1 5 0 0 (fun j => if (24 * x + 4 * y + 0 ≤ j ∧ j < 24 * x + 4 * y + 4) ∨ (24 * y + 4 * x + 0 ≤ j ∧ j < 24 * y + 4 * x + 4) then 0 else N1 5 0 0 j)) 6 0 0 (N1 6 0 0) = ms N1 5 0 0 (fun j => if (24 * x + 4 * y + 0 ≤ j ∧ j < 24 * x + 4 * y + 4) ∨ (24 * y + 4 * x + 0 ≤ j ∧ j < 24 * y + 4 * x + 4) then 0 else N1 5 0 0 j) from ms_self (ms N1 5 0 0 (fun j => if (24 * x + 4 * y + 0 ≤ j ∧ j < 24 * x + 4 * y + 4) ∨ (24 * y + 4 * x + 0 ≤ j ∧ j < 24 * y + 4 * x + 4) then 0 else N1 5 0 0 j)) 6 0 0, nI_0] at t2
  unfold f_LR_cutOff
  rw [q1, q2, t1, t2, Option.bind_some, ix_nI hx (by omega), ix_nI hy (by omega), Option.bind_some, cf_rel (by omega), Option.bind_some, Option.bind_some, cf_rel (by omega), Option.bind_some]
  obtain ⟨⟨b1, b2, b3, b4, b5, b6, b7, b8, b9⟩, w, ml, hw⟩ := q3
  refine ⟨_, _, fun r x' p => if (r = x ∧ x' = y) ∨ (r = y ∧ x' = x) then 0 else tol r x' p, rfl, rfl, lab, fun r k => if r = x then clr (aw r k) y else if r = y then clr (aw r k) x else aw r k, ⟨b1, b2, b3, b4, b5, fun r x' p hr hx' hp => ?_, fun r k hr hk => ?_, b8, b9⟩, w, ml, hw⟩
  · obtain ⟨a1, a2, a3⟩ := b6 r x' p hr hx' hp
    dsimp only
    refine ⟨?_, ?_, ?_⟩
    · by_cases hc : (r = x ∧ x' = y) ∨ (r = y ∧ x' = x)
      · rw [if_pos hc]; exact Or.inl rfl
      · rw [if_neg hc]; exact a1
    · rw [ms_t (by decide)]
      by_cases c1 : r = y ∧ x' = x
      · obtain ⟨rfl, rfl⟩ := c1
        rw [ms_same, if_pos hp, if_pos (Or.inr ⟨rfl, rfl⟩)]
        rfl
      · rw [ms_ab c1, ms_t (by decide)]
        by_cases c2 : r = x ∧ x' = y
        · obtain ⟨rfl, rfl⟩ := c2
          rw [ms_same, if_pos hp, if_pos (Or.inl ⟨rfl, rfl⟩)]
          rfl
        · rw [ms_ab c2, if_neg (fun o => o.elim c2 c1)]
          exact a2
    · rw [ms_t (by decide), ms_same]
      by_cases hc : (r = x ∧ x' = y) ∨ (r = y ∧ x' = x)
      · rw [if_pos hc, if_pos (by omega)]
        rfl
      · rw [if_neg hc, if_neg (by omega)]
        exact a3
  · obtain ⟨a1, a2, a3⟩ := b7 r k hr hk
    dsimp only
    refine ⟨?_, ?_, fun x' hx' => ?_⟩
    · by_cases c1 : r = x
      · rw [if_pos c1]; exact clr_lt _ a1 y (by omega)
      · rw [if_neg c1]
        by_cases c2 : r = y
        · rw [if_pos c2]; exact clr_lt _ a1 x (by omega)
        · rw [if_neg c2]; exact a1
    · by_cases c1 : r = x
      · subst c1
        rw [if_pos rfl, ms_ab (by omega), ms_t (by decide), ms_same, if_pos hk, a2]
        exact and64 _ a1 y (by omega)
      · rw [if_neg c1]
        by_cases c2 : r = y
        · subst c2
          rw [if_pos rfl, ms_same, if_pos hk, ms_ab (by omega), ms_t (by decide), a2]
          exact and64 _ a1 x (by omega)
        · rw [if_neg c2, ms_ab (by omega), ms_t (by decide), ms_ab (by omega), ms_t (by decide)]
          exact a2
    · rw [ms_same]
      have a4 := a3 x' hx'
      by_cases c1 : r = x
      · simp only [if_pos c1, clr_bit _ a1 y (by omega) x' hx']
        by_cases c3 : x' = y
        · rw [if_pos (by omega)]
          simp only [if_pos c3]
          rfl
        · rw [if_neg (by omega)]
          simp only [if_neg c3]
          exact a4
      · simp only [if_neg c1]
        by_cases c2 : r = y
        · simp only [if_pos c2, clr_bit _ a1 x (by omega) x' hx']
          by_cases c3 : x' = x
          · rw [if_pos (by omega)]
            simp only [if_pos c3]
            rfl
          · rw [if_neg (by omega)]
            simp only [if_neg c3]
            exact a4
        · simp only [if_neg c2]
          rw [if_neg (by omega)]
          exact a4
theorem setc_loop (hn : 2 ≤ n ∧ n ≤ 6) (h15 : ∀ u v, g u v ≤ 15) : ∀ (c i k : Nat) (M : Mem), i + c = 4 → c < k → (∀ r u, r < n → u < n → M 16 r 0 u = nI (g u r)) → (∀ p, p < 4 → (ow p = 99 ∨ ow p < n) ∧ M 3 0 0 p = ownI (ow p)) → (∀ p v, p < i → v < n → M 12 p 0 v = nI (dist n g (ow p) v)) →
    ∃ M', f_Ways_setCost_21 n k (nI i) M = some M' ∧ (∀ t, t ≠ 12 → M' t = M t) ∧ VD n g ow (M' 12) := by
  intro c
  induction c with
  | zero =>
    intro i k M h1 h2 hg ho hd
    obtain ⟨k, rfl⟩ : ∃ k', k = k' + 1 := ⟨k - 1, by omega⟩
    rw [f_Ways_setCost_21, if_pos (show (4 : Int32) ≤ nI i from nI_le (a := 4) (by omega) (by omega))]
    exact ⟨M, rfl, fun t _ => rfl, fun p v hp hv => hd p v (by omega) hv⟩
  | succ c ih =>
    intro i k M h1 h2 hg ho hd
    obtain ⟨k, rfl⟩ : ∃ k', k = k' + 1 := ⟨k - 1, by omega⟩
    rw [f_Ways_setCost_21, if_neg (show ¬ (4 : Int32) ≤ nI i from nI_ge (b := 4) (by omega) (by omega)), cl_measure (g := g) hn (show i < 4 by omega) hg h15 (ho i (by omega)).1 (ho i (by omega)).2, Option.bind_some, nI_1]
    obtain ⟨M', q1, q2, q3⟩ := ih (i + 1) k (ms M 12 i 0 (row n (dist n g (ow i)) (M 12 i 0))) (by omega) (by omega) hg ho (fun p v hp hv => by
      by_cases hpi : p = i
      · subst hpi
        rw [ms_same, row_at hv]
      · rw [ms_ab (fun z => hpi z.1)]
        exact hd p v (by omega) hv)
    exact ⟨M', q1, fun t ht => (q2 t ht).trans (ms_t ht), q3⟩
def newg (x y c : Nat) (g : Nat → Nat → Nat) : Nat → Nat → Nat := fun a b => if (a = x ∧ b = y) ∨ (a = y ∧ b = x) then c else g a b
theorem newg_p {x y c a b : Nat} {g : Nat → Nat → Nat} (h : (a = x ∧ b = y) ∨ (a = y ∧ b = x)) : newg x y c g a b = c := if_pos h
theorem newg_n {x y c a b : Nat} {g : Nat → Nat → Nat} (h : ¬ ((a = x ∧ b = y) ∨ (a = y ∧ b = x))) : newg x y c g a b = g a b := if_neg h
theorem setc_rel {c : Nat} (hn : 2 ≤ n ∧ n ≤ 6) (hxy : x ≠ y) (hx : x < n) (hy : y < n) (hc : c ≤ 15) (h : RR cd n g ow lab tol aw M N) : ∃ M', f_Ways_setCost n (nI x) (nI y) (nI c) M = some M' ∧ RR cd n (newg x y c g) ow lab tol aw M' (mset (mset N 1 0 0 (6 * x + y) (nI c)) 1 0 0 (6 * y + x) (nI c)) := by
  obtain ⟨⟨b1, ⟨v1, ⟨u1, u2, u3, u4⟩, v3⟩, b3, b4, b5, b6, b7, b8, b9⟩, w, ml, hw⟩ := h
  have g15 : ∀ u v, newg x y c g u v ≤ 15 := by
    intro u v
    by_cases hc9 : (u = x ∧ v = y) ∨ (u = y ∧ v = x)
    · rw [newg_p hc9]; exact hc
    · rw [newg_n hc9]; exact u2 u v
  have hg : ∀ r u, r < n → u < n → (mset (mset M 16 x 0 y (nI c)) 16 y 0 x (nI c)) 16 r 0 u = nI (newg x y c g u r) := by
    intro r u hr hu
    by_cases c1 : r = y
    · subst c1
      rw [mset_row]
      by_cases c2 : u = x
      · subst c2
        rw [upd_same, newg_p (Or.inl ⟨rfl, rfl⟩)]
      · rw [upd_ne c2, mset_ab (by omega), newg_n (by omega)]
        exact v1 r u hr hu
    · rw [mset_ab (by omega)]
      by_cases c2 : r = x
      · subst c2
        rw [mset_row]
        by_cases c3 : u = y
        · subst c3
          rw [upd_same, newg_p (Or.inr ⟨rfl, rfl⟩)]
        · rw [upd_ne c3, newg_n (by omega)]
          exact v1 r u hr hu
      · rw [mset_ab (by omega), newg_n (by omega)]
        exact v1 r u hr hu
  obtain ⟨M', q1, q2, q3⟩ := setc_loop (ow := ow) hn g15 4 0 1000 (mset (mset M 16 x 0 y (nI c)) 16 y 0 x (nI c)) (by omega) (by omega) hg (fun p hp => ⟨(b3 p hp).1, (b3 p hp).2.1⟩) (fun p v hp _ => absurd hp (Nat.not_lt_zero _))
  rw [nI_0] at q1
  refine ⟨M', ?_, ⟨b1, ⟨?_, ⟨?_, g15, ?_, ?_⟩, ?_⟩, ?_, q3, ?_, ?_, ?_, ?_, ?_⟩, w, ml, ?_⟩
  · unfold f_Ways_setCost
    rw [ix_nI hx (by omega), ix_nI hy (by omega), Option.bind_some, Option.bind_some, Option.bind_some, Option.bind_some]
    exact q1
  · rw [q2 16 (by decide)]
    exact hg
  · intro a b ha hb
    rw [mset_row, mset_row]
    by_cases c1 : 6 * a + b = 6 * y + x
    · rw [c1, upd_same, newg_p (by omega)]
    · rw [upd_ne c1]
      by_cases c2 : 6 * a + b = 6 * x + y
      · rw [c2, upd_same, newg_p (by omega)]
      · rw [upd_ne c2, newg_n (by omega)]
        exact u1 a b ha hb
  · intro a b hab
    by_cases hc9 : (a = x ∧ b = y) ∨ (a = y ∧ b = x)
    · omega
    · rw [newg_n hc9] at hab
      exact u3 a b hab
  · intro a b
    by_cases hc9 : (a = x ∧ b = y) ∨ (a = y ∧ b = x)
    · rw [newg_p hc9, newg_p (by omega)]
    · rw [newg_n hc9, newg_n (by omega)]
      exact u4 a b
  · intro a
    rw [newg_n (by omega)]
    exact v3 a
  · rw [q2 3 (by decide)]
    exact b3
  · rw [q2 18 (by decide)]
    exact b5
  · rw [q2 21 (by decide)]
    exact b6
  · rw [q2 20 (by decide)]
    exact b7
  · rw [q2 8 (by decide)]
    exact b8
  · rw [q2 9 (by decide), q2 10 (by decide), q2 11 (by decide)]
    exact b9
  · show VM n w ml (M' 5 0 0) (M' 6 0 0) _ _ _ _ _ _
    rw [q2 5 (by decide), q2 6 (by decide)]
    exact hw
theorem tl_loop (hn : 2 ≤ n ∧ n ≤ 6) (hxy : x ≠ y) (hx : x < n) (hy : y < n) : ∀ (c i k k' : Nat) (M N : Mem), i + c = 4 → c < k → c < k' → RR cd n g ow lab tol aw M N →
    ∃ M' N', f_LR_tellLabels_2 n (nI x) (nI y) k (nI i) M = some M' ∧ f_Model_tellLabels_2 (nI x) (nI y) k' (nI i) N = some N' ∧ RR cd n g ow lab tol aw M' N' := by
  intro c
  induction c with
  | zero =>
    intro i k k' M N h1 h2 h3 h
    obtain ⟨k, rfl⟩ : ∃ k', k = k' + 1 := ⟨k - 1, by omega⟩
    obtain ⟨k', rfl⟩ : ∃ k'', k' = k'' + 1 := ⟨k' - 1, by omega⟩
    have e : (4 : Int32) ≤ nI i := nI_le (a := 4) (by omega) (by omega)
    rw [f_LR_tellLabels_2, f_Model_tellLabels_2, if_pos e, if_pos e]
    exact ⟨M, N, rfl, rfl, h⟩
  | succ c ih =>
    intro i k k' M N h1 h2 h3 h
    obtain ⟨k, rfl⟩ : ∃ k', k = k' + 1 := ⟨k - 1, by omega⟩
    obtain ⟨k', rfl⟩ : ∃ k'', k' = k'' + 1 := ⟨k' - 1, by omega⟩
    have e : ¬ (4 : Int32) ≤ nI i := nI_ge (b := 4) (by omega) (by omega)
    obtain ⟨l1, l2, l3⟩ := h.1.2.2.2.2.1 x i hx (by omega)
    have hl := okl_lt l1
    rw [f_LR_tellLabels_2, f_Model_tellLabels_2, if_neg e, if_neg e, e4, ix_nI (show 4 * x + i < 24 by omega) (by decide), ix_nI hx (by omega)]
    simp only [Option.bind_some]
    rw [l3, show f_Router_labelOf n x (nI i) M = some (nI (lab x i)) by unfold f_Router_labelOf; rw [ix_nI (show i < 4 by omega) (by decide)]; exact congrArg some l2]
    simp only [Option.bind_some]
    unfold f_Model_tellLabels_j38
    rw [nI_1]
    by_cases h0 : lab x i = 0
    · rw [if_pos (show nI (lab x i) = 0 by rw [h0]; rfl), if_pos (show nI (lab x i) ≤ 0 by rw [h0]; decide)]
      exact ih (i + 1) k k' M N (by omega) (by omega) (by omega) h
    · rw [if_neg (nI_ne0 (by omega) (by omega)), if_neg (nI_nle (by omega) (by omega))]
      have O : okm n (1, x, y, i, lab x i) := by
        rcases l1 with l1 | l1
        · exact absurd l1 h0
        · exact ⟨⟨Nat.le_refl 1, show 1 ≤ 3 by decide⟩, hx, hy, hxy, show i < 4 by omega, l1⟩
      obtain ⟨M1, N1, p1, p2, p3⟩ := post_rel hn.2 O h
      rw [show f_Mail_post n 1 (nI x) (nI y) (nI i) (nI (lab x i)) M = some M1 from p1, show f_Model_post (nI x) (nI y) 1 (nI i) (nI (lab x i)) N = some N1 from p2]
      exact ih (i + 1) k k' M1 N1 (by omega) (by omega) (by omega) p3
theorem tl_rel (hn : 2 ≤ n ∧ n ≤ 6) (hxy : x ≠ y) (hx : x < n) (hy : y < n) (h : RR cd n g ow lab tol aw M N) : ∃ M' N', f_LR_tellLabels n (nI x) (nI y) M = some M' ∧ f_Model_tellLabels (nI x) (nI y) N = some N' ∧ RR cd n g ow lab tol aw M' N' := by
  obtain ⟨M', N', q1, q2, q3⟩ := tl_loop hn hxy hx hy 4 0 1000 1000 M N (by omega) (by omega) (by omega) h
  rw [nI_0] at q1 q2
  exact ⟨M', N', q1, q2, q3⟩
end LK
theorem sim_link : Sim_link Rel := by
  intro n M N a b z hn h
  obtain ⟨cd, g, ow, lab, tol, aw, h9⟩ := id h
  unfold f_LR_link f_Model_link g_LR_link
  rcases pair (M := M) hn h9.1.1 a b with ⟨x, y, hx, hy, hxy, rfl, rfl, e1, e2⟩ | ⟨e1, e2⟩
  · rw [e1, e2]
    rcases rng z 0 15 with ⟨h1, h2, e3, e4'⟩ | ⟨e3, e4'⟩
    · rw [e3, e4']
      obtain ⟨c, hc, rfl⟩ := nI_of2 (M := 15) (n := 15) (by decide) h1 h2
      have h0 := RR_code (x := 0) h9
      have hs := h9.1.2.1.2.1.2.2.2 x y
      have g15 := h9.1.2.1.2.1.2.1 x y
      have C : f_Ways_costOf n (nI x) (nI y) M = some (nI (g x y)) := by
        unfold f_Ways_costOf
        rw [ix_nI hx (by omega), ix_nI hy (by omega)]
        refine congrArg some ((h9.1.2.1.1 x y hx hy).trans ?_)
        rw [hs]
      have D : N 1 0 0 (6 * x + y) = nI (g x y) := h9.1.2.1.2.1.1 x y (by omega) (by omega)
      rw [C]
      simp only [Option.bind_some]
      rw [if_neg (show ¬ (1 : Int32) = 0 by decide), if_neg (show ¬ (1 : Int32) = 0 by decide)]
      unfold f_Model_link_j25
      rw [show f_Model_good 1 N = some (1, mset N 0 0 0 0 0) from rfl, Option.bind_some]
      dsimp only
      rw [if_neg (show ¬ (1 : Int32) = 0 by decide), e6, ix_nI (show 6 * x + y < 36 by omega) (by decide), e6, ix_nI (show 6 * y + x < 36 by omega) (by decide)]
      simp only [Option.bind_some]
      have D' : (mset N 0 0 0 0 0) 1 0 0 (6 * x + y) = nI (g x y) := D
      simp only [D']
      refine Or.inl ?_
      by_cases hcg : c = g x y
      · rw [if_pos (congrArg nI hcg), if_pos (congrArg nI hcg.symm)]
        exact ⟨_, _, rfl, rfl, rfl, rfl, Rel_code h⟩
      · have hne : ¬ nI c = nI (g x y) := fun e => hcg ((nI_eq (by omega) (by omega)).mp e)
        have hne' : ¬ nI (g x y) = nI c := fun e => hne e.symm
        rw [if_neg hne, if_neg hne']
        obtain ⟨M1, q1, q2⟩ := setc_rel hn hxy hx hy hc h0
        rw [q1, Option.bind_some]
        have FIN : ∀ tol' M2 N2, RX 0 n (newg x y c g) ow tol' M2 N2 → ∃ x' y' : Int32 × Mem, ((f_LR_settleAll n M2).bind fun r90 => some (nI (g x y), r90)) = some x' ∧ f_Model_link_j145 (1, mset N 0 0 0 0 0) (6 * x + y) N2 = some y' ∧ y'.2 0 0 0 0 = 0 ∧ x'.1 = y'.1 ∧ Rel n x'.2 y'.2 := by
          intro tol' M2 N2 hR
          obtain ⟨M', N', p1, p2, p3⟩ := sa_rel hn hR
          unfold f_Model_link_j145
          dsimp only
          rw [p1, p2, D']
          exact ⟨_, _, rfl, rfl, RY_cd (RX_RY p3), rfl, RY_Rel (RX_RY p3)⟩
        by_cases hc0 : c = 0
        · rw [if_pos (show nI c = 0 by rw [hc0]; rfl), if_pos (show nI c = 0 by rw [hc0]; rfl)]
          obtain ⟨M2, N2, tol', p1, p2, p3⟩ := off_rel hn.2 hxy hx hy q2
          rw [p1, p2, Option.bind_some, Option.bind_some]
          exact FIN _ _ _ p3
        · have hc9 : ¬ nI c = 0 := nI_ne0 (by omega) (by omega)
          rw [if_neg hc9, if_neg hc9]
          by_cases hg0 : g x y = 0
          · have hg9 : nI (g x y) = 0 := by rw [hg0]; rfl
            rw [if_pos hg9, if_pos hg9]
            rcases Nat.lt_or_ge x y with hlt | hge
            · have l1 : nI x < nI y := nI_lt hlt (by omega)
              have l2 : ¬ nI y < nI x := nI_nlt (by omega) (by omega)
              have l3 : ¬ nI y ≤ nI x := nI_ge hlt (by omega)
              obtain ⟨M2, N2, p1, p2, p3⟩ := tl_rel hn hxy hx hy q2
              obtain ⟨M3, N3, p4, p5, p6⟩ := tl_rel hn (fun e => hxy e.symm) hy hx p3
              unfold f_Model_link_j108 f_Model_link_j118 f_Model_link_j132 f_Model_link_j142
              simp only [if_neg l2, if_pos l1, if_neg l3, p1, p2, p4, p5, Option.bind_some]
              exact FIN _ _ _ ⟨lab, aw, p6⟩
            · have l1 : ¬ nI x < nI y := nI_nlt (by omega) (by omega)
              have l2 : nI y < nI x := nI_lt (by omega) (by omega)
              have l3 : nI y ≤ nI x := nI_le (by omega) (by omega)
              obtain ⟨M2, N2, p1, p2, p3⟩ := tl_rel hn (fun e => hxy e.symm) hy hx q2
              obtain ⟨M3, N3, p4, p5, p6⟩ := tl_rel hn hxy hx hy p3
              unfold f_Model_link_j108 f_Model_link_j118 f_Model_link_j132 f_Model_link_j142
              simp only [if_pos l2, if_neg l1, if_pos l3, p1, p2, p4, p5, Option.bind_some]
              exact FIN _ _ _ ⟨lab, aw, p6⟩
          · have hg9 : ¬ nI (g x y) = 0 := nI_ne0 (by omega) (by omega)
            rw [if_neg hg9, if_neg hg9]
            exact FIN _ _ _ ⟨lab, aw, q2⟩
    · rw [e3, e4']
      exact Or.inr ⟨(0, mset N 0 0 0 0 1), rfl, rfl, rfl, Rel_code h⟩
  · rw [e1, e2]
    exact Or.inr ⟨(0, mset N 0 0 0 0 1), rfl, rfl, rfl, Rel_code h⟩
