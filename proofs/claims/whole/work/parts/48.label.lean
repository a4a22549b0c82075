/-! a label given, on both sides -/
theorem nxf_congr {P Q : Nat → Prop} [DecidablePred P] [DecidablePred Q] : ∀ c i, (∀ j, i ≤ j → j < i + c → (P j ↔ Q j)) → nxf P i c = nxf Q i c := by
  intro c
  induction c with
  | zero => intro i _; rfl
  | succ c ih =>
    intro i h
    by_cases hp : P i
    · rw [nxf_p hp, nxf_p ((h i (Nat.le_refl _) (by omega)).mp hp)]
    · rw [nxf_n hp, nxf_n (fun z => hp ((h i (Nat.le_refl _) (by omega)).mpr z))]
      exact ih (i + 1) (fun j h1 h2 => h j (by omega) (by omega))
section GL
variable {cd : Int32} {n r p j : Nat} {g : Nat → Nat → Nat} {ow : Nat → Nat} {lab : Nat → Nat → Nat} {tol : Nat → Nat → Nat → Nat} {aw : Nat → Nat → Nat} {M N : Mem}
theorem e6 (r i : Nat) : (6 : Int32) * nI r + nI i = nI (6 * r + i) := by rw [show (6 : Int32) = nI 6 from rfl, nI_mul, nI_add]
theorem e4 (r i : Nat) : (4 : Int32) * nI r + nI i = nI (4 * r + i) := by rw [show (4 : Int32) = nI 4 from rfl, nI_mul, nI_add]
theorem e24 (r x i : Nat) : ((24 : Int32) * nI r + 4 * nI x) + nI i = nI (24 * r + 4 * x + i) := by rw [show (24 : Int32) = nI 24 from rfl, show (4 : Int32) = nI 4 from rfl, nI_mul, nI_mul, nI_add, nI_add]
theorem e48 (r x i : Nat) : ((48 : Int32) * nI r + 8 * nI x) + nI i = nI (48 * r + 8 * x + i) := by rw [show (48 : Int32) = nI 48 from rfl, show (8 : Int32) = nI 8 from rfl, nI_mul, nI_mul, nI_add, nI_add]
theorem gl_loop (hn : 2 ≤ n ∧ n ≤ 6) (hr : r < n) (hp : p < 4) (hj : j < 8) : ∀ (c i k k' : Nat) (M N : Mem), i + c = n → c < k → c < k' → RR cd n g ow lab tol aw M N →
    ∃ M' N', f_LR_giveLabel_29 n (nI r) (nI p) (nI (16 + j)) k (nI i) M = some M' ∧ f_Model_take_47 (nI r) (nI p) (nI j) k' (nI i) N = some N' ∧ RR cd n g ow lab tol aw M' N' := by
  intro c
  induction c with
  | zero =>
    intro i k k' M N h1 h2 h3 h
    obtain ⟨k, rfl⟩ : ∃ k', k = k' + 1 := ⟨k - 1, by omega⟩
    obtain ⟨k', rfl⟩ : ∃ k'', k' = k'' + 1 := ⟨k' - 1, by omega⟩
    rw [f_LR_giveLabel_29, f_Model_take_47, h.1.1, if_pos (nI_le (by omega) (by omega)), if_pos (nI_le (by omega) (by omega))]
    exact ⟨M, N, rfl, rfl, h⟩
  | succ c ih =>
    intro i k k' M N h1 h2 h3 h
    obtain ⟨k, rfl⟩ : ∃ k', k = k' + 1 := ⟨k - 1, by omega⟩
    obtain ⟨k', rfl⟩ : ∃ k'', k' = k'' + 1 := ⟨k' - 1, by omega⟩
    have hi : i < n := by omega
    obtain ⟨c1, ⟨c2, c3, c4, c5⟩, c6⟩ := h.1.2.1
    have b := c3 i r
    rw [f_LR_giveLabel_29, f_Model_take_47, h.1.1, if_neg (nI_ge hi (by omega)), if_neg (nI_ge hi (by omega)), cl_lk hr hi hn.2 (c1 r i hr hi) b, e6, ix_nI (show 6 * r + i < 36 by omega) (by decide)]
    unfold f_Model_take_j84
    rw [nI_1, show (16 : Int32) + nI j = nI (16 + j) from nI_add 16 j]
    show ∃ M' N', (if (if g i r = 0 then (0 : Int32) else 1) = 0 then _ else _) = _ ∧ (if N 1 0 0 (6 * r + i) ≤ 0 then _ else _) = _ ∧ _
    rw [c2 r i (by omega) (by omega), c5 r i]
    by_cases h0 : g i r = 0
    · rw [h0, if_pos rfl, if_pos rfl, if_pos (show nI 0 ≤ 0 by decide)]
      exact ih (i + 1) k k' M N (by omega) (by omega) (by omega) h
    · rw [if_neg h0, if_neg (by decide), if_neg (nI_nle (by omega) (by omega))]
      have hne : r ≠ i := fun e => h0 (by rw [e]; exact c6 i)
      obtain ⟨M1, N1, p1, p2, p3⟩ := post_rel (m := (1, r, i, p, 16 + j)) hn.2 ⟨⟨Nat.le_refl 1, show 1 ≤ 3 by decide⟩, hr, hi, hne, hp, Nat.le_add_right _ _, show 16 + j < 24 by omega⟩ h
      have p1 : f_Mail_post n 1 (nI r) (nI i) (nI p) (nI (16 + j)) M = some M1 := p1
      have p2 : f_Model_post (nI r) (nI i) 1 (nI p) (nI (16 + j)) N = some N1 := p2
      rw [p1, p2]
      exact ih (i + 1) k k' M1 N1 (by omega) (by omega) (by omega) p3
theorem tk_loop (hn : n ≤ 6) (hr : r < n) (hL : VL n lab (M 18) (N 4 0 0)) (hA : VA n aw (M 20) (N 6 0 0)) : ∀ (c i k : Nat), i + c = 8 → c < k →
    f_Model_take_2 (nI r) (nI p) k (nI i) N = f_Model_take_j23 (nI r) (nI p) (nI (if nxf (fun j => tk lab aw r j = false) i c = 99 then 8 else nxf (fun j => tk lab aw r j = false) i c)) N := by
  intro c
  induction c with
  | zero =>
    intro i k h1 h2
    obtain ⟨k, rfl⟩ : ∃ k', k = k' + 1 := ⟨k - 1, by omega⟩
    rw [f_Model_take_2, if_pos (show (8 : Int32) ≤ nI i from nI_le (a := 8) (by omega) (by omega)), show i = 8 by omega]
    rfl
  | succ c ih =>
    intro i k h1 h2
    obtain ⟨k, rfl⟩ : ∃ k', k = k' + 1 := ⟨k - 1, by omega⟩
    rw [f_Model_take_2, if_neg (show ¬ (8 : Int32) ≤ nI i from nI_ge (b := 8) (by omega) (by omega)), it_taken hn hr (by omega) hL hA, nI_1]
    show (if bI (tk lab aw r i) = 0 then _ else _) = _
    by_cases h : tk lab aw r i = false
    · rw [h, if_pos (show bI false = 0 from rfl), nxf_p (P := fun j => tk lab aw r j = false) h, if_neg (by omega)]
    · have h' : tk lab aw r i = true := by simpa using h
      rw [nxf_n (P := fun j => tk lab aw r j = false) h, h', if_neg (show ¬ bI true = 0 by decide)]
      exact ih (i + 1) k (by omega) (by omega)
theorem VL_set {l : Nat} (hr : r < n) (hp : p < 4) (hl : okl l) (hL : VL n lab (M 18) (N 4 0 0)) : VL n (fun r' p' => if r' = r ∧ p' = p then l else lab r' p') ((mset M 18 r 0 p (nI l)) 18) ((mset N 4 0 0 (4 * r + p) (nI l)) 4 0 0) := by
  intro r' p' hr' hp'
  obtain ⟨a1, a2, a3⟩ := hL r' p' hr' hp'
  dsimp only
  by_cases h : r' = r ∧ p' = p
  · obtain ⟨rfl, rfl⟩ := h
    rw [if_pos ⟨rfl, rfl⟩, mset_row, mset_row]
    exact ⟨hl, upd_same, upd_same⟩
  · rw [if_neg h]
    refine ⟨a1, ?_, ?_⟩
    · by_cases h1 : r' = r
      · subst h1
        rw [mset_row, upd_ne (fun e => h ⟨rfl, e⟩)]
        exact a2
      · rw [mset_ab (fun z => h1 z.1)]
        exact a2
    · rw [mset_row, upd_ne (by omega)]
      exact a3
theorem RR_lab {l : Nat} (hr : r < n) (hp : p < 4) (hl : okl l) (h : RR cd n g ow lab tol aw M N) : RR cd n g ow (fun r' p' => if r' = r ∧ p' = p then l else lab r' p') tol aw (mset M 18 r 0 p (nI l)) (mset N 4 0 0 (4 * r + p) (nI l)) := by
  obtain ⟨⟨b1, b2, b3, b4, b5, b6, b7, b8, b9⟩, w, ml, hw⟩ := h
  exact ⟨⟨b1, b2, b3, b4, VL_set hr hp hl b5, b6, b7, b8, b9⟩, w, ml, hw⟩
theorem give_rel (hn : 2 ≤ n ∧ n ≤ 6) (hr : r < n) (hp : p < 4) (h : RR cd n g ow lab tol aw M N) :
    ∃ M' N' lab', f_LR_giveLabel n (nI r) (nI p) M = some M' ∧ f_Model_take (nI r) (nI p) N = some N' ∧ RR cd n g ow lab' tol aw M' N' := by
  have hL := h.1.2.2.2.2.1
  have hA := h.1.2.2.2.2.2.2.1
  obtain ⟨b, a1, a2, a3⟩ := ct_bits hr hL hA
  have lf := lf_loop (n := n) a2 8 0 1000 (by omega) (by omega)
  rw [nI_0, nxf_congr (Q := fun j => tk lab aw r j = false) 8 0 (fun j _ hj => by rw [a3 j (by omega)])] at lf
  have tl := tk_loop (p := p) hn.2 hr hL hA 8 0 1000 (by omega) (by omega)
  rw [nI_0] at tl
  unfold f_LR_giveLabel f_Model_take f_Router_leastFree
  rw [tl, ix_nI hr (by omega)]
  show ∃ M' N' lab', (((f_Router_takenBits n r M).bind fun r1 => f_Router_leastFree_7 n r1 1000 0).bind _) = _ ∧ _
  rw [a1]
  show ∃ M' N' lab', ((f_Router_leastFree_7 n (nI b) 1000 0).bind _) = _ ∧ _
  rw [lf]
  unfold f_Model_take_j23
  rcases nxf_r (P := fun j => tk lab aw r j = false) 8 0 with e | ⟨_, e2, _⟩
  · rw [e, if_pos rfl, if_pos rfl]
    exact ⟨M, N, lab, rfl, rfl, h⟩
  · generalize hj : nxf (fun j => tk lab aw r j = false) 0 8 = j at e2
    have e2 : j < 8 := by omega
    rw [if_neg (show ¬ j = 99 by omega), if_neg (show ¬ j = 99 by omega), if_neg (show ¬ nI j = 8 from fun e => absurd ((nI_eq (a := j) (b := 8) (by omega) (by decide)).mp e) (by omega)), e4, ix_nI (show 4 * r + p < 24 by omega) (by decide)]
    show ∃ M' N' lab', (if nI (16 + j) = 0 then _ else (f_Router_setLabel n r (nI p) (nI (16 + j)) M).bind _) = _ ∧ f_Model_take_47 (nI r) (nI p) (nI j) 1000 0 (mset N 4 0 0 (4 * r + p) (16 + nI j)) = _ ∧ _
    unfold f_Router_setLabel
    rw [if_neg (nI_ne0 (by omega) (by omega)), ix_nI hp (by decide), show (16 : Int32) + nI j = nI (16 + j) from nI_add 16 j]
    obtain ⟨M', N', q1, q2, q3⟩ := gl_loop hn hr hp e2 n 0 1000 1000 _ _ (by omega) (by omega) (by omega) (RR_lab hr hp (Or.inr ⟨Nat.le_add_right _ _, show 16 + j < 24 by omega⟩) h)
    rw [nI_0] at q1 q2
    exact ⟨M', N', _, q1, q2, q3⟩
end GL
