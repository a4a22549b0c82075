/-! a label withdrawn, on both sides -/
theorem ms_comm {M : Mem} {t a b t' a' b' : Nat} {f f' : Nat → Int32} (h : t ≠ t') : ms (ms M t a b f) t' a' b' f' = ms (ms M t' a' b' f') t a b f := by
  funext x y z
  unfold ms
  by_cases h1 : x = t ∧ y = a ∧ z = b
  · rw [if_pos h1, if_neg (fun q => h (h1.1.symm.trans q.1)), if_pos h1]
  · by_cases h2 : x = t' ∧ y = a' ∧ z = b'
    · simp only [if_neg h1, if_pos h2]
    · simp only [if_neg h1, if_neg h2]
theorem mset_comm {M : Mem} {t a b j t' a' b' j' : Nat} {x x' : Int32} (h : t ≠ t') : mset (mset M t a b j x) t' a' b' j' x' = mset (mset M t' a' b' j' x') t a b j x := by
  unfold mset
  rw [ms_t (t' := t') (fun e => h e.symm), ms_t (t' := t) h, ms_comm h]
theorem post_comm {n r p : Nat} {a b z d e x : Int32} {M M1 : Mem} (h : f_Mail_post n a b z d e (mset M 18 r 0 p x) = some M1) : ∃ M2, f_Mail_post n a b z d e M = some M2 ∧ M1 = mset M2 18 r 0 p x := by
  unfold f_Mail_post at h ⊢
  have t5 : (mset M 18 r 0 p x) 5 = M 5 := mset_t (by decide)
  rw [t5] at h
  by_cases h0 : M 5 0 0 1 = 240
  · rw [if_pos h0] at h ⊢
    refine ⟨_, rfl, ?_⟩
    rw [← Option.some.inj h, mset_comm (by decide)]
  · rw [if_neg h0] at h ⊢
    cases hi : ix (M 5 0 0 1) 240 with
    | none => rw [hi] at h; cases h
    | some j =>
      rw [hi] at h
      refine ⟨_, rfl, ?_⟩
      rw [← Option.some.inj h, mset_comm (t := 18) (t' := 6) (by decide), mset_comm (t := 18) (t' := 5) (by decide), mset_t (t' := 5) (t := 18) (by decide)]
set_option maxRecDepth 100000 in
theorem or64 : ∀ a, a < 64 → ∀ i, i < 6 → nI a ||| (1 <<< (nI i &&& 31)) = nI (a ||| 2 ^ i) := by decide +kernel
theorem or64b : ∀ a, a < 64 → ∀ i, i < 6 → (a ||| 2 ^ i) < 64 := by decide +kernel
section WI
variable {cd : Int32} {n r p q x : Nat} {g : Nat → Nat → Nat} {ow : Nat → Nat} {lab : Nat → Nat → Nat} {tol : Nat → Nat → Nat → Nat} {aw : Nat → Nat → Nat} {M N : Mem}
theorem VA_set {a : Nat} {v : Bool} (hr : r < n) (hq : q < 8) (hx : x < 6) (ha : a < 64) (hb : ∀ y, y < 6 → a.testBit y = if y = x then v else (aw r q).testBit y) (hA : VA n aw (M 20) (N 6 0 0)) : VA n (fun r' q' => if r' = r ∧ q' = q then a else aw r' q') ((mset M 20 r 0 q (nI a)) 20) ((mset N 6 0 0 (48 * r + 8 * x + q) (bI v)) 6 0 0) := by
  intro r' q' hr' hq'
  obtain ⟨a1, a2, a3⟩ := hA r' q' hr' hq'
  dsimp only
  by_cases h : r' = r ∧ q' = q
  · obtain ⟨rfl, rfl⟩ := h
    simp only [and_self, if_true, mset_row]
    refine ⟨ha, upd_same, fun y hy => ?_⟩
    rw [hb y hy]
    by_cases hyx : y = x
    · subst hyx
      rw [upd_same, if_pos rfl]
      rfl
    · rw [upd_ne (by omega), if_neg hyx]
      exact a3 y hy
  · simp only [if_neg h]
    refine ⟨a1, ?_, fun y hy => ?_⟩
    · by_cases h1 : r' = r
      · subst h1
        rw [mset_row, upd_ne (fun e => h ⟨rfl, e⟩)]
        exact a2
      · rw [mset_ab (fun z => h1 z.1)]
        exact a2
    · rw [mset_row, upd_ne (by omega)]
      exact a3 y hy
theorem RR_aw {a : Nat} {v : Bool} (hr : r < n) (hq : q < 8) (hx : x < 6) (ha : a < 64) (hb : ∀ y, y < 6 → a.testBit y = if y = x then v else (aw r q).testBit y) (h : RR cd n g ow lab tol aw M N) : RR cd n g ow lab tol (fun r' q' => if r' = r ∧ q' = q then a else aw r' q') (mset M 20 r 0 q (nI a)) (mset N 6 0 0 (48 * r + 8 * x + q) (bI v)) := by
  obtain ⟨⟨b1, b2, b3, b4, b5, b6, b7, b8, b9⟩, w, ml, hw⟩ := h
  exact ⟨⟨b1, b2, b3, b4, b5, b6, VA_set hr hq hx ha hb b7, b8, b9⟩, w, ml, hw⟩
theorem wl_loop (hn : 2 ≤ n ∧ n ≤ 6) (hr : r < n) (hp : p < 4) {l : Nat} (hl : 16 ≤ l ∧ l < 24) {N0 : Mem} {j9 : Nat} (hl9 : N0 4 0 0 j9 = nI l) : ∀ (c i k k' : Nat) (aw : Nat → Nat → Nat) (M N : Mem), i + c = n → c < k → c < k' → RR cd n g ow lab tol aw (mset M 18 r 0 p 0) N →
    ∃ M' N' aw', f_LR_withdrawLabel_14 n (nI r) (nI p) (nI l) k (nI i) M = some M' ∧ f_Model_withdraw_25 (nI r) (nI p) N0 j9 k' (nI i) N = some N' ∧ RR cd n g ow lab tol aw' M' N' := by
  intro c
  induction c with
  | zero =>
    intro i k k' aw M N h1 h2 h3 h
    obtain ⟨k, rfl⟩ : ∃ k', k = k' + 1 := ⟨k - 1, by omega⟩
    obtain ⟨k', rfl⟩ : ∃ k'', k' = k'' + 1 := ⟨k' - 1, by omega⟩
    rw [f_LR_withdrawLabel_14, f_Model_withdraw_25, h.1.1, if_pos (nI_le (by omega) (by omega)), if_pos (nI_le (by omega) (by omega)), ix_nI hr (by omega)]
    unfold f_Router_setLabel
    rw [ix_nI hp (by decide)]
    exact ⟨_, N, aw, rfl, rfl, h⟩
  | succ c ih =>
    intro i k k' aw M N h1 h2 h3 h
    obtain ⟨k, rfl⟩ : ∃ k', k = k' + 1 := ⟨k - 1, by omega⟩
    obtain ⟨k', rfl⟩ : ∃ k'', k' = k'' + 1 := ⟨k' - 1, by omega⟩
    have hi : i < n := by omega
    obtain ⟨c1, ⟨c2, c3, c4, c5⟩, c6⟩ := h.1.2.1
    have b := c3 i r
    have c1 : M 16 r 0 i = nI (g i r) := c1 r i hr hi
    rw [f_LR_withdrawLabel_14, f_Model_withdraw_25, h.1.1, if_neg (nI_ge hi (by omega)), if_neg (nI_ge hi (by omega)), cl_lk hr hi hn.2 c1 b, e6, ix_nI (show 6 * r + i < 36 by omega) (by decide)]
    unfold f_Model_withdraw_j80
    rw [nI_1, hl9]
    show ∃ M' N' aw', (if (if g i r = 0 then (0 : Int32) else 1) = 0 then _ else _) = _ ∧ (if N 1 0 0 (6 * r + i) ≤ 0 then _ else _) = _ ∧ _
    rw [c2 r i (by omega) (by omega), c5 r i]
    by_cases h0 : g i r = 0
    · rw [h0, if_pos rfl, if_pos rfl, if_pos (show nI 0 ≤ 0 by decide)]
      exact ih (i + 1) k k' aw M N (by omega) (by omega) (by omega) h
    · rw [if_neg h0, if_neg (by decide), if_neg (nI_nle (by omega) (by omega))]
      have hne : r ≠ i := fun e => h0 (by rw [e]; exact c6 i)
      obtain ⟨M1, N1, p1, p2, p3⟩ := post_rel (m := (2, r, i, p, l)) hn.2 ⟨⟨show 1 ≤ 2 by decide, show 2 ≤ 3 by decide⟩, hr, hi, hne, hp, hl.1, hl.2⟩ h
      have p1 : f_Mail_post n 2 (nI r) (nI i) (nI p) (nI l) (mset M 18 r 0 p 0) = some M1 := p1
      have p2 : f_Model_post (nI r) (nI i) 2 (nI p) (nI l) N = some N1 := p2
      obtain ⟨M2, p9, rfl⟩ := post_comm p1
      rw [p9, p2, ix_nI hr (by omega), show (48 * nI r + 8 * nI i + nI l - 16 : Int32) = nI (48 * r + 8 * i + (l - 16)) by rw [e48, show (16 : Int32) = nI 16 from rfl, nI_sub (by omega)]; congr 1; omega, ix_nI (show 48 * r + 8 * i + (l - 16) < 288 by omega) (by decide)]
      unfold f_Router_awaitRelease
      rw [show nI l - 16 = nI (l - 16) from nI_sub (b := 16) hl.1, ix_nI (show l - 16 < 8 by omega) (by decide)]
      obtain ⟨v1, v2, v3⟩ := p3.1.2.2.2.2.2.2.1 r (l - 16) hr (by omega)
      have v2 : M2 20 r 0 (l - 16) = nI (aw r (l - 16)) := v2
      show ∃ M' N' aw', f_LR_withdrawLabel_14 n (nI r) (nI p) (nI l) k (nI (i + 1)) (mset M2 20 r 0 (l - 16) (M2 20 r 0 (l - 16) ||| (1 <<< (nI i &&& 31)))) = _ ∧ f_Model_withdraw_25 (nI r) (nI p) N0 j9 k' (nI (i + 1)) (mset N1 6 0 0 (48 * r + 8 * i + (l - 16)) (bI true)) = _ ∧ _
      rw [v2, or64 _ v1 i (by omega)]
      have p4 := RR_aw (q := l - 16) (x := i) (a := aw r (l - 16) ||| 2 ^ i) (v := true) hr (by omega) (by omega) (or64b _ v1 i (by omega)) (fun y hy => by
        rw [Nat.testBit_or, Nat.testBit_two_pow]
        by_cases hyi : y = i
        · rw [if_pos hyi, decide_eq_true hyi.symm, Bool.or_true]
        · rw [if_neg hyi, decide_eq_false (fun e => hyi e.symm), Bool.or_false]) p3
      rw [mset_comm (t := 18) (t' := 20) (by decide)] at p4
      exact ih (i + 1) k k' _ _ _ (by omega) (by omega) (by omega) p4
theorem with_rel (hn : 2 ≤ n ∧ n ≤ 6) (hr : r < n) (hp : p < 4) (h0 : lab r p ≠ 0) (h : RR cd n g ow lab tol aw M N) :
    ∃ M' N' lab' aw', f_LR_withdrawLabel n (nI r) (nI p) M = some M' ∧ f_Model_withdraw (nI r) (nI p) N = some N' ∧ RR cd n g ow lab' tol aw' M' N' := by
  obtain ⟨l1, l2, l3⟩ := h.1.2.2.2.2.1 r p hr hp
  have hl : 16 ≤ lab r p ∧ lab r p < 24 := by rcases l1 with h9 | h9; exact absurd h9 h0; exact h9
  unfold f_LR_withdrawLabel f_Model_withdraw f_Router_labelOf
  rw [ix_nI hr (by omega), ix_nI hp (by decide), e4, ix_nI (show 4 * r + p < 24 by omega) (by decide)]
  show ∃ M' N' lab' aw', f_LR_withdrawLabel_14 n (nI r) (nI p) (M 18 r 0 p) 1000 0 M = _ ∧ f_Model_withdraw_25 (nI r) (nI p) N (4 * r + p) 1000 0 (mset N 4 0 0 (4 * r + p) 0) = _ ∧ _
  rw [l2]
  obtain ⟨M', N', aw', q1, q2, q3⟩ := wl_loop hn hr hp hl (N0 := N) (j9 := 4 * r + p) l3 n 0 1000 1000 aw M _ (by omega) (by omega) (by omega) (RR_lab (l := 0) hr hp (Or.inl rfl) h)
  rw [nI_0] at q1 q2
  exact ⟨M', N', _, aw', q1, q2, q3⟩
end WI
