/-! the mail between two routers is dropped, on both sides -/
def segm (f : Msg → Int32) : Nat → List Msg → (Nat → Int32) → Prop
  | _, [], _ => True
  | o, m :: L, F => F o = f m ∧ segm f (o + 1) L F
theorem seg_app {f : Msg → Int32} {F : Nat → Int32} {B : List Msg} : ∀ (A : List Msg) (o : Nat), segm f o (A ++ B) F ↔ segm f o A F ∧ segm f (o + A.length) B F
  | [], o => by
    show segm f o B F ↔ True ∧ segm f (o + 0) B F
    rw [Nat.add_zero, true_and]
  | m :: A, o => by
    show (F o = f m ∧ segm f (o + 1) (A ++ B) F) ↔ (F o = f m ∧ segm f (o + 1) A F) ∧ segm f (o + (A.length + 1)) B F
    rw [seg_app A (o + 1), show o + (A.length + 1) = o + 1 + A.length by omega, and_assoc]
theorem seg_congr {f : Msg → Int32} {F F' : Nat → Int32} {s : Nat} : ∀ (L : List Msg) (o : Nat), (∀ j, o ≤ j → j < o + L.length → F' j = F (j + s)) → segm f (o + s) L F → segm f o L F'
  | [], o, _, _ => trivial
  | m :: L, o, h, ⟨h1, h2⟩ => by
    refine ⟨(h o (Nat.le_refl _) (by simp only [List.length_cons]; omega)).trans h1, seg_congr L (o + 1) (fun j hj hj' => h j (by omega) (by simp only [List.length_cons]; omega)) ?_⟩
    rw [show o + 1 + s = o + s + 1 by omega]
    exact h2
theorem seg_fun {f : Msg → Int32} {F : Nat → Int32} {ml : Nat → Msg} : ∀ (c o : Nat), (∀ i, o ≤ i → i < o + c → F i = f (ml i)) → segm f o ((List.range' o c).map ml) F
  | 0, o, _ => trivial
  | c + 1, o, h => ⟨h o (Nat.le_refl _) (by omega), seg_fun c (o + 1) (fun i hi hi' => h i (by omega) (by omega))⟩
theorem seg_at {f : Msg → Int32} {F : Nat → Int32} {d : Msg} : ∀ (L : List Msg) (o : Nat), segm f o L F → ∀ j, j < L.length → F (o + j) = f (L.getD j d)
  | [], _, _, j, hj => absurd hj (Nat.not_lt_zero _)
  | m :: L, o, ⟨h1, h2⟩, 0, _ => h1
  | m :: L, o, ⟨h1, h2⟩, j + 1, hj => by
    rw [show o + (j + 1) = o + 1 + j by omega]
    exact seg_at L (o + 1) h2 j (by simp only [List.length_cons] at hj; omega)
def keepm (x y : Nat) (m : Msg) : Bool := !((decide (m.2.1 = x) && decide (m.2.2.1 = y)) || (decide (m.2.1 = y) && decide (m.2.2.1 = x)))
section DB
variable {n x y : Nat}
theorem db_loop {W : Nat} (hxy : x ≠ y) (hn : n ≤ 6) (hx : x < n) (hy : y < n) (hW : W ≤ 240) : ∀ (R : List Msg) (i k : Nat) (D : List Msg) (M : Mem), i + R.length = W → R.length < k → D.length ≤ i → (∀ m, m ∈ R → okm n m) → M 5 0 0 1 = nI W → segm (fun m => nI (pk m)) 0 D (M 6 0 0) → segm (fun m => nI (pk m)) i R (M 6 0 0) →
    ∃ F, f_Mail_dropBetween_5 n (nI x) (nI y) k (nI i) (nI D.length) M = some (mset (ms M 6 0 0 F) 5 0 0 1 (nI (D ++ R.filter (keepm x y)).length)) ∧ segm (fun m => nI (pk m)) 0 (D ++ R.filter (keepm x y)) F := by
  intro R
  induction R with
  | nil =>
    intro i k D M h1 h2 h3 hR h4 h5 h6
    obtain ⟨k, rfl⟩ : ∃ k', k = k' + 1 := ⟨k - 1, by omega⟩
    simp only [List.length_nil] at h1
    rw [f_Mail_dropBetween_5, h4, if_pos (nI_le (by omega) (by omega))]
    refine ⟨M 6 0 0, ?_, ?_⟩
    · rw [ms_self, List.filter_nil, List.append_nil]
    · rw [List.filter_nil, List.append_nil]; exact h5
  | cons m R ih =>
    intro i k D M h1 h2 h3 hR h4 h5 h6
    obtain ⟨k, rfl⟩ : ∃ k', k = k' + 1 := ⟨k - 1, by omega⟩
    simp only [List.length_cons] at h1 h2
    obtain ⟨h6, h7⟩ := h6
    have hm := hR m (List.mem_cons_self ..)
    obtain ⟨-, d2, d3, -, -⟩ := pk_dec hn hm
    obtain ⟨-, hF, hT, -⟩ := hm
    have hR' : ∀ m, m ∈ R → okm n m := fun m h => hR m (List.mem_cons_of_mem _ h)
    rw [f_Mail_dropBetween_5, h4, if_neg (nI_ge (by omega) (by omega)), ix_nI (show i < 240 by omega) (by decide), ix_nI (show D.length < 240 by omega) (by decide), nI_1, nI_1]
    simp only [Option.bind_some]
    rw [h6, d2, d3]
    simp only [Option.bind_some, nI_eq (a := m.2.1) (b := x) (by omega) (by omega), nI_eq (a := m.2.1) (b := y) (by omega) (by omega), nI_eq (a := m.2.2.1) (b := x) (by omega) (by omega), nI_eq (a := m.2.2.1) (b := y) (by omega) (by omega)]
    have K1 : keepm x y m = false → ∃ F, f_Mail_dropBetween_5 n (nI x) (nI y) k (nI (i + 1)) (nI D.length) M = some (mset (ms M 6 0 0 F) 5 0 0 1 (nI (D ++ (m :: R).filter (keepm x y)).length)) ∧ segm (fun m => nI (pk m)) 0 (D ++ (m :: R).filter (keepm x y)) F := by
      intro hk
      rw [List.filter_cons_of_neg (by rw [hk]; decide)]
      exact ih (i + 1) k D M (by omega) (by omega) (by omega) hR' h4 h5 h7
    have K2 : keepm x y m = true → ∃ F, f_Mail_dropBetween_5 n (nI x) (nI y) k (nI (i + 1)) (nI (D.length + 1)) (mset M 6 0 0 D.length (nI (pk m))) = some (mset (ms M 6 0 0 F) 5 0 0 1 (nI (D ++ (m :: R).filter (keepm x y)).length)) ∧ segm (fun m => nI (pk m)) 0 (D ++ (m :: R).filter (keepm x y)) F := by
      intro hk
      rw [List.filter_cons_of_pos hk]
      have s1 : segm (fun m => nI (pk m)) 0 (D ++ [m]) ((mset M 6 0 0 D.length (nI (pk m))) 6 0 0) := by
        rw [mset_row]
        refine (seg_app D 0).mpr ⟨seg_congr (s := 0) D 0 (fun j _ hj => upd_ne (by omega)) h5, ?_, trivial⟩
        rw [Nat.zero_add]
        exact upd_same
      have s2 : segm (fun m => nI (pk m)) (i + 1) R ((mset M 6 0 0 D.length (nI (pk m))) 6 0 0) := by
        rw [mset_row]
        exact seg_congr (s := 0) R (i + 1) (fun j hj _ => upd_ne (by omega)) h7
      obtain ⟨F, q1, q2⟩ := ih (i + 1) k (D ++ [m]) (mset M 6 0 0 D.length (nI (pk m))) (by omega) (by omega) (by rw [List.length_append]; simp only [List.length_cons, List.length_nil]; omega) hR' h4 s1 s2
      rw [List.length_append, List.append_assoc] at q1
      rw [List.append_assoc] at q2
      refine ⟨F, q1.trans ?_, q2⟩
      unfold mset
      rw [ms_ms]
      rfl
    by_cases c1 : m.2.1 = x
    · have c3 : ¬ m.2.1 = y := fun e => hxy (c1.symm.trans e)
      by_cases c2 : m.2.2.1 = y
      · rw [if_pos c1, if_pos c2]
        exact K1 (by simp [keepm, c1, c2])
      · rw [if_pos c1, if_neg c2, if_neg c3]
        exact K2 (by simp [keepm, c2, c3])
    · rw [if_neg c1]
      by_cases c3 : m.2.1 = y
      · by_cases c4 : m.2.2.1 = x
        · rw [if_pos c3, if_pos c4]
          exact K1 (by simp [keepm, c3, c4])
        · rw [if_pos c3, if_neg c4]
          exact K2 (by simp [keepm, c1, c4])
      · rw [if_neg c3]
        exact K2 (by simp [keepm, c1, c3])
/-- the reference's mail as a list -/
def SGm (L : List Msg) (N : Mem) : Prop := segm (fun m => nI m.2.1) 0 L (N 7 0 0) ∧ segm (fun m => nI m.2.2.1) 0 L (N 8 0 0) ∧ segm (fun m => nI m.1) 0 L (N 9 0 0) ∧ segm (fun m => nI m.2.2.2.1) 0 L (N 10 0 0) ∧ segm (fun m => nI m.2.2.2.2) 0 L (N 11 0 0) ∧ N 0 0 0 8 = nI L.length
theorem seg_drop {f : Msg → Int32} {F F' : Nat → Int32} {P S : List Msg} {m : Msg} (h : segm f 0 ((P ++ [m]) ++ S) F) (e : ∀ j, F' j = if P.length ≤ j ∧ j < P.length + S.length then F (j + 1) else F j) : segm f 0 (P ++ S) F' := by
  rw [seg_app, seg_app] at h
  obtain ⟨⟨h1, -⟩, h2⟩ := h
  rw [List.length_append] at h2
  refine (seg_app P 0).mpr ⟨seg_congr (s := 0) P 0 (fun j _ hj => ?_) h1, seg_congr (F := F) (s := 1) S (0 + P.length) (fun j hj hj' => ?_) ?_⟩
  · rw [e, if_neg (by omega)]; rfl
  · rw [e, if_pos (by omega)]
  · rw [show 0 + P.length + 1 = 0 + (P.length + [m].length) by simp only [List.length_cons, List.length_nil]; omega]
    exact h2
theorem fg_loop (hxy : x ≠ y) (hn : n ≤ 6) (hx : x < n) (hy : y < n) : ∀ (c k : Nat) (P S : List Msg) (N : Mem), P.length = c → c < k → P.length + S.length ≤ 240 → (∀ m, m ∈ P → okm n m) → SGm (P ++ S) N →
    ∃ N', f_Model_forget_7 (nI x) (nI y) k (nI c - 1) N = f_Model_forget_64 (nI x) (nI y) 1000 0 N' ∧ SGm (P.filter (keepm x y) ++ S) N' ∧ ∃ v, ∀ t, t < 7 ∨ 11 < t → N' t = (mset N 0 0 0 8 v) t := by
  intro c
  induction c with
  | zero =>
    intro k P S N h1 h2 h3 hP h
    obtain ⟨k, rfl⟩ : ∃ k', k = k' + 1 := ⟨k - 1, by omega⟩
    have : P = [] := List.eq_nil_of_length_eq_zero h1
    subst this
    rw [f_Model_forget_7, if_pos (show nI 0 - 1 < 0 by decide)]
    exact ⟨N, rfl, h, N 0 0 0 8, fun t _ => by rw [mset_self]⟩
  | succ c ih =>
    intro k P S N h1 h2 h3 hP h
    obtain ⟨k, rfl⟩ : ∃ k', k = k' + 1 := ⟨k - 1, by omega⟩
    obtain ⟨P, m, rfl⟩ : ∃ P' m, P = P' ++ [m] := ⟨P.dropLast, P.getLast (by intro e; rw [e] at h1; exact absurd h1 (by simp)), (List.dropLast_concat_getLast _).symm⟩
    rw [List.length_append] at h1 h3
    simp only [List.length_cons, List.length_nil] at h1 h3
    have hm := hP m (by simp)
    have hP' : ∀ m, m ∈ P → okm n m := fun q hq => hP q (by simp [hq])
    obtain ⟨-, hF, hT, -⟩ := hm
    have h7 : N 7 0 0 c = nI m.2.1 := by
      have := h.1
      rw [seg_app, seg_app] at this
      have := this.1.2.1
      rw [show 0 + P.length = c by omega] at this
      exact this
    have h8 : N 8 0 0 c = nI m.2.2.1 := by
      have := h.2.1
      rw [seg_app, seg_app] at this
      have := this.1.2.1
      rw [show 0 + P.length = c by omega] at this
      exact this
    rw [f_Model_forget_7, nI_pred, if_neg (nI_pos (by omega)), ix_nI (show c < 240 by omega) (by decide)]
    simp only [Option.bind_some]
    rw [h7, h8]
    unfold f_Model_forget_j56
    simp only [nI_eq (a := m.2.1) (b := x) (by omega) (by omega), nI_eq (a := m.2.1) (b := y) (by omega) (by omega), nI_eq (a := m.2.2.1) (b := x) (by omega) (by omega), nI_eq (a := m.2.2.1) (b := y) (by omega) (by omega)]
    rw [show nI c + (-1) = nI c - 1 from (Int32.sub_eq_add_neg _ _).symm]
    rw [List.filter_append]
    have K1 : keepm x y m = false → ∃ N', ((f_Model_dropMessage (nI c) N).bind fun r => f_Model_forget_7 (nI x) (nI y) k (nI c - 1) r) = f_Model_forget_64 (nI x) (nI y) 1000 0 N' ∧ SGm (P.filter (keepm x y) ++ [m].filter (keepm x y) ++ S) N' ∧ ∃ v, ∀ t, t < 7 ∨ 11 < t → N' t = (mset N 0 0 0 8 v) t := by
      intro hk
      rw [List.filter_cons_of_neg (by rw [hk]; decide), List.filter_nil, List.append_nil]
      obtain ⟨s7, s8, s9, s10, s11, sw⟩ := h
      have hlen : (P ++ [m] ++ S).length = c + 1 + S.length := by
        rw [List.length_append, List.length_append]; simp only [List.length_cons, List.length_nil]; omega
      rw [hlen] at sw
      obtain ⟨N1, q1, q2, q3⟩ := drop_m (k := c) (w := c + 1 + S.length) (by omega) (by omega) sw
      rw [q1]
      have E : ∀ t, 7 ≤ t → t ≤ 11 → ∀ j, N1 t 0 0 j = if P.length ≤ j ∧ j < P.length + S.length then N t 0 0 (j + 1) else N t 0 0 j := by
        intro t ht ht' j
        rw [q3 t ht ht' j, mset_t (by omega), show c + 1 + S.length - 1 = P.length + S.length by omega, show c = P.length by omega]
      obtain ⟨N', p1, p2, v, p3⟩ := ih k P S N1 (by omega) (by omega) (by omega) hP' ⟨seg_drop s7 (E 7 (by omega) (by omega)), seg_drop s8 (E 8 (by omega) (by omega)), seg_drop s9 (E 9 (by omega) (by omega)), seg_drop s10 (E 10 (by omega) (by omega)), seg_drop s11 (E 11 (by omega) (by omega)), by
        rw [q2 0 (by omega), mset_row, List.length_append, show c + 1 + S.length - 1 = P.length + S.length by omega]; exact upd_same⟩
      refine ⟨N', p1, p2, v, fun t ht => ?_⟩
      rw [p3 t ht]
      by_cases h0 : t = 0
      · subst h0
        funext a b
        have e0 := q2 0 (by omega)
        unfold mset ms at e0 ⊢
        rw [e0]
        by_cases hab : a = 0 ∧ b = 0
        · obtain ⟨rfl, rfl⟩ := hab
          simp only [and_self, if_true]
          funext j
          unfold upd
          by_cases hj : j = 8
          · rw [if_pos hj, if_pos hj]
          · rw [if_neg hj, if_neg hj, if_neg hj]
        · rw [if_neg (by simp only [true_and]; exact hab), if_neg (by simp only [true_and]; exact hab)]
          simp only [true_and, if_neg hab]
      · rw [mset_t h0, q2 t ht, mset_t h0, mset_t h0]
    have K2 : keepm x y m = true → ∃ N', f_Model_forget_7 (nI x) (nI y) k (nI c - 1) N = f_Model_forget_64 (nI x) (nI y) 1000 0 N' ∧ SGm (P.filter (keepm x y) ++ [m].filter (keepm x y) ++ S) N' ∧ ∃ v, ∀ t, t < 7 ∨ 11 < t → N' t = (mset N 0 0 0 8 v) t := by
      intro hk
      rw [List.filter_cons_of_pos hk, List.filter_nil, List.append_assoc]
      rw [List.append_assoc] at h
      exact ih k P ([m] ++ S) N (by omega) (by omega) (by rw [List.length_append]; simp only [List.length_cons, List.length_nil]; omega) hP' h
    by_cases c1 : m.2.1 = x
    · have c3 : ¬ m.2.1 = y := fun e => hxy (c1.symm.trans e)
      by_cases c2 : m.2.2.1 = y
      · rw [if_pos c1, if_pos c2]
        exact K1 (by simp [keepm, c1, c2])
      · rw [if_pos c1, if_neg c2, if_neg c3]
        exact K2 (by simp [keepm, c2, c3])
    · rw [if_neg c1]
      by_cases c3 : m.2.1 = y
      · by_cases c4 : m.2.2.1 = x
        · rw [if_pos c3, if_pos c4]
          exact K1 (by simp [keepm, c3, c4])
        · rw [if_pos c3, if_neg c4]
          exact K2 (by simp [keepm, c1, c4])
      · rw [if_neg c3]
        exact K2 (by simp [keepm, c1, c3])
end DB
