/-! a message is taken out of the mail, on both sides -/
def cutm (k : Nat) (ml : Nat → Msg) : Nat → Msg := fun i => if i < k then ml i else ml (i + 1)
theorem mset_self {M : Mem} {t a b j : Nat} : mset M t a b j (M t a b j) = M := by
  unfold mset
  rw [show upd (M t a b) j (M t a b j) = M t a b from funext fun i => by unfold upd; split <;> simp_all]
  exact ms_self M t a b
/-- what a drop does to the rows 7 to 11 -/
def shd (m i : Nat) (N N' : Mem) : Prop := (∀ t, t < 7 ∨ 11 < t → N' t = N t) ∧ ∀ t, 7 ≤ t → t ≤ 11 → ∀ j, N' t 0 0 j = if i ≤ j ∧ j < m then N t 0 0 (j + 1) else N t 0 0 j
theorem drop_loop {m : Nat} (hm : m < 240) : ∀ (c i k : Nat) (N : Mem), i + c = m → c < k → N 0 0 0 8 = nI m → ∃ N', f_Model_dropMessage_12 k (nI i) N = some N' ∧ shd m i N N' := by
  intro c
  induction c with
  | zero =>
    intro i k N h1 h2 h
    obtain ⟨k, rfl⟩ : ∃ k', k = k' + 1 := ⟨k - 1, by omega⟩
    rw [f_Model_dropMessage_12, h, if_pos (nI_le (by omega) (by omega))]
    refine ⟨N, rfl, fun t _ => rfl, fun t _ _ j => ?_⟩
    rw [if_neg (by omega)]
  | succ c ih =>
    intro i k N h1 h2 h
    obtain ⟨k, rfl⟩ : ∃ k', k = k' + 1 := ⟨k - 1, by omega⟩
    rw [f_Model_dropMessage_12, h, if_neg (nI_ge (by omega) (by omega)), nI_1, ix_nI (show i + 1 < 240 by omega) (by decide), ix_nI (show i < 240 by omega) (by decide)]
    obtain ⟨N', q1, q2, q3⟩ := ih (i + 1) k (mset (mset (mset (mset (mset N 7 0 0 i (N 7 0 0 (i + 1))) 8 0 0 i (N 8 0 0 (i + 1))) 9 0 0 i (N 9 0 0 (i + 1))) 10 0 0 i (N 10 0 0 (i + 1))) 11 0 0 i (N 11 0 0 (i + 1))) (by omega) (by omega) h
    refine ⟨N', q1, fun t ht => ?_, fun t ht ht' j => ?_⟩
    · rw [q2 t ht, mset_t (by omega), mset_t (by omega), mset_t (by omega), mset_t (by omega), mset_t (by omega)]
    · have E : ∀ j, (mset (mset (mset (mset (mset N 7 0 0 i (N 7 0 0 (i + 1))) 8 0 0 i (N 8 0 0 (i + 1))) 9 0 0 i (N 9 0 0 (i + 1))) 10 0 0 i (N 10 0 0 (i + 1))) 11 0 0 i (N 11 0 0 (i + 1))) t 0 0 j = if j = i then N t 0 0 (i + 1) else N t 0 0 j := by
        intro j
        rcases (show t = 7 ∨ t = 8 ∨ t = 9 ∨ t = 10 ∨ t = 11 by omega) with rfl | rfl | rfl | rfl | rfl <;> rfl
      rw [q3 t ht ht' j, E, E]
      by_cases hj : j = i
      · subst hj
        rw [if_neg (by omega), if_pos rfl, if_pos (by omega)]
      · by_cases hj2 : i + 1 ≤ j ∧ j < m
        · rw [if_pos hj2, if_neg (by omega), if_pos (by omega)]
        · rw [if_neg hj2, if_neg hj, if_neg (by omega)]
theorem drop_m {k w : Nat} {N : Mem} (hk : k < w) (hw : w ≤ 240) (h : N 0 0 0 8 = nI w) : ∃ N', f_Model_dropMessage (nI k) N = some N' ∧ shd (w - 1) k (mset N 0 0 0 8 (nI (w - 1))) N' := by
  obtain ⟨m, rfl⟩ : ∃ m, w = m + 1 := ⟨w - 1, by omega⟩
  unfold f_Model_dropMessage
  rw [h, nI_pred]
  exact drop_loop (by omega) (m - k) k 1000 (mset N 0 0 0 8 (nI m)) (by omega) (by omega) (by rw [mset_row]; exact upd_same)
theorem RB_shd {cd : Int32} {n : Nat} {g : Nat → Nat → Nat} {ow : Nat → Nat} {lab : Nat → Nat → Nat} {tol : Nat → Nat → Nat → Nat} {aw : Nat → Nat → Nat} {M N N' : Mem} (e : ∀ t, t < 7 ∨ 11 < t → N' t = N t) (h : RB cd n g ow lab tol aw M N) : RB cd n g ow lab tol aw M N' := by
  unfold RB at *
  rw [e 0 (by omega), e 1 (by omega), e 2 (by omega), e 3 (by omega), e 4 (by omega), e 5 (by omega), e 6 (by omega), e 13 (by omega), e 14 (by omega)]
  exact h
section CO
variable {cd : Int32} {n k w : Nat} {g : Nat → Nat → Nat} {ow : Nat → Nat} {lab : Nat → Nat → Nat} {tol : Nat → Nat → Nat → Nat} {aw : Nat → Nat → Nat} {M N : Mem} {ml : Nat → Msg}
/-- the mail without message k -/
def tkn (k w : Nat) (M : Mem) : Mem := ms (mset M 5 0 0 1 (nI (w - 1))) 6 0 0 (va_cpy (M 6 0 0) (M 6 0 0) (k + 1) k (w - 1 - k))
theorem take_c (hk : k < w) (h : VMM n w ml M N) : f_Mail_take n (nI k) M = some (nI (pk (ml k)), tkn k w M) := by
  obtain ⟨w1, w2, w3, w4, w5⟩ := h
  obtain ⟨m, rfl⟩ : ∃ m, w = m + 1 := ⟨w - 1, by omega⟩
  unfold f_Mail_take tkn
  rw [w2, nI_pred, ix_nI (show k < 240 by omega) (by decide), nI_1]
  have hc : cpok (nI (k + 1)) (nI k) (nI m - nI k) 240 := by
    rw [nI_sub (by omega)]
    refine ⟨nI_pos (by omega), nI_pos (by omega), nI_pos (by omega), ?_, ?_⟩
    · rw [nI_clamp (by omega), nI_clamp (by omega)]; omega
    · rw [nI_clamp (by omega), nI_clamp (by omega)]; omega
  refine (if_pos hc).trans ?_
  show some (M 6 0 0 k, ms (mset M 5 0 0 1 (nI m)) 6 0 0 (va_cpy (M 6 0 0) (M 6 0 0) (nI (k + 1)).toNatClampNeg (nI k).toNatClampNeg (nI m - nI k).toNatClampNeg)) = _
  rw [nI_sub (by omega), nI_clamp (n := m - k) (by omega), nI_clamp (n := k + 1) (by omega), nI_clamp (n := k) (by omega), (w5 k hk).2.1]
  rfl
theorem cut_VM {N' : Mem} (hk : k < w) (h : VMM n w ml M N) (hs : shd (w - 1) k (mset N 0 0 0 8 (nI (w - 1))) N') : VMM n (w - 1) (cutm k ml) (tkn k w M) N' := by
  obtain ⟨w1, w2, w3, w4, w5⟩ := h
  obtain ⟨s1, s2⟩ := hs
  show VM n (w - 1) (cutm k ml) _ _ (N' 0 0 0) _ _ _ _ _
  rw [s1 0 (by omega)]
  refine ⟨by omega, ?_, ?_, w4, fun i hi => ?_⟩
  · show upd (M 5 0 0) 1 (nI (w - 1)) 1 = _
    exact upd_same
  · rw [mset_row]; exact upd_same
  · rw [s2 7 (by omega) (by omega), s2 8 (by omega) (by omega), s2 9 (by omega) (by omega), s2 10 (by omega) (by omega), s2 11 (by omega) (by omega)]
    show okm n (cutm k ml i) ∧ va_cpy (M 6 0 0) (M 6 0 0) (k + 1) k (w - 1 - k) i = _ ∧ (if k ≤ i ∧ i < w - 1 then N 7 0 0 (i + 1) else N 7 0 0 i) = _ ∧ (if k ≤ i ∧ i < w - 1 then N 8 0 0 (i + 1) else N 8 0 0 i) = _ ∧ (if k ≤ i ∧ i < w - 1 then N 9 0 0 (i + 1) else N 9 0 0 i) = _ ∧ (if k ≤ i ∧ i < w - 1 then N 10 0 0 (i + 1) else N 10 0 0 i) = _ ∧ (if k ≤ i ∧ i < w - 1 then N 11 0 0 (i + 1) else N 11 0 0 i) = _
    unfold va_cpy cutm
    by_cases hik : i < k
    · have hc : ¬ (k ≤ i ∧ i < w - 1) := by omega
      rw [if_neg hc, if_neg hc, if_neg hc, if_neg hc, if_neg hc, if_neg (show ¬ (k ≤ i ∧ i < k + (w - 1 - k)) by omega), if_pos hik]
      exact w5 i (by omega)
    · have hc : k ≤ i ∧ i < w - 1 := by omega
      rw [if_pos hc, if_pos hc, if_pos hc, if_pos hc, if_pos hc, if_pos (show k ≤ i ∧ i < k + (w - 1 - k) by omega), if_neg hik, show k + 1 + (i - k) = i + 1 by omega]
      exact w5 (i + 1) (by omega)
theorem cut_rel (hk : k < w) (hB : RB cd n g ow lab tol aw M N) (h : VMM n w ml M N) : f_Mail_take n (nI k) M = some (nI (pk (ml k)), tkn k w M) ∧ ∃ N', f_Model_dropMessage (nI k) N = some N' ∧ RB cd n g ow lab tol aw (tkn k w M) N' ∧ VMM n (w - 1) (cutm k ml) (tkn k w M) N' := by
  obtain ⟨N', q1, q2⟩ := drop_m hk h.1 h.2.2.1
  refine ⟨take_c hk h, N', q1, ?_, cut_VM hk h q2⟩
  have hB' : RB cd n g ow lab tol aw (tkn k w M) (mset N 0 0 0 8 (nI (w - 1))) := hB
  exact RB_shd q2.1 hB'
theorem come_eq {F T K P L : Int32} {N1 : Mem} (hk : k < 240) (h7 : N 7 0 0 k = F) (h8 : N 8 0 0 k = T) (h9 : N 9 0 0 k = K) (h10 : N 10 0 0 k = P) (h11 : N 11 0 0 k = L) (hd : f_Model_dropMessage (nI k) N = some N1) :
    f_Model_come (nI k) N = if K = 3 then ((ix (48 * T + 8 * F + L - 16) 288).bind fun j => (f_Model_settleAll T (mset N1 6 0 0 j 0)).bind fun r => some (K, r)) else if K = 1 then ((ix (24 * T + 4 * F + P) 144).bind fun j => (f_Model_settle T P (mset N1 5 0 0 j L)).bind fun r => some (K, r)) else ((ix (24 * T + 4 * F + P) 144).bind fun i => if N1 5 0 0 i = L then ((ix (24 * T + 4 * F + P) 144).bind fun j => (f_Model_post T F 3 P L (mset N1 5 0 0 j 0)).bind fun r' => (f_Model_settle T P r').bind fun r => some (K, r)) else ((ix (24 * T + 4 * F + P) 144).bind fun i' => (ix (24 * T + 4 * F + P) 144).bind fun j => (f_Model_post T F 3 P L (mset N1 5 0 0 j (N1 5 0 0 i'))).bind fun r' => (f_Model_settle T P r').bind fun r => some (K, r))) := by
  subst h7 h8 h9 h10 h11
  unfold f_Model_come
  rw [ix_nI hk (by decide)]
  show ((f_Model_dropMessage (nI k) N).bind _) = _
  rw [hd]
  rfl
theorem come_rel (hn : 2 ≤ n ∧ n ≤ 6) (hk : k < w) (hB : RB cd n g ow lab tol aw M N) (h : VMM n w ml M N) :
    ∃ M' N' tol', f_Mail_take n (nI k) M = some (nI (pk (ml k)), tkn k w M) ∧ f_LR_receive n (nI (pk (ml k))) (tkn k w M) = some M' ∧ f_Model_come (nI k) N = some (nI (ml k).1, N') ∧ RX cd n g ow tol' M' N' := by
  obtain ⟨q1, N1, q2, q3, q4⟩ := cut_rel hk hB h
  obtain ⟨hm, -, m7, m8, m9, m10, m11⟩ := h.2.2.2.2 k hk
  have C := come_eq (show k < 240 by have := h.1; omega) m7 m8 m9 m10 m11 q2
  have R1 : RR cd n g ow lab tol aw (tkn k w M) N1 := ⟨q3, w - 1, cutm k ml, q4⟩
  obtain ⟨d1, d2, d3, d4, d5⟩ := pk_dec hn.2 hm
  rw [C]
  generalize ml k = m at *
  generalize tkn k w M = M1 at *
  obtain ⟨K, F, T, P, L⟩ := m
  obtain ⟨⟨hK1, hK3⟩, hF, hT, hne, hP, hL⟩ := hm
  dsimp only at *
  unfold f_LR_receive
  rw [d1, d2, d3, d4, d5, e24, ix_nI (show 24 * T + 4 * F + P < 144 by omega) (by decide), e48, show nI (48 * T + 8 * F + L) - 16 = nI (48 * T + 8 * F + (L - 16)) by rw [show (16 : Int32) = nI 16 from rfl, nI_sub (by omega)]; congr 1; omega, ix_nI (show 48 * T + 8 * F + (L - 16) < 288 by omega) (by decide)]
  simp only [Option.bind_some]
  rw [ix_nI hT (by omega)]
  rcases (show K = 1 ∨ K = 2 ∨ K = 3 by omega) with rfl | rfl | rfl
  · obtain ⟨M', N', s1, s2, s3⟩ := settle_rel hn hT hP ⟨lab, aw, RR_tol hn.2 hT hF hP (Or.inr hL) R1⟩
    refine ⟨M', N', _, q1, ?_, ?_, s3⟩
    · show ((f_Router_hear n T (nI F) (nI P) (nI L) M1).bind _) = _
      unfold f_Router_hear
      rw [ix_nI (show F < 6 by omega) (by decide), ix_nI hP (by decide)]
      show ((f_LR_settle n (nI T) (nI P) (mset M1 21 T F P (nI L))).bind _) = _
      rw [s1]; rfl
    · rw [if_neg (by decide), if_pos (show nI 1 = 1 from rfl)]
      show ((f_Model_settle (nI T) (nI P) (mset N1 5 0 0 (24 * T + 4 * F + P) (nI L))).bind _) = _
      rw [s2]; rfl
  · obtain ⟨t1, t2, t3⟩ := q3.2.2.2.2.2.1 T F P hT hF hP
    have hl := okl_lt t1
    have O : okm n (3, T, F, P, L) := ⟨⟨show 1 ≤ 3 by decide, show 3 ≤ 3 by decide⟩, hT, hF, fun e => hne e.symm, hP, hL⟩
    rw [if_neg (show ¬ nI 2 = 1 by decide), if_pos (show nI 2 = 2 from rfl), if_neg (show ¬ nI 2 = 3 by decide), if_neg (show ¬ nI 2 = 1 by decide)]
    show ∃ M' N' tol', _ ∧ ((f_Router_unhear n T (nI F) (nI P) (nI L) M1).bind _) = _ ∧ (if N1 5 0 0 (24 * T + 4 * F + P) = nI L then ((f_Model_post (nI T) (nI F) 3 (nI P) (nI L) (mset N1 5 0 0 (24 * T + 4 * F + P) 0)).bind _) else ((f_Model_post (nI T) (nI F) 3 (nI P) (nI L) (mset N1 5 0 0 (24 * T + 4 * F + P) (N1 5 0 0 (24 * T + 4 * F + P)))).bind _)) = _ ∧ _
    unfold f_Router_unhear
    rw [ix_nI (show F < 6 by omega) (by decide), ix_nI hP (by decide), mset_self, t3]
    show ∃ M' N' tol', _ ∧ ((if M1 21 T F P = nI L then some (mset M1 21 T F P 0) else some M1).bind _) = _ ∧ _
    rw [t2]
    by_cases hL9 : tol T F P = L
    · rw [if_pos (congrArg nI hL9), if_pos (congrArg nI hL9)]
      obtain ⟨M2, N2, p1, p2, p3⟩ := post_rel hn.2 O (RR_tol (l := 0) hn.2 hT hF hP (Or.inl rfl) R1)
      obtain ⟨M', N', s1, s2, s3⟩ := settle_rel hn hT hP ⟨lab, aw, p3⟩
      rw [nI_0] at p1 p2
      refine ⟨M', N', _, q1, ?_, ?_, s3⟩
      · show ((f_Mail_post n 3 (nI T) (nI F) (nI P) (nI L) (mset M1 21 T F P 0)).bind fun r => (f_LR_settle n (nI T) (nI P) r).bind fun r' => some r') = _
        rw [show f_Mail_post n 3 (nI T) (nI F) (nI P) (nI L) (mset M1 21 T F P 0) = some M2 from p1]
        show ((f_LR_settle n (nI T) (nI P) M2).bind fun r' => some r') = _
        rw [s1]; rfl
      · rw [show f_Model_post (nI T) (nI F) 3 (nI P) (nI L) (mset N1 5 0 0 (24 * T + 4 * F + P) 0) = some N2 from p2]
        show ((f_Model_settle (nI T) (nI P) N2).bind fun r' => some (nI 2, r')) = _
        rw [s2]; rfl
    · have hne9 : ¬ nI (tol T F P) = nI L := fun e => hL9 ((nI_eq (by omega) (by omega)).mp e)
      rw [if_neg hne9, if_neg hne9]
      obtain ⟨M2, N2, p1, p2, p3⟩ := post_rel hn.2 O R1
      obtain ⟨M', N', s1, s2, s3⟩ := settle_rel hn hT hP ⟨lab, aw, p3⟩
      refine ⟨M', N', _, q1, ?_, ?_, s3⟩
      · show ((f_Mail_post n 3 (nI T) (nI F) (nI P) (nI L) M1).bind fun r => (f_LR_settle n (nI T) (nI P) r).bind fun r' => some r') = _
        rw [show f_Mail_post n 3 (nI T) (nI F) (nI P) (nI L) M1 = some M2 from p1]
        show ((f_LR_settle n (nI T) (nI P) M2).bind fun r' => some r') = _
        rw [s1]; rfl
      · rw [show f_Model_post (nI T) (nI F) 3 (nI P) (nI L) N1 = some N2 from p2]
        show ((f_Model_settle (nI T) (nI P) N2).bind fun r' => some (nI 2, r')) = _
        rw [s2]; rfl
  · obtain ⟨M2, aw', p1, p2⟩ := end_rel hn.2 hT hF hL R1
    obtain ⟨M', N', s1, s2, s3⟩ := sp_rel hn hT ⟨lab, aw', p2⟩
    refine ⟨M', N', _, q1, ?_, ?_, s3⟩
    · show ((f_Router_endRelease n T (nI L) (nI F) M1).bind fun r => (f_LR_settlePrefixes n (nI T) r).bind fun r' => some r') = _
      rw [p1]
      show ((f_LR_settlePrefixes n (nI T) M2).bind fun r' => some r') = _
      rw [s1]; rfl
    · rw [if_pos (show nI 3 = 3 from rfl)]
      show ((f_Model_settleAll (nI T) (mset N1 6 0 0 (48 * T + 8 * F + (L - 16)) 0)).bind fun r' => some (nI 3, r')) = _
      rw [s2]; rfl
end CO
