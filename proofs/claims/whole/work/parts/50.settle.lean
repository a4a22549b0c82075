/-! a router settles, on both sides -/
theorem own_eq {n o r : Nat} (hn : n ≤ 6) (hr : r < n) (ho : o = 99 ∨ o < n) : ownI o = nI r ↔ o = r := by
  constructor
  · intro e
    rcases ho with rfl | ho
    · rw [ownI_99] at e; exact absurd (e ▸ nI_pos (n := r) (by omega)) (by decide)
    · rw [ownI_r (by omega)] at e; exact (nI_eq (by omega) (by omega)).mp e
  · intro e
    rw [e, ownI_r (by omega)]
theorem own_m1 {n o : Nat} (hn : n ≤ 6) (ho : o = 99 ∨ o < n) : ownI o = -1 ↔ o = 99 := by
  constructor
  · intro e
    rcases ho with rfl | ho
    · rfl
    · rw [ownI_r (by omega)] at e; exact absurd (e ▸ nI_pos (n := o) (by omega)) (by decide)
  · intro e; rw [e]; rfl
def rdy (n : Nat) (g : Nat → Nat → Nat) (ow : Nat → Nat) (tol : Nat → Nat → Nat → Nat) (r p : Nat) : Bool := decide (ow p = r) || (nxt n g (ow p) r != 99 && tol r (nxt n g (ow p) r) p != 0)
/-- all but the labels and the bits -/
def RX (cd : Int32) (n : Nat) (g : Nat → Nat → Nat) (ow : Nat → Nat) (tol : Nat → Nat → Nat → Nat) (M N : Mem) : Prop := ∃ lab aw, RR cd n g ow lab tol aw M N
section ST
variable {cd : Int32} {n r p : Nat} {g : Nat → Nat → Nat} {ow : Nat → Nat} {lab : Nat → Nat → Nat} {tol : Nat → Nat → Nat → Nat} {aw : Nat → Nat → Nat} {M N : Mem}
theorem owns_c (hn : n ≤ 6) (hr : r < n) (hp : p < 4) (hO : VO n ow (M 3 0 0) (N 2 0 0)) : f_Ways_owns n (nI r) (nI p) M = some (bI (decide (ow p = r))) := by
  obtain ⟨o1, o2, -⟩ := hO p hp
  unfold f_Ways_owns
  rw [ix_nI hp (by decide)]
  show (if M 3 0 0 p = nI r then some 1 else some 0) = _
  rw [o2]
  by_cases h : ow p = r
  · rw [if_pos ((own_eq hn hr o1).mpr h), decide_eq_true h]; rfl
  · rw [if_neg (fun e => h ((own_eq hn hr o1).mp e)), decide_eq_false h]; rfl
theorem next_c (hn : 2 ≤ n ∧ n ≤ 6) (hr : r < n) (hp : p < 4) (h : RR cd n g ow lab tol aw M N) : f_Ways_nextOf n (nI r) (nI p) M = some (ownI (nxt n g (ow p) r)) :=
  cn_next hn hr hp (fun v hv => h.1.2.2.2.1 p v hp hv) h.1.2.1.1 h.1.2.1.2.1.2.1
theorem next_m (hn : 2 ≤ n ∧ n ≤ 6) (hr : r < n) (hp : p < 4) (h : RR cd n g ow lab tol aw M N) : ∃ F, f_Model_nextOf (nI r) (nI p) N = some (ownI (nxt n g (ow p) r), ms N 12 0 0 F) ∧ RR cd n g ow lab tol aw M (ms N 12 0 0 F) := by
  obtain ⟨o1, -, o3⟩ := h.1.2.2.1 p hp
  obtain ⟨F, e⟩ := mn_next hn hr hp h.1.2.1.2.1 o1 h.1.1 o3
  exact ⟨F, e, h⟩
theorem told_c {x : Nat} (hn : n ≤ 6) (hr : r < n) (hx : x < n) (hp : p < 4) (hT : VT n tol (M 21) (N 5 0 0)) : f_Router_toldBy n r (nI x) (nI p) M = some (nI (tol r x p)) := by
  unfold f_Router_toldBy
  rw [ix_nI (show x < 6 by omega) (by decide), ix_nI hp (by decide)]
  exact congrArg some (hT r x p hr hx hp).2.1
theorem okl_lt {l : Nat} (h : okl l) : l < 24 := by rcases h with h | h <;> omega
theorem rdy_c (hn : 2 ≤ n ∧ n ≤ 6) (hr : r < n) (hp : p < 4) (h : RR cd n g ow lab tol aw M N) : f_LR_isReady n (nI r) (nI p) M = some (bI (rdy n g ow tol r p)) := by
  have hT := h.1.2.2.2.2.2.1
  unfold f_LR_isReady
  rw [owns_c hn.2 hr hp h.1.2.2.1]
  show (if bI (decide (ow p = r)) = 0 then _ else _) = some (bI (decide (ow p = r) || _))
  by_cases h1 : ow p = r
  · rw [decide_eq_true h1, if_neg (by decide), Bool.true_or]
    rfl
  · rw [decide_eq_false h1, if_pos (show bI false = 0 from rfl), next_c hn hr hp h, Bool.false_or]
    show (if ownI (nxt n g (ow p) r) = -1 then _ else _) = _
    rcases nxt_lt (n := n) (o := ow p) (r := r) (g := g) with h2 | ⟨h2, -⟩
    · rw [h2, if_pos ownI_99]
      rfl
    · have h3 : nxt n g (ow p) r ≠ 99 := by omega
      have hl := okl_lt (hT r (nxt n g (ow p) r) p hr h2 hp).1
      rw [if_neg (fun e => h3 ((own_m1 hn.2 (Or.inr h2)).mp e)), ix_nI hr (by omega), ownI_r h3]
      show ((f_Router_toldBy n r (nI (nxt n g (ow p) r)) (nI p) M).bind _) = _
      rw [told_c hn.2 hr h2 hp hT, show (nxt n g (ow p) r != 99) = true from bne_iff_ne.mpr h3, Bool.true_and]
      show (if nI (tol r (nxt n g (ow p) r) p) = 0 then some 0 else some 1) = _
      by_cases h4 : tol r (nxt n g (ow p) r) p = 0
      · rw [h4, if_pos (show nI 0 = 0 from rfl)]; rfl
      · rw [if_neg (nI_ne0 (by omega) (by omega)), show (tol r (nxt n g (ow p) r) p != 0) = true from bne_iff_ne.mpr h4]; rfl
theorem settle_rel (hn : 2 ≤ n ∧ n ≤ 6) (hr : r < n) (hp : p < 4) (h : RX cd n g ow tol M N) :
    ∃ M' N', f_LR_settle n (nI r) (nI p) M = some M' ∧ f_Model_settle (nI r) (nI p) N = some N' ∧ RX cd n g ow tol M' N' := by
  obtain ⟨lab, aw, h⟩ := h
  obtain ⟨F, e1, h'⟩ := next_m hn hr hp h
  have hT := h'.1.2.2.2.2.2.1
  have J : f_Model_settle (nI r) (nI p) N = f_Model_settle_j45 (nI r) (nI p) (ownI (nxt n g (ow p) r), ms N 12 0 0 F) (bI (rdy n g ow tol r p)) := by
    obtain ⟨o1, -, o3⟩ := h'.1.2.2.1 p hp
    unfold f_Model_settle
    rw [e1]
    show ((ix (nI p) 4).bind fun j12 => if (ms N 12 0 0 F) 2 0 0 j12 = nI r then _ else _) = _
    rw [ix_nI hp (by decide)]
    show (if (ms N 12 0 0 F) 2 0 0 p = nI r then f_Model_settle_j45 (nI r) (nI p) (ownI (nxt n g (ow p) r), ms N 12 0 0 F) 1 else (if ownI (nxt n g (ow p) r) = -1 then _ else (ix ((24 * nI r + 4 * ownI (nxt n g (ow p) r)) + nI p) 144).bind _)) = _
    rw [o3]
    unfold rdy
    by_cases h1 : ow p = r
    · rw [if_pos ((own_eq hn.2 hr o1).mpr h1), decide_eq_true h1, Bool.true_or]; rfl
    · rw [if_neg (fun e => h1 ((own_eq hn.2 hr o1).mp e)), decide_eq_false h1, Bool.false_or]
      rcases nxt_lt (n := n) (o := ow p) (r := r) (g := g) with h2 | ⟨h2, -⟩
      · rw [h2, if_pos ownI_99]; rfl
      · have h3 : nxt n g (ow p) r ≠ 99 := by omega
        obtain ⟨t1, t2, t3⟩ := hT r (nxt n g (ow p) r) p hr h2 hp
        have hl := okl_lt t1
        rw [if_neg (fun e => h3 ((own_m1 hn.2 (Or.inr h2)).mp e)), ownI_r h3, e24, ix_nI (show 24 * r + 4 * nxt n g (ow p) r + p < 144 by omega) (by decide), show (nxt n g (ow p) r != 99) = true from bne_iff_ne.mpr h3, Bool.true_and]
        show (if (ms N 12 0 0 F) 5 0 0 (24 * r + 4 * nxt n g (ow p) r + p) ≤ 0 then _ else _) = _
        rw [t3]
        by_cases h4 : tol r (nxt n g (ow p) r) p = 0
        · rw [h4, if_pos (show nI 0 ≤ 0 by decide)]; rfl
        · rw [if_neg (nI_nle (by omega) (by omega)), show (tol r (nxt n g (ow p) r) p != 0) = true from bne_iff_ne.mpr h4]; rfl
  obtain ⟨l1, l2, l3⟩ := h'.1.2.2.2.2.1 r p hr hp
  have hl := okl_lt l1
  rw [J]
  unfold f_LR_settle f_Model_settle_j45 f_Model_settle_j65
  rw [rdy_c hn hr hp h, ix_nI hr (by omega), e4, ix_nI (show 4 * r + p < 24 by omega) (by decide)]
  show ∃ M' N', ((f_Router_labelOf n r (nI p) M).bind _) = _ ∧ (if (ms N 12 0 0 F) 4 0 0 (4 * r + p) ≤ 0 then _ else _) = _ ∧ _
  rw [l3, show f_Router_labelOf n r (nI p) M = some (nI (lab r p)) by unfold f_Router_labelOf; rw [ix_nI hp (by decide)]; exact congrArg some l2]
  show ∃ M' N', (if nI (lab r p) = 0 then _ else _) = _ ∧ _
  by_cases h0 : lab r p = 0
  · rw [if_pos (show nI (lab r p) = 0 by rw [h0]; rfl), if_pos (show nI (lab r p) ≤ 0 by rw [h0]; decide)]
    cases rdy n g ow tol r p with
    | true =>
      obtain ⟨M', N', lab', q1, q2, q3⟩ := give_rel hn hr hp h'
      refine ⟨M', N', ?_, ?_, lab', aw, q3⟩
      · show ((f_LR_giveLabel n (nI r) (nI p) M).bind _) = _
        rw [q1]; rfl
      · show ((f_Model_take (nI r) (nI p) (ms N 12 0 0 F)).bind _) = _
        rw [q2]; rfl
    | false => exact ⟨M, _, rfl, rfl, lab, aw, h'⟩
  · rw [if_neg (nI_ne0 (by omega) (by omega)), if_neg (nI_nle (by omega) (by omega))]
    cases rdy n g ow tol r p with
    | true => exact ⟨M, _, rfl, rfl, lab, aw, h'⟩
    | false =>
      obtain ⟨M', N', lab', aw', q1, q2, q3⟩ := with_rel hn hr hp h0 h'
      refine ⟨M', N', ?_, ?_, lab', aw', q3⟩
      · show ((f_LR_withdrawLabel n (nI r) (nI p) M).bind _) = _
        rw [q1]; rfl
      · show ((f_Model_withdraw (nI r) (nI p) (ms N 12 0 0 F)).bind _) = _
        rw [q2]; rfl
end ST
