/-! the relation of the two memories, view by view -/
abbrev Msg : Type := Nat × Nat × Nat × Nat × Nat
def pk (m : Msg) : Nat := m.1 * 65536 + m.2.1 * 4096 + m.2.2.1 * 256 + m.2.2.2.1 * 32 + m.2.2.2.2
def okm (n : Nat) (m : Msg) : Prop := (1 ≤ m.1 ∧ m.1 ≤ 3) ∧ m.2.1 < n ∧ m.2.2.1 < n ∧ m.2.1 ≠ m.2.2.1 ∧ m.2.2.2.1 < 4 ∧ 16 ≤ m.2.2.2.2 ∧ m.2.2.2.2 < 24
def okl (l : Nat) : Prop := l = 0 ∨ (16 ≤ l ∧ l < 24)
def VC (n : Nat) (g : Nat → Nat → Nat) (c : Nat → Nat → Nat → Int32) (f : Nat → Int32) : Prop := (∀ r u, r < n → u < n → c r 0 u = nI (g u r)) ∧ cstR n g f ∧ ∀ a, g a a = 0
def VO (n : Nat) (ow : Nat → Nat) (c f : Nat → Int32) : Prop := ∀ p, p < 4 → (ow p = 99 ∨ ow p < n) ∧ c p = ownI (ow p) ∧ f p = ownI (ow p)
def VD (n : Nat) (g : Nat → Nat → Nat) (ow : Nat → Nat) (c : Nat → Nat → Nat → Int32) : Prop := ∀ p v, p < 4 → v < n → c p 0 v = nI (dist n g (ow p) v)
def VL (n : Nat) (lab : Nat → Nat → Nat) (c : Nat → Nat → Nat → Int32) (f : Nat → Int32) : Prop := ∀ r p, r < n → p < 4 → okl (lab r p) ∧ c r 0 p = nI (lab r p) ∧ f (4 * r + p) = nI (lab r p)
def VT (n : Nat) (tol : Nat → Nat → Nat → Nat) (c : Nat → Nat → Nat → Int32) (f : Nat → Int32) : Prop := ∀ r x p, r < n → x < n → p < 4 → okl (tol r x p) ∧ c r x p = nI (tol r x p) ∧ f (24 * r + 4 * x + p) = nI (tol r x p)
def VA (n : Nat) (aw : Nat → Nat → Nat) (c : Nat → Nat → Nat → Int32) (f : Nat → Int32) : Prop := ∀ r k, r < n → k < 8 → aw r k < 64 ∧ c r 0 k = nI (aw r k) ∧ ∀ x, x < 6 → f (48 * r + 8 * x + k) = if (aw r k).testBit x then 1 else 0
def VM (n w : Nat) (ml : Nat → Msg) (c5 c6 f0 f7 f8 f9 f10 f11 : Nat → Int32) : Prop := w ≤ 240 ∧ c5 1 = nI w ∧ f0 8 = nI w ∧ c5 2 = f0 9 ∧ ∀ i, i < w → okm n (ml i) ∧ c6 i = nI (pk (ml i)) ∧ f7 i = nI (ml i).2.1 ∧ f8 i = nI (ml i).2.2.1 ∧ f9 i = nI (ml i).1 ∧ f10 i = nI (ml i).2.2.2.1 ∧ f11 i = nI (ml i).2.2.2.2
def VP (c f : Nat → Int32) : Prop := ∀ s, s < 4 → c s = f s
def VK (c9 c10 c11 f0 f13 f14 : Nat → Int32) : Prop := ∃ h, h ≤ 255 ∧ c9 2 = nI h ∧ f0 21 = nI h ∧ ∀ i, i < h → c10 i = f13 i ∧ c11 i = f14 i
abbrev VMM (n w : Nat) (ml : Nat → Msg) (M N : Mem) : Prop := VM n w ml (M 5 0 0) (M 6 0 0) (N 0 0 0) (N 7 0 0) (N 8 0 0) (N 9 0 0) (N 10 0 0) (N 11 0 0)
/-- everything but the mail -/
def RB (cd : Int32) (n : Nat) (g : Nat → Nat → Nat) (ow : Nat → Nat) (lab : Nat → Nat → Nat) (tol : Nat → Nat → Nat → Nat) (aw : Nat → Nat → Nat) (M N : Mem) : Prop :=
  N 0 0 0 1 = nI n ∧ VC n g (M 16) (N 1 0 0) ∧ VO n ow (M 3 0 0) (N 2 0 0) ∧ VD n g ow (M 12) ∧ VL n lab (M 18) (N 4 0 0) ∧ VT n tol (M 21) (N 5 0 0) ∧ VA n aw (M 20) (N 6 0 0) ∧ VP (M 8 0 0) (N 3 0 0) ∧ VK (M 9 0 0) (M 10 0 0) (M 11 0 0) (N 0 0 0) (N 13 0 0) (N 14 0 0) ∧ N 0 0 0 0 = cd
def RR (cd : Int32) (n : Nat) (g : Nat → Nat → Nat) (ow : Nat → Nat) (lab : Nat → Nat → Nat) (tol : Nat → Nat → Nat → Nat) (aw : Nat → Nat → Nat) (M N : Mem) : Prop :=
  RB cd n g ow lab tol aw M N ∧ ∃ w ml, VMM n w ml M N
def Rel (n : Nat) (M N : Mem) : Prop := ∃ cd g ow lab tol aw, RR cd n g ow lab tol aw M N
theorem RR_code {cd x : Int32} {n : Nat} {g : Nat → Nat → Nat} {ow : Nat → Nat} {lab : Nat → Nat → Nat} {tol : Nat → Nat → Nat → Nat} {aw : Nat → Nat → Nat} {M N : Mem} (h : RR cd n g ow lab tol aw M N) : RR x n g ow lab tol aw M (mset N 0 0 0 0 x) := by
  obtain ⟨⟨b1, b2, b3, b4, b5, b6, b7, b8, b9, -⟩, hw⟩ := h
  exact ⟨⟨b1, b2, b3, b4, b5, b6, b7, b8, b9, rfl⟩, hw⟩
set_option maxRecDepth 100000 in
theorem pk_i : ∀ k, k < 4 → ∀ f, f < 6 → ∀ t, t < 6 → ∀ p, p < 4 → ∀ l, l < 8 → ((((nI k <<< (16 &&& 31) ||| nI f <<< (12 &&& 31)) ||| nI t <<< (8 &&& 31)) ||| nI p <<< (5 &&& 31)) ||| nI (16 + l)) = nI (k * 65536 + f * 4096 + t * 256 + p * 32 + (16 + l)) := by decide +kernel
def pkb (k f t p l : Nat) (x : Int32) : Bool := (x >>> (16 &&& 31) == nI k) && (((x >>> (12 &&& 31)) &&& 15) == nI f) && (((x >>> (8 &&& 31)) &&& 15) == nI t) && (((x >>> (5 &&& 31)) &&& 7) == nI p) && ((x &&& 31) == nI (16 + l))
set_option maxRecDepth 100000 in
theorem pk_o : ∀ k, k < 4 → ∀ f, f < 6 → ∀ t, t < 6 → ∀ p, p < 4 → ∀ l, l < 8 → pkb k f t p l (nI (k * 65536 + f * 4096 + t * 256 + p * 32 + (16 + l))) = true := by decide +kernel
theorem pk_ent {n : Nat} {m : Msg} (hn : n ≤ 6) (h : okm n m) : ((((nI m.1 <<< (16 &&& 31) ||| nI m.2.1 <<< (12 &&& 31)) ||| nI m.2.2.1 <<< (8 &&& 31)) ||| nI m.2.2.2.1 <<< (5 &&& 31)) ||| nI m.2.2.2.2) = nI (pk m) := by
  obtain ⟨h1, h2, h3, h4, h5, h6⟩ := h
  have := pk_i m.1 (by omega) m.2.1 (by omega) m.2.2.1 (by omega) m.2.2.2.1 h5 (m.2.2.2.2 - 16) (by omega)
  rw [show 16 + (m.2.2.2.2 - 16) = m.2.2.2.2 by omega] at this
  exact this
theorem pk_dec {n : Nat} {m : Msg} (hn : n ≤ 6) (h : okm n m) : f_Mail_kindOf (nI (pk m)) = some (nI m.1) ∧ f_Mail_fromOf (nI (pk m)) = some (nI m.2.1) ∧ f_Mail_toOf (nI (pk m)) = some (nI m.2.2.1) ∧ f_Mail_prefixOf (nI (pk m)) = some (nI m.2.2.2.1) ∧ f_Mail_labelOf (nI (pk m)) = some (nI m.2.2.2.2) := by
  obtain ⟨h1, h2, h3, h4, h5, h6⟩ := h
  have := pk_o m.1 (by omega) m.2.1 (by omega) m.2.2.1 (by omega) m.2.2.2.1 h5 (m.2.2.2.2 - 16) (by omega)
  unfold pkb at this
  rw [show 16 + (m.2.2.2.2 - 16) = m.2.2.2.2 by omega] at this
  simp only [Bool.and_eq_true, beq_iff_eq] at this
  obtain ⟨⟨⟨⟨a1, a2⟩, a3⟩, a4⟩, a5⟩ := this
  exact ⟨congrArg some a1, congrArg some a2, congrArg some a3, congrArg some a4, congrArg some a5⟩
section PO
variable {cd : Int32} {n : Nat} {g : Nat → Nat → Nat} {ow : Nat → Nat} {lab : Nat → Nat → Nat} {tol : Nat → Nat → Nat → Nat} {aw : Nat → Nat → Nat} {M N : Mem}
theorem post_rel {m : Msg} (hn : n ≤ 6) (hm : okm n m) (h : RR cd n g ow lab tol aw M N) :
    ∃ M' N', f_Mail_post n (nI m.1) (nI m.2.1) (nI m.2.2.1) (nI m.2.2.2.1) (nI m.2.2.2.2) M = some M' ∧ f_Model_post (nI m.2.1) (nI m.2.2.1) (nI m.1) (nI m.2.2.2.1) (nI m.2.2.2.2) N = some N' ∧ RR cd n g ow lab tol aw M' N' := by
  obtain ⟨hB, w, ml, w1, w2, w3, w4, w5⟩ := h
  unfold f_Mail_post f_Model_post
  rw [w2, w3]
  by_cases hw : w = 240
  · subst hw
    rw [if_pos (show nI 240 = 240 from rfl), if_pos (show nI 240 = 240 from rfl)]
    refine ⟨_, _, rfl, rfl, hB, 240, ml, w1, w2, w3, ?_, w5⟩
    show M 5 0 0 2 + 1 = N 0 0 0 9 + 1
    rw [w4]
  · have hne : ¬ nI w = 240 := fun e => hw ((nI_eq (b := 240) (by omega) (by decide)).mp e)
    have hlt : w < 240 := by omega
    rw [if_neg hne, if_neg hne, ix_nI hlt (by decide), pk_ent hn hm]
    refine ⟨_, (mset (mset (mset (mset (mset (mset N 7 0 0 w (nI m.2.1)) 8 0 0 w (nI m.2.2.1)) 9 0 0 w (nI m.1)) 10 0 0 w (nI m.2.2.2.1)) 11 0 0 w (nI m.2.2.2.2)) 0 0 0 8 (nI w + 1)), rfl, ?_, hB, w + 1, fun i => if i = w then m else ml i, by omega, ?_, ?_, w4, fun i hi => ?_⟩
    · show (ix (N 0 0 0 8) 240).bind _ = _
      rw [w3, ix_nI hlt (by decide)]
      show (ix (N 0 0 0 8) 240).bind _ = _
      rw [w3, ix_nI hlt (by decide)]
      show (ix (N 0 0 0 8) 240).bind _ = _
      rw [w3, ix_nI hlt (by decide)]
      show (ix (N 0 0 0 8) 240).bind _ = _
      rw [w3, ix_nI hlt (by decide)]
      show some (mset _ 0 0 0 8 (N 0 0 0 8 + 1)) = _
      rw [w3]
    · show M 5 0 0 1 + 1 = _
      rw [w2, nI_1]
    · exact nI_1 w
    · by_cases hi9 : i = w
      · subst hi9
        dsimp only
        rw [if_pos rfl]
        exact ⟨hm, upd_same, upd_same, upd_same, upd_same, upd_same, upd_same⟩
      · dsimp only
        rw [if_neg hi9]
        obtain ⟨b1, b2, b3, b4, b5, b6, b7⟩ := w5 i (by omega)
        exact ⟨b1, (upd_ne hi9).trans b2, (upd_ne hi9).trans b3, (upd_ne hi9).trans b4, (upd_ne hi9).trans b5, (upd_ne hi9).trans b6, (upd_ne hi9).trans b7⟩
end PO
