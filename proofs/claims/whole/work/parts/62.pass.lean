/-! a packet's way, on both sides: the parts -/
def rtm (a P : Int32) (N : Mem) : Option (Int32 × Mem) :=
  (f_Model_nextOf a P N).bind fun r140 => if r140.1 = (-1) then (some (1, r140.2)) else ((ix (((24 * a) + (4 * r140.1)) + P) 144).bind fun j168 => if (r140.2 5 0 0 j168) = 0 then (if 0 < (r140.2 0 0 0 17) then (some (4, r140.2)) else (if (r140.2 0 0 0 18) ≤ 0 then (if ((mset r140.2 0 0 0 17 (r140.2 5 0 0 j168)) 0 0 0 19) = 1 then (some (2, (mset r140.2 0 0 0 17 (r140.2 5 0 0 j168)))) else (some ((8 + r140.1), (mset r140.2 0 0 0 17 (r140.2 5 0 0 j168))))) else (some (4, r140.2)))) else (if ((mset r140.2 0 0 0 17 (r140.2 5 0 0 j168)) 0 0 0 19) = 1 then (some (2, (mset r140.2 0 0 0 17 (r140.2 5 0 0 j168)))) else (some ((8 + r140.1), (mset r140.2 0 0 0 17 (r140.2 5 0 0 j168))))))
def atm1 (a P : Int32) (N : Mem) : Option (Int32 × Mem) := if (N 0 0 0 17) = 0 then ((ix P 4).bind fun j130 => if (N 2 0 0 j130) = a then (some (0, N)) else rtm a P N) else rtm a P N
def atm2 (a b P : Int32) (N : Mem) : Option (Int32 × Mem) :=
  if (N 0 0 0 17) = 0 then (if (N 0 0 0 18) ≤ 0 then atm1 a P N else (if b = 0 then ((f_Model_looked a N).bind fun r114 => some (r114, N)) else ((ix (N 0 0 0 16) 4).bind fun j107 => if (N 2 0 0 j107) = a then ((f_Model_looked a N).bind fun r114 => some (r114, N)) else atm1 a P N))) else atm1 a P N
theorem at_j80 (a b : Int32) (N : Mem) (s P : Int32) : f_Model_at_j80 a b N s P = atm2 a b P (mset N 0 0 0 17 s) := rfl
theorem at_0 {a b : Int32} {N : Mem} (h : N 0 0 0 17 ≤ 0) : f_Model_at a b N = atm2 a b (N 0 0 0 16) N := by
  unfold f_Model_at
  rw [if_pos h]
  rfl
theorem at_l {a b : Int32} {N : Mem} (h : ¬ N 0 0 0 17 ≤ 0) : f_Model_at a b N = (f_Model_prefixAt a (N 0 0 0 17) N).bind fun r18 => if r18 = (-1) then (some (3, N)) else ((ix r18 4).bind fun j37 => if (N 2 0 0 j37) = a then atm2 a b (N 0 0 0 16) (mset N 0 0 0 17 0) else atm2 a b r18 N) := by
  unfold f_Model_at
  rw [if_neg h]
  have E : mset N 0 0 0 17 (N 0 0 0 17) = N := mset_self
  have A : ∀ r18, f_Model_at_j47 a b N r18 0 = atm2 a b r18 N := by
    intro r18
    show f_Model_at_j80 a b N (N 0 0 0 17) r18 = _
    rw [at_j80, E]
  have B : ∀ r18, f_Model_at_j47 a b N r18 1 = atm2 a b (N 0 0 0 16) (mset N 0 0 0 17 0) := by
    intro r18
    show f_Model_at_j80 a b N 0 ((mset N 0 0 0 17 0) 0 0 0 16) = _
    rw [at_j80]
    rfl
  simp only [A, B]
def sI (s : Nat) : Int32 := if s = 99 then 0 else nI (32 + s)
/-- the packet at its i-th place (from 0), at router r, with top label l -/
def PSm (i d r l p s : Nat) (M N : Mem) : Prop := M 9 0 0 2 = nI (i + 1) ∧ M 9 0 0 3 = nI p ∧ M 9 0 0 4 = ownI s ∧ M 9 0 0 5 = nI (d - i) ∧ M 9 0 0 6 = nI l ∧ M 10 0 0 i = nI r ∧ N 0 0 0 16 = nI p ∧ N 0 0 0 17 = nI l ∧ N 0 0 0 18 = sI s ∧ N 0 0 0 19 = nI (d - i) ∧ N 0 0 0 20 = nI d ∧ N 0 0 0 21 = nI (i + 1)
theorem sI_99 : sI 99 ≤ 0 := by decide
theorem sI_s {s : Nat} (h : s < 4) : sI s = nI (32 + s) := if_neg (by omega)
theorem sI_n {s : Nat} (h : s < 4) : ¬ sI s ≤ 0 := by
  rw [sI_s h]
  exact nI_nle (by omega) (by omega)
theorem own_s {s : Nat} (h : s < 4) : ¬ ownI s = -1 := fun e => by
  have := (own_m1 (n := 4) (by decide) (Or.inr h)).mp e
  omega
section PA
variable {cd : Int32} {n i d r l p s : Nat} {g : Nat → Nat → Nat} {ow : Nat → Nat} {lab : Nat → Nat → Nat} {tol : Nat → Nat → Nat → Nat} {aw : Nat → Nat → Nat} {M N : Mem}
theorem RR_note {A E : Int32} {k : Nat} (hk : k < 255) (h2 : M 9 0 0 2 = nI k) (h : RR cd n g ow lab tol aw M N) : RR cd n g ow lab tol aw (mset (mset (mset M 10 0 0 k A) 11 0 0 k E) 9 0 0 2 (nI (k + 1))) (mset (mset (mset N 13 0 0 k A) 14 0 0 k E) 0 0 0 21 (nI (k + 1))) := by
  obtain ⟨⟨b1, b2, b3, b4, b5, b6, b7, b8, ⟨k', k1, k2, k3, k4⟩, b10⟩, hw⟩ := h
  have hkk : k' = k := (nI_eq (by omega) (by omega)).mp (k2.symm.trans h2)
  subst hkk
  refine ⟨⟨b1, b2, b3, b4, b5, b6, b7, b8, ⟨k' + 1, by omega, rfl, rfl, fun j hj => ?_⟩, b10⟩, hw⟩
  show upd (M 10 0 0) k' A j = upd (N 13 0 0) k' A j ∧ upd (M 11 0 0) k' E j = upd (N 14 0 0) k' E j
  by_cases hjk : j = k'
  · subst hjk
    rw [upd_same, upd_same, upd_same, upd_same]
    exact ⟨rfl, rfl⟩
  · rw [upd_ne hjk, upd_ne hjk, upd_ne hjk, upd_ne hjk]
    exact k4 j (by omega)
theorem note_c {A E : Int32} {k : Nat} (hk : k < 255) (h2 : M 9 0 0 2 = nI k) : f_Packet_note n A E M = some (mset (mset (mset M 10 0 0 k A) 11 0 0 k E) 9 0 0 2 (nI (k + 1))) := by
  unfold f_Packet_note
  rw [h2, ix_nI hk (by decide), Option.bind_some, show (mset M 10 0 0 k A) 9 0 0 2 = nI k from h2, ix_nI hk (by decide), Option.bind_some, show (mset (mset M 10 0 0 k A) 11 0 0 k E) 9 0 0 2 = nI k from h2, nI_1]
/-- the entry that a place is noted with -/
def entm (l T s d : Nat) : Int32 := if l = 0 then (if s = 99 then 0 else 4096 * nI (32 + s) + 256 + nI d) else (if s = 99 then 4096 * nI l + 256 + nI T else 4096 * nI l + 0 + nI T)
theorem arr_m {A : Int32} {k T : Nat} (hl : okl l) (hs : s = 99 ∨ s < 4) (hk : k < 255) (h17 : N 0 0 0 17 = nI l) (h18 : N 0 0 0 18 = sI s) (h19 : N 0 0 0 19 = nI T) (h20 : N 0 0 0 20 = nI d) (h21 : N 0 0 0 21 = nI k) : f_Model_arrive A N = some (mset (mset (mset N 13 0 0 k A) 14 0 0 k (entm l T s d)) 0 0 0 21 (nI (k + 1))) := by
  have J : ∀ E, f_Model_arrive_j105 A N k E = some (mset (mset (mset N 13 0 0 k A) 14 0 0 k E) 0 0 0 21 (nI (k + 1))) := by
    intro E
    unfold f_Model_arrive_j105
    rw [show (mset N 13 0 0 k A) 0 0 0 21 = nI k from h21, ix_nI (show k < 300 by omega) (by decide), Option.bind_some, show (mset (mset N 13 0 0 k A) 14 0 0 k E) 0 0 0 21 = nI k from h21, nI_1]
  unfold f_Model_arrive f_Model_arrive_j29 f_Model_arrive_j48
  rw [h21, ix_nI (show k < 300 by omega) (by decide), Option.bind_some]
  simp only [show (mset N 13 0 0 k A) 0 0 0 17 = nI l from h17, show (mset N 13 0 0 k A) 0 0 0 18 = sI s from h18, show (mset N 13 0 0 k A) 0 0 0 19 = nI T from h19, show (mset N 13 0 0 k A) 0 0 0 20 = nI d from h20]
  unfold f_Model_arrive_j67 f_Model_arrive_j101
  simp only [J]
  unfold entm
  have hl9 := okl_lt hl
  by_cases h0 : l = 0
  · subst h0
    simp only [if_pos (show nI 0 ≤ 0 by decide), if_true]
    rcases hs with rfl | hs
    · rw [if_pos (show sI 99 = 0 from rfl)]
      rfl
    · rw [if_neg (show ¬ sI s = 0 by rw [sI_s hs]; exact nI_ne0 (by omega) (by omega)), sI_s hs, if_neg (by omega)]
  · have q1 : ¬ nI l ≤ 0 := nI_nle (by omega) (by omega)
    have q2 : ¬ nI l = 0 := nI_ne0 (by omega) (by omega)
    simp only [if_neg q1, if_neg q2, if_neg h0]
    rcases hs with rfl | hs
    · rw [if_pos sI_99, if_pos trivial, if_pos rfl]
    · rw [if_neg (sI_n hs), if_neg (show ¬ (1 : Int32) = 0 by decide), if_neg (by omega)]
theorem pfx_loop (hn : n ≤ 6) (hr : r < n) (hl : l < 24) (hL : VL n lab (M 18) (N 4 0 0)) : ∀ (c i k k' : Nat), i + c = 4 → c < k → c < k' →
    (f_Router_prefixOf_2 n r (nI l) M k (nI i) = some (-1) ∧ f_Model_prefixAt_2 (nI r) (nI l) N k' (nI i) = some (-1)) ∨ ∃ q, q < 4 ∧ f_Router_prefixOf_2 n r (nI l) M k (nI i) = some (nI q) ∧ f_Model_prefixAt_2 (nI r) (nI l) N k' (nI i) = some (nI q) := by
  intro c
  induction c with
  | zero =>
    intro i k k' h1 h2 h3
    obtain ⟨k, rfl⟩ : ∃ k', k = k' + 1 := ⟨k - 1, by omega⟩
    obtain ⟨k', rfl⟩ : ∃ k'', k' = k'' + 1 := ⟨k' - 1, by omega⟩
    have h4 : i = 4 := by omega
    subst h4
    rw [f_Router_prefixOf_2, f_Model_prefixAt_2, if_pos (show (4 : Int32) ≤ nI 4 by decide), if_pos (show (4 : Int32) ≤ nI 4 by decide)]
    exact Or.inl ⟨rfl, rfl⟩
  | succ c ih =>
    intro i k k' h1 h2 h3
    obtain ⟨k, rfl⟩ : ∃ k', k = k' + 1 := ⟨k - 1, by omega⟩
    obtain ⟨k', rfl⟩ : ∃ k'', k' = k'' + 1 := ⟨k' - 1, by omega⟩
    have e : ¬ (4 : Int32) ≤ nI i := nI_ge (b := 4) (by omega) (by omega)
    obtain ⟨l1, l2, l3⟩ := hL r i hr (by omega)
    have hl9 := okl_lt l1
    rw [f_Router_prefixOf_2, f_Model_prefixAt_2, if_neg e, if_neg e, e4, ix_nI (show 4 * r + i < 24 by omega) (by decide), ix_nI (show i < 4 by omega) (by decide), Option.bind_some, Option.bind_some, l2, l3, nI_1]
    by_cases h0 : lab r i = l
    · rw [if_pos (congrArg nI h0), if_pos (congrArg nI h0)]
      refine Or.inr ⟨i, by omega, rfl, ?_⟩
      unfold f_Model_prefixAt_j27
      exact if_neg (fun e => by have := (nI_eq (b := 4) (by omega) (by decide)).mp e; omega)
    · have hne : ¬ nI (lab r i) = nI l := fun e => h0 ((nI_eq (by omega) (by omega)).mp e)
      rw [if_neg hne, if_neg hne]
      exact ih (i + 1) k k' (by omega) (by omega) (by omega)
theorem pfx_rel (hn : n ≤ 6) (hr : r < n) (hl : l < 24) (hL : VL n lab (M 18) (N 4 0 0)) : (f_Router_prefixOf n r (nI l) M = some (-1) ∧ f_Model_prefixAt (nI r) (nI l) N = some (-1)) ∨ ∃ q, q < 4 ∧ f_Router_prefixOf n r (nI l) M = some (nI q) ∧ f_Model_prefixAt (nI r) (nI l) N = some (nI q) := by
  have := pfx_loop hn hr hl hL 4 0 1000 1000 (by omega) (by omega) (by omega)
  rw [nI_0] at this
  exact this
end PA
