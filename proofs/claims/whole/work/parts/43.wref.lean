/-! the reference's distances are the same least ways -/
theorem mnf_noneR {B : Nat} {f : Nat → Nat} : ∀ m, (∀ u, u < m → B ≤ f u) → mnf f B m = B
  | 0, _ => rfl
  | m + 1, hf => by
    show min (mnf f B m) (f m) = B
    rw [mnf_noneR m (fun u hu => hf u (by omega))]
    exact Nat.min_eq_left (hf m (by omega))
theorem dk_noneR {n B : Nat} {g : Nat → Nat → Nat} {d0 : Nat → Nat} (h0 : ∀ v, v < n → d0 v = B) : ∀ k v, v < n → dk n g d0 k v = B
  | 0, v, hv => h0 v hv
  | k + 1, v, hv => by
    have ih := dk_noneR (n := n) (g := g) h0 k
    show mnf (fun u => if g u v = 0 then dk n g d0 k v else dk n g d0 k u + g u v) (dk n g d0 k v) n = B
    rw [ih v hv]
    refine mnf_noneR n (fun u hu => ?_)
    split
    · exact Nat.le_refl _
    · rw [ih u hu]; exact Nat.le_add_right _ _
theorem div6 : ∀ ab, ab < 36 → nI ab / 6 = nI (ab / 6) ∧ nI ab - nI ab / 6 * 6 = nI (ab % 6) := by decide +kernel
def fin (d : Nat → Nat) (L : Nat) : Prop := ∀ v, d v = 100000 ∨ d v ≤ L
theorem fin_le {d : Nat → Nat} {L : Nat} (h : fin d L) (hL : L ≤ 100000) (v : Nat) : d v ≤ 100000 := by
  rcases h v with h | h <;> omega
theorem fin_rx1 {g : Nat → Nat → Nat} {d : Nat → Nat} {L : Nat} {q : Nat × Nat} (h : fin d L) (h15 : ∀ u v, g u v ≤ 15) (hL : L + 15 < 100000) : fin (rx1 g d q) (L + 15) := by
  intro v
  unfold rx1
  have h1 := h v
  have h2 := h q.1
  have h3 := h15 q.1 q.2
  split <;> omega
theorem fin_rx {g : Nat → Nat → Nat} (h15 : ∀ u v, g u v ≤ 15) : ∀ (E : List (Nat × Nat)) (d : Nat → Nat) (L : Nat), fin d L → L + 15 * E.length < 100000 → fin (rx g d E) (L + 15 * E.length)
  | [], _, _, h, _ => h
  | q :: E, d, L, h, hL => by
    simp only [List.length_cons] at hL ⊢
    have := fin_rx h15 E (rx1 g d q) (L + 15) (fin_rx1 h h15 (by omega)) (by omega)
    rw [show L + 15 * (E.length + 1) = L + 15 + 15 * E.length by omega]
    exact this
def edr (i c : Nat) : List (Nat × Nat) := (List.range' i c).map (fun x => (x / 6, x % 6))
theorem edr_s (i c : Nat) : edr i (c + 1) = (i / 6, i % 6) :: edr (i + 1) c := rfl
theorem edr_len (i c : Nat) : (edr i c).length = c := by simp [edr]
theorem edr_mem {u v : Nat} (hu : u < 6) (hv : v < 6) : (u, v) ∈ edr 0 36 := by
  unfold edr
  refine List.mem_map.mpr ⟨6 * u + v, List.mem_range'_1.mpr (by omega), ?_⟩
  rw [show (6 * u + v) / 6 = u by omega, show (6 * u + v) % 6 = v by omega]
section MW
variable {n : Nat} {N : Mem} {g : Nat → Nat → Nat} {X : Nat → Int32}
/-- what the reference's costs are -/
def cstR (n : Nat) (g : Nat → Nat → Nat) (f : Nat → Int32) : Prop := (∀ a b, a < 6 → b < 6 → f (6 * a + b) = nI (g a b)) ∧ (∀ a b, g a b ≤ 15) ∧ (∀ a b, g a b ≠ 0 → a < n ∧ b < n) ∧ ∀ a b, g a b = g b a
theorem mw_step {kk : Int32 → Mem → Option Mem} {v2 : Int32} {k ab L : Nat} {d : Nat → Nat} (hn : n ≤ 6) (hg : cstR n g (N 1 0 0)) (hab : ab < 36) (hd : fin d L) (hL : L + 15 < 100000) :
    f_Model_measure_49 v2 kk (k + 1) (nI ab) (ms N 12 0 0 (rof n d X)) = f_Model_measure_49 v2 kk k (nI (ab + 1)) (ms N 12 0 0 (rof n (rx1 g d (ab / 6, ab % 6)) X)) := by
  obtain ⟨g1, g2, g3, g4⟩ := hg
  obtain ⟨e1, e2⟩ := div6 ab hab
  have hc : N 1 0 0 ab = nI (g (ab / 6) (ab % 6)) := by
    have := g1 (ab / 6) (ab % 6) (by omega) (by omega)
    rwa [show 6 * (ab / 6) + ab % 6 = ab by omega] at this
  have hcc := g2 (ab / 6) (ab % 6)
  have t1 : (ms N 12 0 0 (rof n d X)) 1 = N 1 := ms_t (by decide)
  have keep : ∀ (kk2 : Int32 → Mem → Option Mem), f_Model_measure_j104 (nI ab) (ms N 12 0 0 (rof n d X)) kk2 (-1) = kk2 (nI (ab + 1)) (ms N 12 0 0 (rof n d X)) := by
    intro kk2
    unfold f_Model_measure_j104 f_Model_measure_j151
    rw [if_pos (by decide), e2, ix_nI (show ab % 6 < 6 by omega) (by decide), nI_1]
    show kk2 (nI (ab + 1)) (mset (ms N 12 0 0 (rof n d X)) 12 0 0 (ab % 6) (ms N 12 0 0 (rof n d X) 12 0 0 (ab % 6))) = _
    rw [ms_mset, ms_same]
    congr 2
    funext v
    by_cases hv : v = ab % 6
    · subst hv; exact upd_same
    · exact upd_ne hv
  rw [f_Model_measure_49, if_neg (show ¬ (36 : Int32) ≤ nI ab from nI_ge (a := ab) (b := 36) hab (by decide)), ix_nI hab (by decide)]
  show (if (ms N 12 0 0 (rof n d X)) 1 0 0 ab ≤ 0 then _ else _) = _
  rw [t1, hc]
  by_cases h0 : g (ab / 6) (ab % 6) = 0
  · rw [h0, if_pos (show nI 0 ≤ 0 by decide), keep]
    congr 3
    funext v
    unfold rx1
    rw [if_neg (fun z => z.2 h0)]
  · obtain ⟨ha, hb⟩ := g3 _ _ h0
    have da := hd (ab / 6)
    have db := hd (ab % 6)
    rw [if_neg (nI_nle (by omega) (by omega)), e1, ix_nI (show ab / 6 < 6 by omega) (by decide)]
    show (if (ms N 12 0 0 (rof n d X)) 12 0 0 (ab / 6) < 0 then _ else _) = _
    rw [ms_same, rof_at ha]
    by_cases h1 : d (ab / 6) = 100000
    · rw [if_pos ((farI_lt (by omega)).mpr h1), keep]
      congr 3
      funext v
      unfold rx1
      by_cases hv : v = ab % 6 ∧ g (ab / 6) (ab % 6) ≠ 0
      · rw [if_pos hv, hv.1]
        show d (ab % 6) = min (d (ab % 6)) (d (ab / 6) + _)
        omega
      · rw [if_neg hv]
    · rw [if_neg (fun z => h1 ((farI_lt (by omega)).mp z))]
      show f_Model_measure_j104 (nI ab) (ms N 12 0 0 (rof n d X)) _ ((ms N 12 0 0 (rof n d X)) 12 0 0 (ab / 6) + (ms N 12 0 0 (rof n d X)) 1 0 0 ab) = _
      rw [ms_same, t1, hc, rof_at ha, farI_n h1, nI_add]
      have wr : ∀ (kk2 : Int32 → Mem → Option Mem) (y : Nat), y ≠ 100000 → f_Model_measure_j151 (nI ab) (ms N 12 0 0 (rof n d X)) kk2 (nI y) = kk2 (nI (ab + 1)) (ms N 12 0 0 (rof n (fun v => if v = ab % 6 then y else d v) X)) := by
        intro kk2 y hy
        unfold f_Model_measure_j151
        rw [e2, ix_nI (show ab % 6 < 6 by omega) (by decide), nI_1]
        show kk2 (nI (ab + 1)) (mset (ms N 12 0 0 (rof n d X)) 12 0 0 (ab % 6) (nI y)) = _
        rw [ms_mset, ← farI_n hy, rof_upd hb]
      have rxe : rx1 g d (ab / 6, ab % 6) = fun v => if v = ab % 6 then min (d (ab % 6)) (d (ab / 6) + g (ab / 6) (ab % 6)) else d v := by
        funext v
        unfold rx1
        by_cases hv : v = ab % 6
        · rw [if_pos ⟨hv, h0⟩, if_pos hv, hv]
        · rw [if_neg (fun z => hv z.1), if_neg hv]
      unfold f_Model_measure_j104
      rw [if_neg (nI_pos (by omega)), e2, ix_nI (show ab % 6 < 6 by omega) (by decide), rxe]
      show (if (ms N 12 0 0 (rof n d X)) 12 0 0 (ab % 6) < 0 then _ else _) = _
      rw [ms_same, rof_at hb]
      by_cases h2 : d (ab % 6) = 100000
      · rw [if_pos ((farI_lt (by omega)).mpr h2), wr _ _ (by omega)]
        congr 3
        funext v
        rw [show min (d (ab % 6)) (d (ab / 6) + g (ab / 6) (ab % 6)) = d (ab / 6) + g (ab / 6) (ab % 6) by omega]
      · rw [if_neg (fun z => h2 ((farI_lt (by omega)).mp z))]
        show (if (ms N 12 0 0 (rof n d X)) 12 0 0 (ab % 6) ≤ nI (d (ab / 6) + g (ab / 6) (ab % 6)) then f_Model_measure_j151 (nI ab) (ms N 12 0 0 (rof n d X)) _ ((ms N 12 0 0 (rof n d X)) 12 0 0 (ab % 6)) else _) = _
        rw [ms_same, rof_at hb, farI_n h2]
        by_cases h3 : d (ab % 6) ≤ d (ab / 6) + g (ab / 6) (ab % 6)
        · rw [if_pos (nI_le h3 (by omega)), wr _ _ h2, Nat.min_eq_left h3]
        · rw [if_neg (nI_ge (by omega) (by omega)), wr _ _ (by omega), Nat.min_eq_right (by omega)]
theorem mw_in {kk : Int32 → Mem → Option Mem} {v2 : Int32} (hn : n ≤ 6) (hg : cstR n g (N 1 0 0)) : ∀ (c ab k L : Nat) (d : Nat → Nat), ab + c = 36 → c < k → fin d L → L + 15 * c < 99000 →
    f_Model_measure_49 v2 kk k (nI ab) (ms N 12 0 0 (rof n d X)) = kk (v2 + 1) (ms N 12 0 0 (rof n (rx g d (edr ab c)) X)) := by
  intro c
  induction c with
  | zero =>
    intro ab k L d h1 h2 h3 h4
    obtain ⟨k, rfl⟩ : ∃ k', k = k' + 1 := ⟨k - 1, by omega⟩
    rw [f_Model_measure_49, if_pos (show (36 : Int32) ≤ nI ab from nI_le (a := 36) (by omega) (by omega))]
    rfl
  | succ c ih =>
    intro ab k L d h1 h2 h3 h4
    obtain ⟨k, rfl⟩ : ∃ k', k = k' + 1 := ⟨k - 1, by omega⟩
    rw [mw_step hn hg (by omega) h3 (by omega), edr_s]
    exact ih (ab + 1) k (L + 15) (rx1 g d (ab / 6, ab % 6)) (by omega) (by omega) (fin_rx1 h3 hg.2.1 (by omega)) (by omega)
theorem mw_rounds (hn : 2 ≤ n ∧ n ≤ 6) (hg : cstR n g (N 1 0 0)) (hN : N 0 0 0 1 = nI n) {d : Nat → Nat} (hd : fin d 0) : ∀ (c j k : Nat), j + c = n - 1 → c < k →
    f_Model_measure_39 k (nI (j + 1)) (ms N 12 0 0 (rof n (rxs g (edr 0 36) d j) X)) = some (ms N 12 0 0 (rof n (rxs g (edr 0 36) d (n - 1)) X)) := by
  have F : ∀ j, j ≤ 6 → fin (rxs g (edr 0 36) d j) (540 * j) := by
    intro j
    induction j with
    | zero => intro _; exact hd
    | succ j ih =>
      intro hj
      have := fin_rx hg.2.1 (edr 0 36) (rxs g (edr 0 36) d j) (540 * j) (ih (by omega)) (by rw [edr_len]; omega)
      rw [edr_len] at this
      rw [show 540 * (j + 1) = 540 * j + 15 * 36 by omega]
      exact this
  have t0 : ∀ f, (ms N 12 0 0 f) 0 0 0 1 = nI n := fun f => by rw [ms_t (by decide)]; exact hN
  intro c
  induction c with
  | zero =>
    intro j k h1 h2
    obtain ⟨k, rfl⟩ : ∃ k', k = k' + 1 := ⟨k - 1, by omega⟩
    rw [f_Model_measure_39, t0, if_pos (nI_le (by omega) (by omega)), show j = n - 1 by omega]
  | succ c ih =>
    intro j k h1 h2
    obtain ⟨k, rfl⟩ : ∃ k', k = k' + 1 := ⟨k - 1, by omega⟩
    rw [f_Model_measure_39, t0, if_neg (nI_ge (by omega) (by omega)), show (0 : Int32) = nI 0 from rfl, mw_in hn.2 hg 36 0 1000 (540 * j) _ (by omega) (by omega) (F j (by omega)) (by omega), nI_1]
    exact ih (j + 1) k (by omega) (by omega)
theorem rof_s {r : Nat} {d : Nat → Nat} : upd (rof r d X) r (farI (d r)) = rof (r + 1) d X := by
  funext v
  by_cases hv : v = r
  · subst hv
    rw [upd_same, rof_at (Nat.lt_succ_self _)]
  · rw [upd_ne hv]
    unfold rof
    by_cases h : v < r
    · rw [if_pos h, if_pos (by omega)]
    · rw [if_neg h, if_neg (by omega)]
theorem mw_begin {q o : Nat} (hn : 2 ≤ n ∧ n ≤ 6) (hq : q < 4) (ho : o = 99 ∨ o < n) (hN : N 0 0 0 1 = nI n) (hO : N 2 0 0 q = ownI o) : ∀ (c r k : Nat), r + c = n → c < k →
    f_Model_measure_2 (nI q) k (nI r) (ms N 12 0 0 (rof r (dz o 100000) X)) = f_Model_measure_39 1000 1 (ms N 12 0 0 (rof n (dz o 100000) X)) := by
  have t0 : ∀ f, (ms N 12 0 0 f) 0 0 0 1 = nI n := fun f => by rw [ms_t (by decide)]; exact hN
  have t2 : ∀ f, (ms N 12 0 0 f) 2 0 0 q = ownI o := fun f => by rw [ms_t (by decide)]; exact hO
  intro c
  induction c with
  | zero =>
    intro r k h1 h2
    obtain ⟨k, rfl⟩ : ∃ k', k = k' + 1 := ⟨k - 1, by omega⟩
    rw [f_Model_measure_2, t0, if_pos (nI_le (by omega) (by omega)), show r = n by omega]
  | succ c ih =>
    intro r k h1 h2
    obtain ⟨k, rfl⟩ : ∃ k', k = k' + 1 := ⟨k - 1, by omega⟩
    rw [f_Model_measure_2, t0, if_neg (nI_ge (by omega) (by omega)), ix_nI hq (by decide)]
    show (if (ms N 12 0 0 (rof r (dz o 100000) X)) 2 0 0 q = nI r then _ else _) = _
    rw [t2]
    have wr : ∀ (kk2 : Int32 → Mem → Option Mem) (x : Int32), x = farI (dz o 100000 r) → f_Model_measure_j30 (nI r) (ms N 12 0 0 (rof r (dz o 100000) X)) kk2 x = kk2 (nI (r + 1)) (ms N 12 0 0 (rof (r + 1) (dz o 100000) X)) := by
      intro kk2 x hx
      subst hx
      unfold f_Model_measure_j30
      rw [ix_nI (show r < 6 by omega) (by decide), nI_1]
      show kk2 (nI (r + 1)) (mset (ms N 12 0 0 (rof r (dz o 100000) X)) 12 0 0 r (farI (dz o 100000 r))) = _
      rw [ms_mset, rof_s]
    by_cases hr : r = o
    · subst hr
      rw [if_pos (ownI_r (by omega)), wr _ 0 (by unfold dz; rw [if_pos rfl]; rfl)]
      exact ih (r + 1) k (by omega) (by omega)
    · have hne : ownI o ≠ nI r := by
        rcases ho with rfl | ho
        · rw [ownI_99]; exact fun e => absurd (e ▸ nI_pos (n := r) (by omega)) (by decide)
        · rw [ownI_r (by omega)]; exact fun e => hr ((nI_eq (by omega) (by omega)).mp e).symm
      rw [if_neg hne, wr _ (-1) (by unfold dz; rw [if_neg hr]; rfl)]
      exact ih (r + 1) k (by omega) (by omega)
/-- .. and what it comes to -/
theorem mw_measure {q o : Nat} (hn : 2 ≤ n ∧ n ≤ 6) (hq : q < 4) (hg : cstR n g (N 1 0 0)) (ho : o = 99 ∨ o < n) (hN : N 0 0 0 1 = nI n) (hO : N 2 0 0 q = ownI o) :
    ∃ F, f_Model_measure (nI q) N = some (ms N 12 0 0 F) ∧ ∀ v, v < n → F v = if dist n g o v = 1000 then -1 else nI (dist n g o v) := by
  refine ⟨rof n (rxs g (edr 0 36) (dz o 100000) (n - 1)) (N 12 0 0), ?_, fun v hv => ?_⟩
  · unfold f_Model_measure
    have h := mw_begin (X := N 12 0 0) hn hq ho hN hO n 0 1000 (by omega) (by omega)
    have e : rof 0 (dz o 100000) (N 12 0 0) = N 12 0 0 := by
      funext v
      exact if_neg (Nat.not_lt_zero v)
    rw [e, ms_self] at h
    refine h.trans ?_
    exact mw_rounds hn hg hN (d := dz o 100000) (fun v => by unfold dz; split; exact Or.inr (Nat.le_refl _); exact Or.inl rfl) (n - 1) 0 1000 (by omega) (by omega)
  · rw [rof_at hv, rxs_end (n := n) (edr 0 36) (dz o 100000) (fun z _ h => hg.2.2.1 _ _ h) (fun u v hu hv _ => edr_mem (by omega) (by omega)) hv]
    rcases ho with rfl | ho
    · rw [dk_noneR (B := 100000) (fun v hv => by unfold dz; rw [if_neg (by omega)]) (n - 1) v hv, dist_99]
      rfl
    · rw [dist_r (by omega)]
      rcases dk_far (n := n) (o := o) (B := 1000) (B' := 100000) hg.2.1 (n - 1) v (by omega) (by omega) with ⟨h1, h2⟩ | ⟨h1, h2⟩
      · rw [h1, h2]; rfl
      · rw [← h1, if_neg (by omega), farI_n (by omega)]
end MW
