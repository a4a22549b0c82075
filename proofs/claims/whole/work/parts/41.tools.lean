/-! tools: numbers, rows of the memory; the class's distances are the least ways -/
theorem nI_mul (a b : Nat) : nI a * nI b = nI (a * b) := (Int32.ofNat_mul a b).symm
theorem nI_sub {a b : Nat} (h : b ≤ a) : nI a - nI b = nI (a - b) := by
  have e : nI a = nI (a - b) + nI b := by rw [nI_add]; congr 1; omega
  rw [e, Int32.add_sub_cancel]
theorem ms_t {M : Mem} {t a b t' : Nat} {f : Nat → Int32} (h : t' ≠ t) : ms M t a b f t' = M t' := by
  funext a' b'
  exact ms_other (fun q => h q.1)
theorem mset_t {M : Mem} {t a b j t' : Nat} {x : Int32} (h : t' ≠ t) : mset M t a b j x t' = M t' := ms_t h
theorem mset_row {M : Mem} {t a b j : Nat} {x : Int32} : mset M t a b j x t a b = upd (M t a b) j x := ms_same
theorem ms_ab {M : Mem} {t a b a' b' : Nat} {f : Nat → Int32} (h : ¬ (a' = a ∧ b' = b)) : ms M t a b f t a' b' = M t a' b' := ms_other (fun q => h q.2)
theorem mset_ab {M : Mem} {t a b j a' b' : Nat} {x : Int32} (h : ¬ (a' = a ∧ b' = b)) : mset M t a b j x t a' b' = M t a' b' := ms_ab h
theorem ms_ms {M : Mem} {t a b : Nat} {f f' : Nat → Int32} : ms (ms M t a b f) t a b f' = ms M t a b f' := by
  funext t' a' b'
  unfold ms
  split <;> rfl
theorem ms_mset {M : Mem} {t a b j : Nat} {f : Nat → Int32} {x : Int32} : mset (ms M t a b f) t a b j x = ms M t a b (upd f j x) := by
  unfold mset
  rw [ms_ms, ms_same]
theorem ms_self (M : Mem) (t a b : Nat) : ms M t a b (M t a b) = M := by
  funext t' a' b'
  by_cases h : t' = t ∧ a' = a ∧ b' = b
  · obtain ⟨rfl, rfl, rfl⟩ := h
    exact ms_same
  · exact ms_other h
theorem upd_same {f : Nat → Int32} {j : Nat} {x : Int32} : upd f j x j = x := if_pos rfl
theorem upd_ne {f : Nat → Int32} {j k : Nat} {x : Int32} (h : k ≠ j) : upd f j x k = f k := if_neg h
/-- a row of n numbers -/
def row (n : Nat) (d : Nat → Nat) (X : Nat → Int32) : Nat → Int32 := fun v => if v < n then nI (d v) else X v
theorem row_at {n v : Nat} {d : Nat → Nat} {X : Nat → Int32} (h : v < n) : row n d X v = nI (d v) := if_pos h
theorem row_upd {n r y : Nat} {d : Nat → Nat} {X : Nat → Int32} (h : r < n) : upd (row n d X) r (nI y) = row n (fun v => if v = r then y else d v) X := by
  funext v
  by_cases hv : v = r
  · subst hv
    rw [upd_same, row_at h, if_pos rfl]
  · rw [upd_ne hv]
    unfold row
    split
    · exact congrArg nI (if_neg hv).symm
    · rfl
/-- all links that end at r, from i on -/
def ed (r i c : Nat) : List (Nat × Nat) := (List.range' i c).map (fun u => (u, r))
theorem ed_s (r i c : Nat) : ed r i (c + 1) = (i, r) :: ed r (i + 1) c := rfl
theorem ed_mem {r i c : Nat} {q : Nat × Nat} : q ∈ ed r i c ↔ q.2 = r ∧ i ≤ q.1 ∧ q.1 < i + c := by
  unfold ed
  rw [List.mem_map]
  constructor
  · rintro ⟨u, hu, rfl⟩
    have := List.mem_range'_1.mp hu
    exact ⟨rfl, this⟩
  · rintro ⟨h1, h2⟩
    exact ⟨q.1, List.mem_range'_1.mpr h2, by rw [← h1]⟩
def eds (n : Nat) (r : Nat) : Nat → List (Nat × Nat)
  | 0 => []
  | c + 1 => ed r 0 n ++ eds n (r + 1) c
theorem eds_mem {n : Nat} {q : Nat × Nat} : ∀ c r, q ∈ eds n r c ↔ q.1 < n ∧ r ≤ q.2 ∧ q.2 < r + c
  | 0, r => by
    constructor
    · intro h; cases h
    · intro h; omega
  | c + 1, r => by
    show q ∈ ed r 0 n ++ eds n (r + 1) c ↔ _
    rw [List.mem_append, ed_mem, eds_mem c (r + 1)]
    omega
theorem rx_app {g : Nat → Nat → Nat} {d : Nat → Nat} {E F : List (Nat × Nat)} : rx g d (E ++ F) = rx g (rx g d E) F := List.foldl_append
section CW
variable {n q : Nat} {M : Mem} {g : Nat → Nat → Nat} {X : Nat → Int32}
theorem cl_lk {r i : Nat} {N : Mem} (hr : r < n) (hi : i < n) (hn : n ≤ 6) (hg : N 16 r 0 i = nI (g i r)) (h15 : g i r ≤ 15) : f_Ways_areLinked n (nI r) (nI i) N = some (if g i r = 0 then 0 else 1) := by
  unfold f_Ways_areLinked
  rw [ix_nI hr (by omega), ix_nI hi (by omega)]
  show (if N 16 r 0 i = 0 then some 0 else some 1) = _
  rw [hg]
  by_cases h : g i r = 0
  · rw [h, if_pos (show nI 0 = 0 from rfl), if_pos rfl]
  · rw [if_neg (nI_ne0 (by omega) (by omega)), if_neg h]
theorem cl_in {r : Nat} {kk : Int32 → Mem → Option Mem} (hr : r < n) (hn : n ≤ 6) (hg : ∀ u, u < n → M 16 r 0 u = nI (g u r)) (h15 : ∀ u v, g u v ≤ 15) : ∀ (c i k : Nat) (d : Nat → Nat), i + c = n → c < k → (∀ v, d v ≤ 1000) →
    f_Ways_lengthenWays_12 n q (nI r) kk k (nI i) (ms M 12 q 0 (row n d X)) = kk (nI r + 1) (ms M 12 q 0 (row n (rx g d (ed r i c)) X)) := by
  intro c
  induction c with
  | zero =>
    intro i k d h1 h2 h3
    obtain ⟨k, rfl⟩ : ∃ k', k = k' + 1 := ⟨k - 1, by omega⟩
    rw [f_Ways_lengthenWays_12, if_pos (nI_le (by omega) (by omega))]
    rfl
  | succ c ih =>
    intro i k d h1 h2 h3
    obtain ⟨k, rfl⟩ : ∃ k', k = k' + 1 := ⟨k - 1, by omega⟩
    have hi : i < n := by omega
    have e16 : (ms M 12 q 0 (row n d X)) 16 = M 16 := ms_t (by decide)
    rw [f_Ways_lengthenWays_12, if_neg (nI_ge hi (by omega)), cl_lk hr hi hn (by rw [e16]; exact hg i hi) (h15 i r), nI_1, ed_s]
    show (if (if g i r = 0 then (0 : Int32) else 1) = 0 then _ else _) = _
    by_cases h : g i r = 0
    · rw [if_pos h, if_pos rfl, ih (i + 1) k d (by omega) (by omega) h3]
      have e : rx1 g d (i, r) = d := by
        funext v
        unfold rx1
        rw [if_neg (fun z => z.2 h)]
      show _ = kk _ (ms M 12 q 0 (row n (rx g (rx1 g d (i, r)) (ed r (i + 1) c)) X))
      rw [e]
    · rw [if_neg h, if_neg (by decide), ix_nI hr (by omega), ix_nI hi (by omega)]
      show f_Ways_lengthenWays_12 n q (nI r) kk k (nI (i + 1)) (mset (ms M 12 q 0 (row n d X)) 12 q 0 r (if (ms M 12 q 0 (row n d X) 12 q 0 i + ms M 12 q 0 (row n d X) 16 r 0 i) < ms M 12 q 0 (row n d X) 12 q 0 r then (ms M 12 q 0 (row n d X) 12 q 0 i + ms M 12 q 0 (row n d X) 16 r 0 i) else ms M 12 q 0 (row n d X) 12 q 0 r)) = _
      rw [e16, ms_same, row_at hi, row_at hr, hg i hi, nI_add]
      have b1 := h3 i
      have b2 := h3 r
      have b3 := h15 i r
      have e2 : (if nI (d i + g i r) < nI (d r) then nI (d i + g i r) else nI (d r)) = nI (min (d r) (d i + g i r)) := by
        by_cases h9 : d i + g i r < d r
        · rw [if_pos (nI_lt h9 (by omega)), Nat.min_eq_right (by omega)]
        · rw [if_neg (nI_nlt (by omega) (by omega)), Nat.min_eq_left (by omega)]
      rw [e2, ms_mset, row_upd hr]
      have e3 : (fun v => if v = r then min (d r) (d i + g i r) else d v) = rx1 g d (i, r) := by
        funext v
        unfold rx1
        by_cases hv : v = r
        · subst hv
          rw [if_pos rfl, if_pos ⟨rfl, h⟩]
        · rw [if_neg hv, if_neg (fun z => hv z.1)]
      rw [e3, ih (i + 1) k (rx1 g d (i, r)) (by omega) (by omega) (fun v => Nat.le_trans (rx1_le d _ v) (h3 v))]
      rfl
theorem cl_out (hn : n ≤ 6) (hg : ∀ r u, r < n → u < n → M 16 r 0 u = nI (g u r)) (h15 : ∀ u v, g u v ≤ 15) : ∀ (c r k : Nat) (d : Nat → Nat), r + c = n → c < k → (∀ v, d v ≤ 1000) →
    f_Ways_lengthenWays_2 n q k (nI r) (ms M 12 q 0 (row n d X)) = some (ms M 12 q 0 (row n (rx g d (eds n r c)) X)) := by
  intro c
  induction c with
  | zero =>
    intro r k d h1 h2 h3
    obtain ⟨k, rfl⟩ : ∃ k', k = k' + 1 := ⟨k - 1, by omega⟩
    rw [f_Ways_lengthenWays_2, if_pos (nI_le (by omega) (by omega))]
    rfl
  | succ c ih =>
    intro r k d h1 h2 h3
    obtain ⟨k, rfl⟩ : ∃ k', k = k' + 1 := ⟨k - 1, by omega⟩
    have hr : r < n := by omega
    rw [f_Ways_lengthenWays_2, if_neg (nI_ge hr (by omega)), show (0 : Int32) = nI 0 from rfl, cl_in hr hn (fun u hu => hg r u hr hu) h15 n 0 1000 d (by omega) (by omega) h3, nI_1]
    show f_Ways_lengthenWays_2 n q k (nI (r + 1)) _ = some (ms M 12 q 0 (row n (rx g d (ed r 0 n ++ eds n (r + 1) c)) X))
    rw [rx_app]
    exact ih (r + 1) k _ (by omega) (by omega) (fun v => Nat.le_trans (rx_le _ d v) (h3 v))
theorem rxs_le {E : List (Nat × Nat)} {d : Nat → Nat} : ∀ k v, rxs g E d k v ≤ d v
  | 0, _ => Nat.le_refl _
  | k + 1, v => Nat.le_trans (rx_le E _ v) (rxs_le k v)
theorem cl_rounds (hn : 2 ≤ n ∧ n ≤ 6) (hg : ∀ r u, r < n → u < n → M 16 r 0 u = nI (g u r)) (h15 : ∀ u v, g u v ≤ 15) {d : Nat → Nat} (hd : ∀ v, d v ≤ 1000) : ∀ (c j k : Nat), j + c = n - 1 → c < k →
    f_Ways_measure_36 n q k (nI (j + 1)) (ms M 12 q 0 (row n (rxs g (eds n 0 n) d j) X)) = some (ms M 12 q 0 (row n (rxs g (eds n 0 n) d (n - 1)) X)) := by
  intro c
  induction c with
  | zero =>
    intro j k h1 h2
    obtain ⟨k, rfl⟩ : ∃ k', k = k' + 1 := ⟨k - 1, by omega⟩
    rw [f_Ways_measure_36, if_pos (nI_le (by omega) (by omega)), show j = n - 1 by omega]
  | succ c ih =>
    intro j k h1 h2
    obtain ⟨k, rfl⟩ : ∃ k', k = k' + 1 := ⟨k - 1, by omega⟩
    rw [f_Ways_measure_36, if_neg (nI_ge (by omega) (by omega))]
    unfold f_Ways_lengthenWays
    rw [show (0 : Int32) = nI 0 from rfl, cl_out hn.2 hg h15 n 0 1000 _ (by omega) (by omega) (fun v => Nat.le_trans (rxs_le j v) (hd v)), nI_1]
    exact ih (j + 1) k (by omega) (by omega)
theorem cl_fill {F : Nat → Int32} {B : Nat} (hn : n ≤ 6) : ∀ (c i k : Nat), i + c = n → c < k → f_Arr_fillD_5 n q (nI B) k (nI i) (ms M 12 q 0 F) = some (ms M 12 q 0 (fun j => if i ≤ j ∧ j < n then nI B else F j)) := by
  intro c
  induction c generalizing F with
  | zero =>
    intro i k h1 h2
    obtain ⟨k, rfl⟩ : ∃ k', k = k' + 1 := ⟨k - 1, by omega⟩
    rw [f_Arr_fillD_5, if_pos (nI_le (by omega) (by omega))]
    congr 2
    funext j
    rw [if_neg (by omega)]
  | succ c ih =>
    intro i k h1 h2
    obtain ⟨k, rfl⟩ : ∃ k', k = k' + 1 := ⟨k - 1, by omega⟩
    rw [f_Arr_fillD_5, if_neg (nI_ge (by omega) (by omega)), ix_nI (show i < n by omega) (by omega)]
    show f_Arr_fillD_5 n q (nI B) k (nI i + 1) (mset (ms M 12 q 0 F) 12 q 0 i (nI B)) = _
    rw [ms_mset, nI_1, ih (i + 1) k (by omega) (by omega)]
    congr 2
    funext j
    by_cases hj : j = i
    · subst hj
      rw [if_neg (by omega), upd_same, if_pos (by omega)]
    · rw [upd_ne hj]
      by_cases h9 : i + 1 ≤ j ∧ j < n
      · rw [if_pos h9, if_pos (by omega)]
      · rw [if_neg h9, if_neg (by omega)]
end CW
