/-! distances: the class's and the reference's are the same least ways -/
/-- who owns a prefix: a router, or 99 for none -/
def ownI (o : Nat) : Int32 := if o = 99 then -1 else nI o
def dist (n : Nat) (g : Nat → Nat → Nat) (o : Nat) : Nat → Nat := if o = 99 then fun _ => 1000 else dk n g (dz o 1000) (n - 1)
theorem dist_99 {n : Nat} {g : Nat → Nat → Nat} : dist n g 99 = fun _ => 1000 := rfl
theorem dist_r {n o : Nat} {g : Nat → Nat → Nat} (h : o ≠ 99) : dist n g o = dk n g (dz o 1000) (n - 1) := if_neg h
section CM
variable {n q o : Nat} {M : Mem} {g : Nat → Nat → Nat}
theorem ownI_99 : ownI 99 = -1 := rfl
theorem ownI_r (h : o ≠ 99) : ownI o = nI o := if_neg h
theorem cl_measure (hn : 2 ≤ n ∧ n ≤ 6) (hq : q < 4) (hg : ∀ r u, r < n → u < n → M 16 r 0 u = nI (g u r)) (h15 : ∀ u v, g u v ≤ 15) (ho : o = 99 ∨ o < n) (hM : M 3 0 0 q = ownI o) :
    f_Ways_measure n (nI q) M = some (ms M 12 q 0 (row n (dist n g o) (M 12 q 0))) := by
  unfold f_Ways_measure f_Arr_fillD
  rw [ix_nI hq (by decide)]
  have e0 : f_Arr_fillD_5 n q 1000 1000 0 M = some (ms M 12 q 0 (row n (fun _ => 1000) (M 12 q 0))) := by
    have h := cl_fill (n := n) (q := q) (M := M) (F := M 12 q 0) (B := 1000) hn.2 n 0 1000 (by omega) (by omega)
    rw [ms_self] at h
    refine h.trans ?_
    congr 2
    funext j
    unfold row
    by_cases hj : j < n
    · rw [if_pos ⟨Nat.zero_le _, hj⟩, if_pos hj]
    · rw [if_neg (fun z => hj z.2), if_neg hj]
  show (f_Arr_fillD_5 n q 1000 1000 0 M).bind _ = _
  rw [e0]
  show (if (ms M 12 q 0 (row n (fun _ => 1000) (M 12 q 0)) 3 0 0 q) = -1 then _ else _) = _
  rw [ms_t (by decide), hM]
  rcases ho with rfl | ho
  · rw [if_pos ownI_99, dist_99]
  · rw [ownI_r (by omega), if_neg (fun e => absurd (e ▸ nI_pos (n := o) (by omega)) (by decide))]
    show (ix (M 3 0 0 q) n).bind _ = _
    rw [hM, ownI_r (by omega), ix_nI ho (by omega)]
    show f_Ways_measure_36 n q 1000 1 (mset (ms M 12 q 0 (row n (fun _ => 1000) (M 12 q 0))) 12 q 0 o 0) = _
    rw [ms_mset, show (0 : Int32) = nI 0 from rfl, row_upd ho]
    have h := cl_rounds (q := q) (M := M) (X := M 12 q 0) hn hg h15 (d := dz o 1000) (fun v => by unfold dz; split <;> omega) (n - 1) 0 1000 (by omega) (by omega)
    refine h.trans ?_
    congr 2
    funext v
    unfold row
    split
    · rename_i hv
      rw [rxs_end (n := n) (eds n 0 n) (dz o 1000) (fun z hz _ => by have := (eds_mem n 0).mp hz; omega) (fun u v hu hv _ => (eds_mem n 0).mpr (by omega)) hv]
      rw [dist_r (by omega)]
    · rfl
theorem dist_cases (h15 : ∀ u v, g u v ≤ 15) (hn : 2 ≤ n ∧ n ≤ 6) (v : Nat) : dist n g o v = 1000 ∨ dist n g o v ≤ 75 := by
  unfold dist
  split
  · exact Or.inl rfl
  · rcases dk_far (n := n) (o := o) (B := 1000) (B' := 1000) h15 (n - 1) v (by omega) (by omega) with h | h
    · exact Or.inl h.1
    · exact Or.inr (by omega)
/-! the reference's distances: a number below 0 stands for no way -/
def farI (d : Nat) : Int32 := if d = 100000 then -1 else nI d
theorem farI_lt {d : Nat} (h : d ≤ 100000) : farI d < 0 ↔ d = 100000 := by
  unfold farI
  by_cases e : d = 100000
  · rw [if_pos e]; exact ⟨fun _ => e, fun _ => by decide⟩
  · rw [if_neg e]; exact ⟨fun h => absurd h (nI_pos (by omega)), fun h => absurd h e⟩
theorem farI_n {d : Nat} (h : d ≠ 100000) : farI d = nI d := if_neg h
/-- a row of n such numbers -/
def rof (n : Nat) (d : Nat → Nat) (X : Nat → Int32) : Nat → Int32 := fun v => if v < n then farI (d v) else X v
theorem rof_at {v : Nat} {d : Nat → Nat} {X : Nat → Int32} (h : v < n) : rof n d X v = farI (d v) := if_pos h
theorem rof_upd {r y : Nat} {d : Nat → Nat} {X : Nat → Int32} (h : r < n) : upd (rof n d X) r (farI y) = rof n (fun v => if v = r then y else d v) X := by
  funext v
  by_cases hv : v = r
  · subst hv
    rw [upd_same, rof_at h, if_pos rfl]
  · rw [upd_ne hv]
    unfold rof
    split
    · exact congrArg farI (if_neg hv).symm
    · rfl
end CM
