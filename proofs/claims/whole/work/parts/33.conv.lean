/-! the class's world out of what its constructor made: logical places against the order of making -/
def off1 (n r j : Nat) : Nat := match j with
  | 0 => 3 + r
  | 1 => 12 + n + 10 * r
  | 2 => 13 + n + 10 * r
  | 3 => 14 + n + 10 * r
  | 4 => 21 + n + 10 * r
  | j + 5 => 15 + n + 10 * r + j
def off0 (n k : Nat) : Nat := match k with
  | 0 => 0
  | 1 => 1
  | 2 => 2
  | 3 => 3 + n
  | 4 => 4 + n
  | 5 => 9 + n
  | 6 => 10 + n
  | 7 => 11 + n
  | 8 => 12 + 11 * n
  | 9 => 13 + 11 * n
  | 10 => 14 + 11 * n
  | 11 => 15 + 11 * n
  | k + 12 => 5 + n + k
def off (n k : Nat) : Nat := if k < 16 then off0 n k else off1 n ((k - 16) / 11) ((k - 16) % 11)
def ofi (n o : Nat) : Nat := if o < 3 then o else if o < 3 + n then 16 + 11 * (o - 3) else if o < 5 + n then o - n else if o < 9 + n then 12 + (o - 5 - n) else if o < 12 + n then o - 9 - n + 5 else if o < 12 + 11 * n then (if (o - 12 - n) % 10 < 3 then 16 + 11 * ((o - 12 - n) / 10) + (o - 12 - n) % 10 + 1 else if (o - 12 - n) % 10 = 9 then 16 + 11 * ((o - 12 - n) / 10) + 4 else 16 + 11 * ((o - 12 - n) / 10) + (o - 12 - n) % 10 + 2) else o - 12 - 11 * n + 8
theorem off_0 {n k : Nat} (h : k < 16) : off n k = off0 n k := by unfold off; rw [if_pos h]
theorem off_r {n r j : Nat} (hj : j < 11) : off n (16 + 11 * r + j) = off1 n r j := by
  unfold off
  rw [if_neg (by omega), show (16 + 11 * r + j - 16) / 11 = r by omega, show (16 + 11 * r + j - 16) % 11 = j by omega]
theorem ofi_a {n o : Nat} (h : o < 3) : ofi n o = o := by unfold ofi; rw [if_pos h]
theorem ofi_b {n r : Nat} (h : r < n) : ofi n (3 + r) = 16 + 11 * r := by unfold ofi; rw [if_neg (by omega), if_pos (by omega)]; omega
theorem ofi_c {n t : Nat} (h : t < 2) : ofi n (3 + t + n) = 3 + t := by unfold ofi; rw [if_neg (by omega), if_neg (by omega), if_pos (by omega)]; omega
theorem ofi_d {n t : Nat} (h : t < 4) : ofi n (5 + n + t) = 12 + t := by unfold ofi; rw [if_neg (by omega), if_neg (by omega), if_neg (by omega), if_pos (by omega)]; omega
theorem ofi_e {n t : Nat} (h : t < 3) : ofi n (9 + t + n) = 5 + t := by unfold ofi; rw [if_neg (by omega), if_neg (by omega), if_neg (by omega), if_neg (by omega), if_pos (by omega)]; omega
theorem ofi_f {n r t : Nat} (h : t < 10) (hr : r < n) : ofi n (12 + t + n + 10 * r) = if t < 3 then 16 + 11 * r + t + 1 else if t = 9 then 16 + 11 * r + 4 else 16 + 11 * r + t + 2 := by
  unfold ofi
  rw [if_neg (by omega), if_neg (by omega), if_neg (by omega), if_neg (by omega), if_neg (by omega), if_pos (by omega), show (12 + t + n + 10 * r - 12 - n) % 10 = t by omega, show (12 + t + n + 10 * r - 12 - n) / 10 = r by omega]
theorem ofi_g {n t : Nat} (hn : 2 ≤ n) : ofi n (12 + t + 11 * n) = 8 + t := by unfold ofi; rw [if_neg (by omega), if_neg (by omega), if_neg (by omega), if_neg (by omega), if_neg (by omega), if_neg (by omega)]; omega
theorem ofi_off {n k : Nat} (hn : 2 ≤ n) (hk : k < 16 + 11 * n) : ofi n (off n k) = k ∧ off n k < 16 + 11 * n := by
  by_cases h : k < 16
  · rw [off_0 h]
    rcases (show k = 0 ∨ k = 1 ∨ k = 2 ∨ k = 3 ∨ k = 4 ∨ k = 5 ∨ k = 6 ∨ k = 7 ∨ k = 8 ∨ k = 9 ∨ k = 10 ∨ k = 11 ∨ k = 12 ∨ k = 13 ∨ k = 14 ∨ k = 15 by omega) with rfl | rfl | rfl | rfl | rfl | rfl | rfl | rfl | rfl | rfl | rfl | rfl | rfl | rfl | rfl | rfl
    · exact ⟨ofi_a (o := 0) (by decide), by show 0 < _; omega⟩
    · exact ⟨ofi_a (o := 1) (by decide), by show 1 < _; omega⟩
    · exact ⟨ofi_a (o := 2) (by decide), by show 2 < _; omega⟩
    · exact ⟨ofi_c (t := 0) (by decide), by show 3 + n < _; omega⟩
    · exact ⟨ofi_c (t := 1) (by decide), by show 4 + n < _; omega⟩
    · exact ⟨ofi_e (t := 0) (by decide), by show 9 + n < _; omega⟩
    · exact ⟨ofi_e (t := 1) (by decide), by show 10 + n < _; omega⟩
    · exact ⟨ofi_e (t := 2) (by decide), by show 11 + n < _; omega⟩
    · exact ⟨ofi_g (t := 0) hn, by show 12 + 11 * n < _; omega⟩
    · exact ⟨ofi_g (t := 1) hn, by show 13 + 11 * n < _; omega⟩
    · exact ⟨ofi_g (t := 2) hn, by show 14 + 11 * n < _; omega⟩
    · exact ⟨ofi_g (t := 3) hn, by show 15 + 11 * n < _; omega⟩
    · exact ⟨ofi_d (t := 0) (by decide), by show 5 + n + 0 < _; omega⟩
    · exact ⟨ofi_d (t := 1) (by decide), by show 5 + n + 1 < _; omega⟩
    · exact ⟨ofi_d (t := 2) (by decide), by show 5 + n + 2 < _; omega⟩
    · exact ⟨ofi_d (t := 3) (by decide), by show 5 + n + 3 < _; omega⟩
  · obtain ⟨r, j, hj, rfl⟩ : ∃ r j, j < 11 ∧ k = 16 + 11 * r + j := ⟨(k - 16) / 11, (k - 16) % 11, by omega, by omega⟩
    have hr : r < n := by omega
    rw [off_r hj]
    have F : ∀ t, t < 10 → 12 + t + n + 10 * r < 16 + 11 * n := fun t ht => by omega
    have X : ∀ t, t < 6 → ofi n (15 + n + 10 * r + t) = 16 + 11 * r + (t + 5) ∧ 15 + n + 10 * r + t < 16 + 11 * n := fun t ht => by
      rw [show 15 + n + 10 * r + t = 12 + (3 + t) + n + 10 * r by omega, ofi_f (by omega) hr, if_neg (by omega), if_neg (by omega)]
      omega
    rcases (show j = 0 ∨ j = 1 ∨ j = 2 ∨ j = 3 ∨ j = 4 ∨ j = 5 ∨ j = 6 ∨ j = 7 ∨ j = 8 ∨ j = 9 ∨ j = 10 by omega) with rfl | rfl | rfl | rfl | rfl | rfl | rfl | rfl | rfl | rfl | rfl
    · exact ⟨ofi_b hr, by show 3 + r < _; omega⟩
    · exact ⟨ofi_f (t := 0) (by decide) hr, F 0 (by decide)⟩
    · exact ⟨ofi_f (t := 1) (by decide) hr, F 1 (by decide)⟩
    · exact ⟨ofi_f (t := 2) (by decide) hr, F 2 (by decide)⟩
    · exact ⟨ofi_f (t := 9) (by decide) hr, F 9 (by decide)⟩
    · exact X 0 (by decide)
    · exact X 1 (by decide)
    · exact X 2 (by decide)
    · exact X 3 (by decide)
    · exact X 4 (by decide)
    · exact X 5 (by decide)
def cad (h n k : Nat) : Nat := h + off n k
theorem cad_ok {h n : Nat} (hn : 2 ≤ n) : wl_ok (fun q => h ≤ q ∧ q < h + (16 + 11 * n)) (cK n) (cad h n) := by
  refine ⟨fun i j hi hj e => ?_, fun k hk => ⟨Nat.le_add_right _ _, Nat.add_lt_add_left (ofi_off hn hk).2 _⟩⟩
  have e1 : off n i = off n j := Nat.add_left_cancel e
  rw [← (ofi_off hn hi).1, e1, (ofi_off hn hj).1]
def M0 (n : Nat) : Mem := fun t _ _ k => if t = 3 ∨ t = 8 then (if k < 4 then -1 else 0) else if t = 12 then (if k < n then 1000 else 0) else 0
theorem arrV_ext {c : ClassId} {N : Nat} {f g : Nat → Value} (h : ∀ j, j < N → f j = g j) : arrV c N f = arrV c N g := by
  have e : (fun j : Fin N => f j.val) = fun j : Fin N => g j.val := funext fun j => h j.val j.isLt
  unfold arrV
  rw [e]
theorem at_rext {D : va_G} {cl : List vw_C} {a N : Nat} {c : ClassId} {f g : Nat → Option Nat} {H : Heap} (h : ∀ j, j < N → f j = g j) (hP : va_at D cl (a, .inl (c, N, .inr (.inr (.inr (.inr f))))) H) : va_at D cl (a, .inl (c, N, .inr (.inr (.inr (.inr g))))) H := by
  have e : arrV c N (fun j => va_rf (f j)) = arrV c N (fun j => va_rf (g j)) := arrV_ext fun j hj => by rw [h j hj]
  show H[a]? = some (arrV c N (fun j => va_rf (g j)))
  rw [← e]
  exact hP
theorem lr_cW {D : va_G} {G : Nat → ClassId} {h n : Nat} {E : Nat → va_E} {H : Heap} (hn : 2 ≤ n) (hS : lrS G h n E) (hP : va_P D cls (aw h (16 + 11 * n) E) H) : va_P D cls (cW n (cad h n) G (M0 n)) H := by
  have B : ∀ (o : Nat) (x : va_E), o < 16 + 11 * n → E o = x → va_at D cls (h + o, x) H := fun o x ho hx => hP o _ (wl_to ho hx)
  obtain ⟨a0, ⟨a1, a2, a3, a4, a5, a6⟩, ⟨a7, a8⟩, ⟨f, a9, a10⟩, a11, a12, a13, a14, a15⟩ := hS
  intro k q hk
  obtain ⟨hk9, rfl⟩ := wl_get hk
  have hk8 : k < 16 + 11 * n := hk9
  by_cases h16 : k < 16
  · rcases (show k = 0 ∨ k = 1 ∨ k = 2 ∨ k = 3 ∨ k = 4 ∨ k = 5 ∨ k = 6 ∨ k = 7 ∨ k = 8 ∨ k = 9 ∨ k = 10 ∨ k = 11 ∨ k = 12 ∨ k = 13 ∨ k = 14 ∨ k = 15 by omega) with rfl | rfl | rfl | rfl | rfl | rfl | rfl | rfl | rfl | rfl | rfl | rfl | rfl | rfl | rfl | rfl
    · exact B 0 _ (by omega) a0
    · exact B 1 _ (by omega) a1
    · refine at_rext (fun j hj => ?_) (B 2 _ (by omega) a2)
      rw [if_pos hj]
      show some (h + 3 + j) = some (h + off n (16 + 11 * j + 0))
      rw [off_r (by decide)]
      exact congrArg some (by show h + 3 + j = h + (3 + j); omega)
    · exact B (3 + n) _ (by omega) a4
    · refine at_rext (fun j hj => ?_) (B (4 + n) _ (by omega) a5)
      rw [if_pos hj]
      show some (h + (5 + n) + j) = some (h + off n (12 + j))
      rw [off_0 (by omega), Nat.add_comm 12 j]
      exact congrArg some (by show h + (5 + n) + j = h + (5 + n + j); omega)
    · exact B (9 + n) _ (by omega) a7
    · exact B (10 + n) _ (by omega) a8
    · refine at_rext (fun j hj => ?_) (B (11 + n) _ (by omega) a9)
      rw [a10 j hj]
      show some (h + (12 + n + 10 * j)) = some (h + off n (16 + 11 * j + 1))
      rw [off_r (by decide)]
      rfl
    · exact B (12 + 11 * n) _ (by omega) a12
    · exact B (13 + 11 * n) _ (by omega) a13
    · exact B (14 + 11 * n) _ (by omega) a14
    · exact B (15 + 11 * n) _ (by omega) a15
    · exact B (5 + n + 0) _ (by omega) (a6 0 (by decide))
    · exact B (5 + n + 1) _ (by omega) (a6 1 (by decide))
    · exact B (5 + n + 2) _ (by omega) (a6 2 (by decide))
    · exact B (5 + n + 3) _ (by omega) (a6 3 (by decide))
  · obtain ⟨r, j, hj, rfl⟩ : ∃ r j, j < 11 ∧ k = 16 + 11 * r + j := ⟨(k - 16) / 11, (k - 16) % 11, by omega, by omega⟩
    have hr : r < n := by omega
    obtain ⟨b1, b2, b3, b4, b5⟩ := a11 r hr
    obtain ⟨t1, t2, t3⟩ := ct_r (r := r) hj
    show va_at D cls (h + off n (16 + 11 * r + j), cR n (cad h n) G (16 + 11 * r + j) (M0 n (ctg (16 + 11 * r + j)) (cpa (16 + 11 * r + j)) (cpb (16 + 11 * r + j)))) H
    rw [t1, t2, t3, cR_r hj, off_r hj]
    rcases (show j = 0 ∨ j = 1 ∨ j = 2 ∨ j = 3 ∨ j = 4 ∨ j = 5 ∨ j = 6 ∨ j = 7 ∨ j = 8 ∨ j = 9 ∨ j = 10 by omega) with rfl | rfl | rfl | rfl | rfl | rfl | rfl | rfl | rfl | rfl | rfl
    · exact B (3 + r) _ (by omega) (a3 r hr)
    · refine B (12 + n + 10 * r) _ (by omega) ?_
      rw [b1]
      show _ = (Sum.inr (3, [Value.ref (h + off n (16 + 11 * r + 2)), .ref (h + off n (16 + 11 * r + 3)), .ref (h + off n (16 + 11 * r + 4))]) : va_E)
      rw [off_r (by decide), off_r (by decide), off_r (by decide)]
      rfl
    · exact B (13 + n + 10 * r) _ (by omega) b2
    · refine at_rext (fun i hi => ?_) (B (14 + n + 10 * r) _ (by omega) b3)
      rw [if_pos hi]
      show some (h + (15 + n + 10 * r) + i) = some (h + off n (16 + 11 * r + (i + 5)))
      rw [off_r (by omega)]
      exact congrArg some (by show h + (15 + n + 10 * r) + i = h + (15 + n + 10 * r + i); omega)
    · exact B (21 + n + 10 * r) _ (by omega) b5
    · exact B (15 + n + 10 * r + 0) _ (by omega) (b4 0 (by decide))
    · exact B (15 + n + 10 * r + 1) _ (by omega) (b4 1 (by decide))
    · exact B (15 + n + 10 * r + 2) _ (by omega) (b4 2 (by decide))
    · exact B (15 + n + 10 * r + 3) _ (by omega) (b4 3 (by decide))
    · exact B (15 + n + 10 * r + 4) _ (by omega) (b4 4 (by decide))
    · exact B (15 + n + 10 * r + 5) _ (by omega) (b4 5 (by decide))
