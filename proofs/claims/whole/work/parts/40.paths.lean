/-! least ways: rounds over all links, in any order, come to the same distances -/
def mnf (f : Nat → Nat) (i : Nat) : Nat → Nat
  | 0 => i
  | m + 1 => min (mnf f i m) (f m)
theorem mnf_i (f : Nat → Nat) (i : Nat) : ∀ m, mnf f i m ≤ i
  | 0 => Nat.le_refl _
  | m + 1 => Nat.le_trans (Nat.min_le_left _ _) (mnf_i f i m)
theorem mnf_f (f : Nat → Nat) (i : Nat) : ∀ m u, u < m → mnf f i m ≤ f u
  | 0, u, h => absurd h (Nat.not_lt_zero _)
  | m + 1, u, h => by
    rcases Nat.lt_or_ge u m with h1 | h1
    · exact Nat.le_trans (Nat.min_le_left _ _) (mnf_f f i m u h1)
    · have e : u = m := by omega
      subst e
      exact Nat.min_le_right _ _
theorem mnf_e (f : Nat → Nat) (i : Nat) : ∀ m, mnf f i m = i ∨ ∃ u, u < m ∧ mnf f i m = f u
  | 0 => Or.inl rfl
  | m + 1 => by
    show min (mnf f i m) (f m) = i ∨ ∃ u, u < m + 1 ∧ min (mnf f i m) (f m) = f u
    rcases Nat.le_total (mnf f i m) (f m) with h | h
    · rw [Nat.min_eq_left h]
      rcases mnf_e f i m with h1 | ⟨u, h1, h2⟩
      · exact Or.inl h1
      · exact Or.inr ⟨u, by omega, h2⟩
    · rw [Nat.min_eq_right h]
      exact Or.inr ⟨m, by omega, rfl⟩
def dk (n : Nat) (g : Nat → Nat → Nat) (d0 : Nat → Nat) : Nat → Nat → Nat
  | 0, v => d0 v
  | k + 1, v => mnf (fun u => if g u v = 0 then dk n g d0 k v else dk n g d0 k u + g u v) (dk n g d0 k v) n
section DK
variable {n : Nat} {g : Nat → Nat → Nat} {d0 : Nat → Nat}
theorem dk_down (k v : Nat) : dk n g d0 (k + 1) v ≤ dk n g d0 k v := mnf_i _ _ _
theorem dk_mono (v : Nat) : ∀ j k, j ≤ k → dk n g d0 k v ≤ dk n g d0 j v := by
  intro j k h
  induction k with
  | zero => rw [show j = 0 by omega]; exact Nat.le_refl _
  | succ k ih =>
    rcases Nat.lt_or_ge j (k + 1) with h1 | h1
    · exact Nat.le_trans (dk_down k v) (ih (by omega))
    · rw [show j = k + 1 by omega]; exact Nat.le_refl _
theorem dk_edge {k u v : Nat} (hu : u < n) (hg : g u v ≠ 0) : dk n g d0 (k + 1) v ≤ dk n g d0 k u + g u v := by
  have h := mnf_f (fun u => if g u v = 0 then dk n g d0 k v else dk n g d0 k u + g u v) (dk n g d0 k v) n u hu
  rw [if_neg hg] at h
  exact h
theorem dk_pick {k v : Nat} (h : dk n g d0 (k + 1) v < dk n g d0 k v) : ∃ u, u < n ∧ g u v ≠ 0 ∧ dk n g d0 (k + 1) v = dk n g d0 k u + g u v := by
  rcases mnf_e (fun u => if g u v = 0 then dk n g d0 k v else dk n g d0 k u + g u v) (dk n g d0 k v) n with h1 | ⟨u, hu, h1⟩
  · have h2 : dk n g d0 (k + 1) v = dk n g d0 k v := h1
    omega
  · have h2 : dk n g d0 (k + 1) v = if g u v = 0 then dk n g d0 k v else dk n g d0 k u + g u v := h1
    by_cases hg : g u v = 0
    · rw [if_pos hg] at h2; omega
    · rw [if_neg hg] at h2; exact ⟨u, hu, hg, h2⟩
theorem dk_chain : ∀ (k v : Nat), dk n g d0 (k + 1) v < dk n g d0 k v → ∃ l : List Nat, l.length = k + 1 ∧ l.Nodup ∧ (∀ x ∈ l, x < n) ∧ ∀ x ∈ l, ∃ j, j ≤ k ∧ dk n g d0 j x < dk n g d0 (k + 1) v := by
  intro k
  induction k with
  | zero =>
    intro v h
    obtain ⟨u, hu, hg, e⟩ := dk_pick h
    refine ⟨[u], rfl, by simp, by simpa using hu, fun x hx => ⟨0, Nat.le_refl _, ?_⟩⟩
    rw [List.mem_singleton.mp hx]
    omega
  | succ k ih =>
    intro v h
    obtain ⟨u, hu, hg, e⟩ := dk_pick h
    have h1 : dk n g d0 (k + 1) u < dk n g d0 k u := by
      rcases Nat.lt_or_ge (dk n g d0 (k + 1) u) (dk n g d0 k u) with h2 | h2
      · exact h2
      · have h3 := dk_edge (d0 := d0) (k := k) hu hg
        have h4 := dk_down (n := n) (g := g) (d0 := d0) k u
        omega
    obtain ⟨l, l1, l2, l3, l4⟩ := ih u h1
    refine ⟨u :: l, by simp [l1], List.nodup_cons.mpr ⟨fun hm => ?_, l2⟩, fun x hx => ?_, fun x hx => ?_⟩
    · obtain ⟨j, hj, hd⟩ := l4 u hm
      have := dk_mono (n := n) (g := g) (d0 := d0) u j (k + 1) (by omega)
      omega
    · rcases List.mem_cons.mp hx with rfl | hx
      · exact hu
      · exact l3 x hx
    · rcases List.mem_cons.mp hx with rfl | hx
      · exact ⟨k + 1, Nat.le_refl _, by omega⟩
      · obtain ⟨j, hj, hd⟩ := l4 x hx
        exact ⟨j, by omega, by omega⟩
theorem holes : ∀ (n : Nat) (l : List Nat), l.Nodup → (∀ x ∈ l, x < n) → l.length ≤ n := by
  intro n
  induction n with
  | zero =>
    intro l _ h
    cases l with
    | nil => exact Nat.le_refl _
    | cons a t => exact absurd (h a List.mem_cons_self) (Nat.not_lt_zero _)
  | succ n ih =>
    intro l hn h
    have h1 := ih (l.erase n) (hn.erase n) (fun x hx => by
      have h2 := (hn.mem_erase_iff).mp hx
      have h3 := h x h2.2
      have h4 := h2.1
      omega)
    have h5 : l.length ≤ (l.erase n).length + 1 := by
      by_cases hm : n ∈ l
      · rw [List.length_erase_of_mem hm]; omega
      · rw [List.erase_of_not_mem hm]; omega
    omega
theorem dk_still {v : Nat} (hv : v < n) : dk n g d0 n v = dk n g d0 (n - 1) v := by
  have hn : n = (n - 1) + 1 := by omega
  have h0 := dk_down (n := n) (g := g) (d0 := d0) (n - 1) v
  rcases Nat.lt_or_ge (dk n g d0 ((n - 1) + 1) v) (dk n g d0 (n - 1) v) with h | h
  · obtain ⟨l, l1, l2, l3, l4⟩ := dk_chain (n - 1) v h
    have hm : v ∉ l := fun hm => by
      obtain ⟨j, hj, hd⟩ := l4 v hm
      have := dk_mono (n := n) (g := g) (d0 := d0) v j ((n - 1) + 1) (by omega)
      omega
    have h9 := holes n (v :: l) (List.nodup_cons.mpr ⟨hm, l2⟩) (fun x hx => by
      rcases List.mem_cons.mp hx with rfl | hx
      · exact hv
      · exact l3 x hx)
    simp only [List.length_cons, l1] at h9
    omega
  · rw [← hn] at h0 h
    omega
theorem dk_tri {u v : Nat} (hu : u < n) (hv : v < n) (hg : g u v ≠ 0) : dk n g d0 (n - 1) v ≤ dk n g d0 (n - 1) u + g u v := by
  have h := dk_edge (d0 := d0) (k := n - 1) hu hg
  rw [show n - 1 + 1 = n by omega, dk_still hv] at h
  exact h
end DK
/-- one link is looked at -/
def rx1 (g : Nat → Nat → Nat) (d : Nat → Nat) (q : Nat × Nat) : Nat → Nat := fun v => if v = q.2 ∧ g q.1 q.2 ≠ 0 then min (d v) (d q.1 + g q.1 q.2) else d v
def rx (g : Nat → Nat → Nat) (d : Nat → Nat) (E : List (Nat × Nat)) : Nat → Nat := E.foldl (rx1 g) d
section RX
variable {n : Nat} {g : Nat → Nat → Nat}
theorem rx1_le (d : Nat → Nat) (q : Nat × Nat) (v : Nat) : rx1 g d q v ≤ d v := by
  unfold rx1
  split
  · exact Nat.min_le_left _ _
  · exact Nat.le_refl _
theorem rx_le : ∀ (E : List (Nat × Nat)) (d : Nat → Nat) (v : Nat), rx g d E v ≤ d v
  | [], _, _ => Nat.le_refl _
  | q :: E, d, v => Nat.le_trans (rx_le E (rx1 g d q) v) (rx1_le d q v)
theorem rx_edge : ∀ (E : List (Nat × Nat)) (d : Nat → Nat) (u v : Nat), (u, v) ∈ E → g u v ≠ 0 → rx g d E v ≤ d u + g u v
  | [], _, _, _, h, _ => by cases h
  | q :: E, d, u, v, h, hg => by
    rcases List.mem_cons.mp h with rfl | h
    · refine Nat.le_trans (rx_le E (rx1 g d (u, v)) v) ?_
      unfold rx1
      rw [if_pos ⟨rfl, hg⟩]
      exact Nat.min_le_right _ _
    · have h1 := rx_edge E (rx1 g d q) u v h hg
      have h2 := rx1_le (g := g) d q u
      exact Nat.le_trans h1 (by omega)
theorem rx_low (t : Nat → Nat) (ht : ∀ u v, u < n → v < n → g u v ≠ 0 → t v ≤ t u + g u v) : ∀ (E : List (Nat × Nat)) (d : Nat → Nat), (∀ q ∈ E, g q.1 q.2 ≠ 0 → q.1 < n ∧ q.2 < n) → (∀ v, v < n → t v ≤ d v) → ∀ v, v < n → t v ≤ rx g d E v
  | [], _, _, h => h
  | q :: E, d, hE, h => by
    refine rx_low t ht E (rx1 g d q) (fun z hz => hE z (List.mem_cons_of_mem _ hz)) (fun v hv => ?_)
    unfold rx1
    split
    · rename_i h1
      obtain ⟨h2, h3⟩ := h1
      obtain ⟨h4, h5⟩ := hE q List.mem_cons_self h3
      subst h2
      have h6 := ht q.1 q.2 h4 h5 h3
      have h7 := h q.1 h4
      have h8 := h q.2 hv
      exact Nat.le_min.mpr ⟨h8, by omega⟩
    · exact h v hv
/-- so many rounds over all links, whatever their order -/
def rxs (g : Nat → Nat → Nat) (E : List (Nat × Nat)) (d : Nat → Nat) : Nat → Nat → Nat
  | 0 => d
  | k + 1 => rx g (rxs g E d k) E
theorem rxs_dk (E : List (Nat × Nat)) (d0 : Nat → Nat) (hE : ∀ q ∈ E, g q.1 q.2 ≠ 0 → q.1 < n ∧ q.2 < n) (hall : ∀ u v, u < n → v < n → g u v ≠ 0 → (u, v) ∈ E) : ∀ k v, v < n → rxs g E d0 k v ≤ dk n g d0 k v
  | 0, _, _ => Nat.le_refl _
  | k + 1, v, hv => by
    have ih := rxs_dk E d0 hE hall k
    rcases Nat.lt_or_ge (dk n g d0 (k + 1) v) (dk n g d0 k v) with h | h
    · obtain ⟨u, hu, hg, e⟩ := dk_pick h
      have h1 := rx_edge E (rxs g E d0 k) u v (hall u v hu hv hg) hg
      have h2 := ih u hu
      show rx g (rxs g E d0 k) E v ≤ _
      omega
    · have h1 := rx_le (g := g) E (rxs g E d0 k) v
      have h2 := ih v hv
      show rx g (rxs g E d0 k) E v ≤ _
      omega
theorem rxs_low (E : List (Nat × Nat)) (d0 : Nat → Nat) (hE : ∀ q ∈ E, g q.1 q.2 ≠ 0 → q.1 < n ∧ q.2 < n) : ∀ k v, v < n → dk n g d0 (n - 1) v ≤ rxs g E d0 k v
  | 0, v, hv => dk_mono v 0 (n - 1) (Nat.zero_le _)
  | k + 1, v, hv => rx_low (dk n g d0 (n - 1)) (fun u v hu hv hg => dk_tri hu hv hg) E _ hE (rxs_low E d0 hE k) v hv
theorem rxs_end (E : List (Nat × Nat)) (d0 : Nat → Nat) (hE : ∀ q ∈ E, g q.1 q.2 ≠ 0 → q.1 < n ∧ q.2 < n) (hall : ∀ u v, u < n → v < n → g u v ≠ 0 → (u, v) ∈ E) {v : Nat} (hv : v < n) : rxs g E d0 (n - 1) v = dk n g d0 (n - 1) v :=
  Nat.le_antisymm (rxs_dk E d0 hE hall (n - 1) v hv) (rxs_low E d0 hE (n - 1) v hv)
end RX
/-- a way's sum, or no way: the number that stands for 'no way' doesn't matter, if it is large -/
def dz (o B : Nat) : Nat → Nat := fun v => if v = o then 0 else B
theorem mnf_far {B B' L : Nat} (hB : L < B) (hB' : L < B') {f f' : Nat → Nat} {i i' : Nat} (hi : (i = B ∧ i' = B') ∨ (i = i' ∧ i ≤ L)) (hf : ∀ u, (B ≤ f u ∧ B' ≤ f' u) ∨ (f u = f' u ∧ f u ≤ L)) : ∀ m, (mnf f i m = B ∧ mnf f' i' m = B') ∨ (mnf f i m = mnf f' i' m ∧ mnf f i m ≤ L)
  | 0 => hi
  | m + 1 => by
    have h1 := mnf_far hB hB' hi hf m
    have h2 := hf m
    show (min (mnf f i m) (f m) = B ∧ min (mnf f' i' m) (f' m) = B') ∨ (min (mnf f i m) (f m) = min (mnf f' i' m) (f' m) ∧ min (mnf f i m) (f m) ≤ L)
    omega
theorem dk_far {n o B B' : Nat} {g : Nat → Nat → Nat} (hg : ∀ u v, g u v ≤ 15) : ∀ k v, 15 * k < B → 15 * k < B' → (dk n g (dz o B) k v = B ∧ dk n g (dz o B') k v = B') ∨ (dk n g (dz o B) k v = dk n g (dz o B') k v ∧ dk n g (dz o B) k v ≤ 15 * k)
  | 0, v, _, _ => by
    show (dz o B v = B ∧ dz o B' v = B') ∨ (dz o B v = dz o B' v ∧ dz o B v ≤ 15 * 0)
    unfold dz
    split
    · exact Or.inr ⟨rfl, Nat.le_refl _⟩
    · exact Or.inl ⟨rfl, rfl⟩
  | k + 1, v, h, h' => by
    have ih := fun w => dk_far (n := n) (o := o) (B := B) (B' := B') hg k w (by omega) (by omega)
    refine mnf_far (L := 15 * (k + 1)) h h' ?_ (fun u => ?_) n
    · have h1 := ih v
      omega
    · have h1 := ih v
      have h2 := ih u
      have h3 := hg u v
      by_cases h4 : g u v = 0
      · rw [if_pos h4, if_pos h4]
        omega
      · rw [if_neg h4, if_neg h4]
        omega
theorem mnf_none {B : Nat} {f : Nat → Nat} (hf : ∀ u, B ≤ f u) : ∀ m, mnf f B m = B
  | 0 => rfl
  | m + 1 => by
    show min (mnf f B m) (f m) = B
    rw [mnf_none hf m]
    exact Nat.min_eq_left (hf m)
theorem dk_none {n B : Nat} {g : Nat → Nat → Nat} {d0 : Nat → Nat} (h0 : ∀ v, d0 v = B) : ∀ k v, dk n g d0 k v = B
  | 0, v => h0 v
  | k + 1, v => by
    have ih := dk_none (n := n) (g := g) h0 k
    show mnf (fun u => if g u v = 0 then dk n g d0 k v else dk n g d0 k u + g u v) (dk n g d0 k v) n = B
    rw [ih v]
    refine mnf_none (fun u => ?_) n
    split
    · exact Nat.le_refl _
    · rw [ih u]; exact Nat.le_add_right _ _
