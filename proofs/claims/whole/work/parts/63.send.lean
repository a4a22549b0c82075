/-! send -/
section SD
variable {cd : Int32} {n i d r l p s : Nat} {g : Nat → Nat → Nat} {ow : Nat → Nat} {lab : Nat → Nat → Nat} {tol : Nat → Nat → Nat → Nat} {aw : Nat → Nat → Nat} {M N : Mem}
/-- what a pass comes to, on both sides: an answer, or a step on -/
def POm (cd : Int32) (n i d p s : Nat) (g : Nat → Nat → Nat) (ow : Nat → Nat) (lab : Nat → Nat → Nat) (tol : Nat → Nat → Nat → Nat) (aw : Nat → Nat → Nat) (X Y : Option (Int32 × Mem)) : Prop :=
  (∃ v M' N', X = some (v, M') ∧ Y = some (v, N') ∧ v < 8 ∧ ¬ v = -1 ∧ RR cd n g ow lab tol aw M' N') ∨ ∃ M' N' N'' r' l', X = some (-1, M') ∧ Y = some (8 + nI r', N') ∧ r' < n ∧ 1 < d - i ∧ f_Model_arrive (nI r') (mset N' 0 0 0 19 ((N' 0 0 0 19) - 1)) = some N'' ∧ RR cd n g ow lab tol aw M' N'' ∧ PSm (i + 1) d r' l' p s M' N'' ∧ okl l' ∧ (l' = 0 → s = 99)
theorem move_rel {x t : Nat} (hn : 2 ≤ n ∧ n ≤ 6) (hx : x < n) (hd : d ≤ 255) (hT : 1 < d - i) (ht : okl t) (hs : s = 99 ∨ s < 4) (hts : t = 0 → s = 99) (hP : PSm i d r l p s M N) (h : RR cd n g ow lab tol aw M N) : ∃ M' N'', f_Packet_moveTo n (nI x) (nI t) M = some M' ∧ f_Model_arrive (nI x) (mset (mset N 0 0 0 17 (nI t)) 0 0 0 19 (((mset N 0 0 0 17 (nI t)) 0 0 0 19) - 1)) = some N'' ∧ RR cd n g ow lab tol aw M' N'' ∧ PSm (i + 1) d x t p s M' N'' := by
  obtain ⟨p1, p2, p3, p4, p5, p6, p7, p8, p9, p10, p11, p12⟩ := hP
  have ht9 := okl_lt ht
  have e19 : nI (d - i) - 1 = nI (d - (i + 1)) := by
    rw [show d - i = (d - (i + 1)) + 1 by omega, nI_pred]
  have E1 : ((mset N 0 0 0 17 (nI t)) 0 0 0 19) - 1 = nI (d - (i + 1)) := by
    show N 0 0 0 19 - 1 = _
    rw [p10, e19]
  rw [E1, arr_m (N := mset (mset N 0 0 0 17 (nI t)) 0 0 0 19 (nI (d - (i + 1)))) (l := t) (s := s) (d := d) (k := i + 1) (T := d - (i + 1)) ht hs (by omega) rfl p9 rfl p11 p12]
  have NT : ∀ E, f_Packet_note n (nI x) E (mset (mset M 9 0 0 5 (nI (d - (i + 1)))) 9 0 0 6 (nI t)) = some (mset (mset (mset (mset (mset M 9 0 0 5 (nI (d - (i + 1)))) 9 0 0 6 (nI t)) 10 0 0 (i + 1) (nI x)) 11 0 0 (i + 1) E) 9 0 0 2 (nI (i + 1 + 1))) := fun E => note_c (by omega) p1
  have R0 : RR cd n g ow lab tol aw (mset (mset M 9 0 0 5 (nI (d - (i + 1)))) 9 0 0 6 (nI t)) (mset (mset N 0 0 0 17 (nI t)) 0 0 0 19 (nI (d - (i + 1)))) := h
  refine ⟨mset (mset (mset (mset (mset M 9 0 0 5 (nI (d - (i + 1)))) 9 0 0 6 (nI t)) 10 0 0 (i + 1) (nI x)) 11 0 0 (i + 1) (entm t (d - (i + 1)) s d)) 9 0 0 2 (nI (i + 1 + 1)), _, ?_, rfl, RR_note (by omega) p1 R0, rfl, p2, p3, rfl, rfl, upd_same, p7, rfl, p9, rfl, p11, rfl⟩
  unfold f_Packet_moveTo
  rw [p4, e19]
  unfold f_Packet_isForService f_Packet_entryOf
  rw [show (mset (mset M 9 0 0 5 (nI (d - (i + 1)))) 9 0 0 6 (nI t)) 9 0 0 4 = ownI s from p3, show (mset (mset M 9 0 0 5 (nI (d - (i + 1)))) 9 0 0 6 (nI t)) 9 0 0 5 = nI (d - (i + 1)) from rfl]
  unfold entm
  by_cases h0 : t = 0
  · have h9 := hts h0
    subst h0 h9
    rw [if_pos (show nI 0 = 0 from rfl), NT, Option.bind_some, if_pos rfl, if_pos rfl]
  · rw [if_neg (nI_ne0 (by omega) (by omega)), if_neg h0]
    rcases hs with rfl | hs
    · rw [if_pos (show ownI 99 = -1 from rfl), Option.bind_some, if_pos (show (0 : Int32) = 0 from rfl), if_neg (show ¬ (1 : Int32) = 0 by decide), Option.bind_some, NT, Option.bind_some, if_pos rfl]
    · rw [if_neg (own_s hs), Option.bind_some, if_neg (show ¬ (1 : Int32) = 0 by decide), if_pos (show (0 : Int32) = 0 from rfl), Option.bind_some, NT, Option.bind_some, if_neg (by omega)]
theorem go_rel {q : Nat} {z : Int32} (hn : 2 ≤ n ∧ n ≤ 6) (hr : r < n) (hq : q < 4) (hd : d ≤ 255) (hi : i < d) (hs : s = 99 ∨ s < 4) (hl : okl l) (hz : (z = 0 ∧ l = 0 ∧ s = 99) ∨ (¬ z = 0 ∧ ¬ (l = 0 ∧ s = 99))) (hP : PSm i d r l p s M N) (h : RR cd n g ow lab tol aw M N) : POm cd n i d p s g ow lab tol aw (f_LR_goOn n (nI r) (nI q) z M) (rtm (nI r) (nI q) N) := by
  obtain ⟨F, e1, h'⟩ := next_m hn hr hq h
  have hP' : PSm i d r l p s M (ms N 12 0 0 F) := hP
  have hT := h'.1.2.2.2.2.2.1
  unfold f_LR_goOn rtm
  rw [next_c hn hr hq h, e1, Option.bind_some, Option.bind_some]
  dsimp only
  rcases nxt_lt (n := n) (o := ow q) (r := r) (g := g) with h2 | ⟨h2, -⟩
  · rw [h2, if_pos ownI_99, if_pos ownI_99]
    exact Or.inl ⟨1, M, _, rfl, rfl, by decide, by decide, h'⟩
  · generalize nxt n g (ow q) r = x at *
    have h3 : x ≠ 99 := by omega
    obtain ⟨t1, t2, t3⟩ := hT r x q hr h2 hq
    have ht := okl_lt t1
    have hne : ¬ ownI x = -1 := fun e => h3 ((own_m1 hn.2 (Or.inr h2)).mp e)
    rw [if_neg hne, if_neg hne, ownI_r h3, e24, ix_nI (show 24 * r + 4 * x + q < 144 by omega) (by decide), ix_nI hr (by omega), Option.bind_some, Option.bind_some, told_c hn.2 hr h2 hq hT, Option.bind_some]
    simp only [t3]
    generalize tol r x q = t at *
    generalize ms N 12 0 0 F = N1 at *
    have h17 := hP'.2.2.2.2.2.2.2.1
    have h18 := hP'.2.2.2.2.2.2.2.2.1
    have h19 := hP'.2.2.2.2.2.2.2.2.2.1
    have h5 := hP'.2.2.2.1
    have h19' : (mset N1 0 0 0 17 (nI t)) 0 0 0 19 = nI (d - i) := h19
    rw [h17, h18]
    simp only [h19']
    unfold f_Packet_isAtLastHop
    rw [h5]
    have hl9 := okl_lt hl
    -- the last part, the same in both cases
    have FIN : (t = 0 → s = 99) → POm cd n i d p s g ow lab tol aw ((if 1 < nI (d - i) then some (0 : Int32) else some 1).bind fun r48 => if r48 = 0 then ((f_Packet_moveTo n (nI x) (nI t) M).bind fun r64 => some ((-1), r64)) else (some (2, M))) (if nI (d - i) = 1 then some (2, mset N1 0 0 0 17 (nI t)) else some (8 + nI x, mset N1 0 0 0 17 (nI t))) := by
      intro hts
      by_cases hT1 : d - i = 1
      · rw [hT1, if_neg (show ¬ 1 < nI 1 by decide), if_pos (show nI 1 = 1 from rfl), Option.bind_some, if_neg (show ¬ (1 : Int32) = 0 by decide)]
        exact Or.inl ⟨2, M, _, rfl, rfl, by decide, by decide, h'⟩
      · have hT2 : 1 < d - i := by omega
        obtain ⟨M', N'', m1, m2, m3, m4⟩ := move_rel (x := x) hn h2 hd hT2 t1 hs hts hP' h'
        rw [if_pos (show 1 < nI (d - i) from nI_lt (a := 1) hT2 (by omega)), if_neg (show ¬ nI (d - i) = 1 from fun e => hT1 ((nI_eq (b := 1) (by omega) (by decide)).mp e)), Option.bind_some, if_pos (show (0 : Int32) = 0 from rfl), m1, Option.bind_some]
        exact Or.inr ⟨M', _, N'', x, t, rfl, rfl, h2, hT2, m2, m3, m4, t1, hts⟩
    by_cases h0 : t = 0
    · have q0 : nI t = 0 := by rw [h0]; rfl
      simp only [if_pos q0]
      rcases hz with ⟨z0, l0, s9⟩ | ⟨z0, ls⟩
      · rw [if_pos z0, l0, if_neg (show ¬ 0 < nI 0 by decide), s9, if_pos sI_99]
        rw [s9] at FIN
        exact FIN (fun _ => rfl)
      · rw [if_neg z0]
        refine Or.inl ⟨4, M, N1, rfl, ?_, by decide, by decide, h'⟩
        by_cases l0 : l = 0
        · have s4 : s < 4 := by
            rcases hs with hs | hs
            · exact absurd ⟨l0, hs⟩ ls
            · exact hs
          rw [l0, if_neg (show ¬ 0 < nI 0 by decide), if_neg (sI_n s4)]
        · rw [if_pos (show 0 < nI l from nI_lt (a := 0) (by omega) (by omega))]
    · have q0 : ¬ nI t = 0 := nI_ne0 (by omega) (by omega)
      simp only [if_neg q0]
      have FF := FIN (fun e => absurd e h0)
      by_cases z0 : z = 0
      · rw [if_pos z0]
        exact FF
      · rw [if_neg z0]
        exact FF
end SD
