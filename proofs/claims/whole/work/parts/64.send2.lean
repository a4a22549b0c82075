/-! send: a pass, the passes, the call -/
theorem bind_eta (X : Option (Int32 × Mem)) : (X.bind fun q => some (q.1, q.2)) = X := by cases X <;> rfl
section SE
variable {cd : Int32} {n i d r l p s : Nat} {b : Int32} {g : Nat → Nat → Nat} {ow : Nat → Nat} {lab : Nat → Nat → Nat} {tol : Nat → Nat → Nat → Nat} {aw : Nat → Nat → Nat} {M N : Mem}
theorem try_rel (hs : s < 4) (h4 : M 9 0 0 4 = ownI s) (h18 : N 0 0 0 18 = sI s) (hV : VP (M 8 0 0) (N 3 0 0)) : ∃ v : Int32, f_LR_tryService n (nI r) M = some v ∧ f_Model_looked (nI r) N = some v ∧ v < 8 ∧ ¬ v = -1 := by
  unfold f_LR_tryService f_Model_looked f_Packet_targetService
  rw [h4, h18, Option.bind_some, sI_s hs, ownI_r (by omega), show nI (32 + s) - 32 = nI s by rw [show (32 : Int32) = nI 32 from rfl, nI_sub (by omega)]; congr 1; omega, ix_nI hs (by decide), Option.bind_some, Option.bind_some, hV s hs]
  by_cases h : N 3 0 0 s = nI r
  · rw [if_pos h]; exact ⟨0, rfl, rfl, by decide, by decide⟩
  · rw [if_neg h]; exact ⟨3, rfl, rfl, by decide, by decide⟩
theorem fs_c (h4 : M 9 0 0 4 = ownI s) (hs : s = 99 ∨ s < 4) : f_Packet_isForService n M = some (if s = 99 then 0 else 1) := by
  unfold f_Packet_isForService
  rw [h4]
  rcases hs with rfl | hs
  · rfl
  · rw [if_neg (own_s hs), if_neg (by omega)]
theorem un_rel (hn : 2 ≤ n ∧ n ≤ 6) (hr : r < n) (hp : p < 4) (hd : d ≤ 255) (hi : i < d) (hs : s = 99 ∨ s < 4) (hb : s = 99 ∨ ¬ b = 0) (hP : PSm i d r 0 p s M N) (h : RR cd n g ow lab tol aw M N) : POm cd n i d p s g ow lab tol aw (f_LR_passUnlabelled n (nI r) M) (atm2 (nI r) b (nI p) N) := by
  have h3 := hP.2.1
  have h4 := hP.2.2.1
  have h16 := hP.2.2.2.2.2.2.1
  have h17 : N 0 0 0 17 = 0 := hP.2.2.2.2.2.2.2.1
  have h18 := hP.2.2.2.2.2.2.2.2.1
  obtain ⟨o1, o2, o3⟩ := h.1.2.2.1 p hp
  unfold f_LR_passUnlabelled f_Packet_targetPrefix atm2 atm1
  rw [fs_c h4 hs, h3, h16, h18, if_pos h17, if_pos h17, ix_nI hp (by decide)]
  simp only [Option.bind_some]
  rw [owns_c hn.2 hr hp h.1.2.2.1, o3, Option.bind_some, bind_eta]
  have Z : (s = 99 ∧ (if s = 99 then (0 : Int32) else 1) = 0 ∧ sI s ≤ 0) ∨ (s < 4 ∧ ¬ s = 99 ∧ ¬ (if s = 99 then (0 : Int32) else 1) = 0 ∧ ¬ sI s ≤ 0 ∧ ¬ b = 0) := by
    rcases hs with rfl | hs
    · exact Or.inl ⟨rfl, rfl, sI_99⟩
    · refine Or.inr ⟨hs, by omega, ?_, sI_n hs, ?_⟩
      · rw [if_neg (by omega)]; decide
      · rcases hb with hb | hb
        · omega
        · exact hb
  by_cases ho : ow p = r
  · have he : ownI (ow p) = nI r := (own_eq hn.2 hr o1).mpr ho
    rw [decide_eq_true ho, if_neg (show ¬ bI true = 0 by decide), he]
    simp only [if_true]
    rcases Z with ⟨z1, z2, z3⟩ | ⟨z1, z2, z3, z4, z5⟩
    · rw [if_pos z2, if_pos z3]
      exact Or.inl ⟨0, M, N, rfl, rfl, by decide, by decide, h⟩
    · rw [if_neg z3, if_neg z4, if_neg z5]
      obtain ⟨v, t1, t2, t3, t4⟩ := try_rel (n := n) (r := r) z1 h4 h18 h.1.2.2.2.2.2.2.2.1
      rw [t1, t2]
      exact Or.inl ⟨v, M, N, rfl, rfl, t3, t4, h⟩
  · have he : ¬ ownI (ow p) = nI r := fun e => ho ((own_eq hn.2 hr o1).mp e)
    rw [decide_eq_false ho, if_pos (show bI false = 0 from rfl)]
    simp only [if_neg he]
    have K : (if sI s ≤ 0 then rtm (nI r) (nI p) N else if b = 0 then (f_Model_looked (nI r) N).bind fun r114 => some (r114, N) else rtm (nI r) (nI p) N) = rtm (nI r) (nI p) N := by
      rcases Z with ⟨z1, z2, z3⟩ | ⟨z1, z2, z3, z4, z5⟩
      · rw [if_pos z3]
      · rw [if_neg z4, if_neg z5]
    rw [K]
    refine go_rel hn hr hp hd hi hs (Or.inl rfl) ?_ hP h
    rcases Z with ⟨z1, z2, z3⟩ | ⟨z1, z2, z3, z4, z5⟩
    · exact Or.inl ⟨z2, rfl, z1⟩
    · exact Or.inr ⟨z3, fun e => z2 e.2⟩
theorem pass_rel (hn : 2 ≤ n ∧ n ≤ 6) (hr : r < n) (hp : p < 4) (hd : d ≤ 255) (hi : i < d) (hs : s = 99 ∨ s < 4) (hl : okl l) (hb0 : l = 0 → s = 99 ∨ ¬ b = 0) (hb1 : ¬ l = 0 → b = 0) (hP : PSm i d r l p s M N) (h : RR cd n g ow lab tol aw M N) : POm cd n i d p s g ow lab tol aw (f_LR_passRouter n M) (f_Model_at (nI r) b N) := by
  have hl9 := okl_lt hl
  have h2 := hP.1
  have h4 := hP.2.2.1
  have h6 := hP.2.2.2.2.1
  have h10 := hP.2.2.2.2.2.1
  have h16 := hP.2.2.2.2.2.2.1
  have h17 := hP.2.2.2.2.2.2.2.1
  have h18 := hP.2.2.2.2.2.2.2.2.1
  unfold f_LR_passRouter f_Packet_place f_Packet_topLabel
  rw [h2, nI_pred, ix_nI (show i < 255 by omega) (by decide), h6]
  simp only [Option.bind_some]
  rw [h10]
  by_cases h0 : l = 0
  · subst h0
    rw [if_pos (show nI 0 = 0 from rfl), bind_eta, at_0 (by rw [h17]; decide), h16]
    exact un_rel hn hr hp hd hi hs (hb0 rfl) hP h
  · have hb := hb1 h0
    rw [if_neg (nI_ne0 (by omega) (by omega)), ix_nI hr (by omega), Option.bind_some, at_l (by rw [h17]; exact nI_nle (by omega) (by omega)), h17]
    rcases pfx_rel hn.2 hr (okl_lt hl) h.1.2.2.2.2.1 with ⟨e1, e2⟩ | ⟨q, hq, e1, e2⟩
    · rw [e1, e2]
      exact Or.inl ⟨3, M, N, rfl, rfl, by decide, by decide, h⟩
    · obtain ⟨o1, o2, o3⟩ := h.1.2.2.1 q hq
      have hq1 : ¬ nI q = -1 := fun e => nI_pos (n := q) (by omega) (e ▸ by decide)
      rw [e1, e2]
      simp only [Option.bind_some, if_neg hq1]
      rw [owns_c hn.2 hr hq h.1.2.2.1, ix_nI hq (by decide)]
      simp only [Option.bind_some]
      rw [o3, h16]
      by_cases ho : ow q = r
      · have hP' : PSm i d r 0 p s (mset M 9 0 0 6 0) (mset N 0 0 0 17 0) := by
          obtain ⟨p1, p2, p3, p4, p5, p6, p7, p8, p9, p10, p11, p12⟩ := hP
          exact ⟨p1, p2, p3, p4, rfl, p6, p7, rfl, p9, p10, p11, p12⟩
        have h' : RR cd n g ow lab tol aw (mset M 9 0 0 6 0) (mset N 0 0 0 17 0) := h
        rw [if_pos ((own_eq hn.2 hr o1).mpr ho), decide_eq_true ho, if_neg (show ¬ bI true = 0 by decide)]
        unfold f_Packet_pop
        rw [Option.bind_some, fs_c (M := mset M 9 0 0 6 0) h4 hs, Option.bind_some]
        by_cases hs9 : s = 99
        · rw [if_pos hs9, if_pos (show (0 : Int32) = 0 from rfl), bind_eta]
          exact un_rel hn hr hp hd hi hs (Or.inl hs9) hP' h'
        · have s4 : s < 4 := by
            rcases hs with hs | hs
            · exact absurd hs hs9
            · exact hs
          rw [if_neg hs9, if_neg (show ¬ (1 : Int32) = 0 by decide)]
          obtain ⟨v, t1, t2, t3, t4⟩ := try_rel (n := n) (r := r) (M := mset M 9 0 0 6 0) (N := mset N 0 0 0 17 0) s4 h4 h18 h.1.2.2.2.2.2.2.2.1
          rw [t1]
          refine Or.inl ⟨v, _, _, rfl, ?_, t3, t4, h'⟩
          unfold atm2
          rw [if_pos (show (mset N 0 0 0 17 0) 0 0 0 17 = 0 from rfl), show (mset N 0 0 0 17 0) 0 0 0 18 = sI s from h18, if_neg (sI_n s4), if_pos hb, t2]
          rfl
      · rw [if_neg (fun e => ho ((own_eq hn.2 hr o1).mp e)), decide_eq_false ho, if_pos (show bI false = 0 from rfl), bind_eta]
        have q2 : ¬ N 0 0 0 17 = 0 := by rw [h17]; exact nI_ne0 (by omega) (by omega)
        rw [show atm2 (nI r) b (nI q) N = rtm (nI r) (nI q) N by unfold atm2 atm1; rw [if_neg q2, if_neg q2]]
        exact go_rel hn hr hq hd hi hs hl (Or.inr ⟨by decide, fun e => h0 e.1⟩) hP h
theorem send_loop (hn : 2 ≤ n ∧ n ≤ 6) (hp : p < 4) (hd : d ≤ 255) (hs : s = 99 ∨ s < 4) : ∀ (c i k k' r l : Nat) (b : Int32) (M N : Mem), i + c + 1 = d → c < k → c < k' → r < n → okl l → (l = 0 → s = 99 ∨ ¬ b = 0) → (¬ l = 0 → b = 0) → PSm i d r l p s M N → RR cd n g ow lab tol aw M N →
    ∃ v M' N', f_LR_send_39 n (nI d) k (nI i) M = some (v, M') ∧ ((f_Model_at (nI r) b N).bind fun q => f_Model_send_109 k' q.1 q.2) = some (v, N') ∧ RY cd n M' N' := by
  intro c
  induction c with
  | zero =>
    intro i k k' r l b M N h1 h2 h3 hr hl hb0 hb1 hP h
    obtain ⟨k, rfl⟩ : ∃ k', k = k' + 1 := ⟨k - 1, by omega⟩
    obtain ⟨k', rfl⟩ : ∃ k'', k' = k'' + 1 := ⟨k' - 1, by omega⟩
    rcases pass_rel hn hr hp hd (show i < d by omega) hs hl hb0 hb1 hP h with ⟨v, M', N', e1, e2, e3, e4, e5⟩ | ⟨M', N', N'', r', l', e1, e2, e3, e4, e5, e6, e7, e8, e9⟩
    · rw [f_LR_send_39, if_neg (nI_ge (by omega) (by omega)), e1, e2, Option.bind_some, Option.bind_some]
      dsimp only
      rw [if_neg e4, f_Model_send_109, if_pos e3]
      exact ⟨v, M', N', rfl, rfl, g, ow, lab, tol, aw, e5⟩
    · exact absurd e4 (by omega)
  | succ c ih =>
    intro i k k' r l b M N h1 h2 h3 hr hl hb0 hb1 hP h
    obtain ⟨k, rfl⟩ : ∃ k', k = k' + 1 := ⟨k - 1, by omega⟩
    obtain ⟨k', rfl⟩ : ∃ k'', k' = k'' + 1 := ⟨k' - 1, by omega⟩
    rcases pass_rel hn hr hp hd (show i < d by omega) hs hl hb0 hb1 hP h with ⟨v, M', N', e1, e2, e3, e4, e5⟩ | ⟨M', N', N'', r', l', e1, e2, e3, e4, e5, e6, e7, e8, e9⟩
    · rw [f_LR_send_39, if_neg (nI_ge (by omega) (by omega)), e1, e2, Option.bind_some, Option.bind_some]
      dsimp only
      rw [if_neg e4, f_Model_send_109, if_pos e3]
      exact ⟨v, M', N', rfl, rfl, g, ow, lab, tol, aw, e5⟩
    · rw [f_LR_send_39, if_neg (nI_ge (by omega) (by omega)), e1, e2, Option.bind_some, Option.bind_some]
      dsimp only
      rw [if_pos (show (-1 : Int32) = -1 from rfl), f_Model_send_109, show (8 : Int32) + nI r' = nI (8 + r') from nI_add 8 r', if_neg (show ¬ nI (8 + r') < 8 from nI_nlt (b := 8) (by omega) (by omega)), show nI (8 + r') - 8 = nI r' by rw [show (8 : Int32) = nI 8 from rfl, nI_sub (by omega)]; congr 1; omega, e5, Option.bind_some, nI_1]
      exact ih (i + 1) k k' r' l' 0 M' N'' (by omega) (by omega) (by omega) e3 e8 (fun e => Or.inl (e9 e)) (fun _ => rfl) e7 e6
theorem begin_rel (hn : 2 ≤ n ∧ n ≤ 6) (hd : 1 ≤ d ∧ d ≤ 255) (hs : s = 99 ∨ s < 4) (h : RR cd n g ow lab tol aw M N) : ∃ M' N', f_Packet_begin n (nI r) (nI p) (ownI s) (nI d) M = some M' ∧ f_Model_arrive (nI r) (mset (mset (mset (mset (mset (mset N 0 0 0 16 (nI p)) 0 0 0 17 0) 0 0 0 18 (sI s)) 0 0 0 19 (nI d)) 0 0 0 20 (nI d)) 0 0 0 21 0) = some N' ∧ RR cd n g ow lab tol aw M' N' ∧ PSm 0 d r 0 p s M' N' := by
  have R0 : RR cd n g ow lab tol aw (mset (mset (mset (mset (mset M 9 0 0 3 (nI p)) 9 0 0 4 (ownI s)) 9 0 0 5 (nI d)) 9 0 0 6 0) 9 0 0 2 0) (mset (mset (mset (mset (mset (mset N 0 0 0 16 (nI p)) 0 0 0 17 0) 0 0 0 18 (sI s)) 0 0 0 19 (nI d)) 0 0 0 20 (nI d)) 0 0 0 21 0) := by
    obtain ⟨⟨b1, b2, b3, b4, b5, b6, b7, b8, -, b10⟩, hw⟩ := h
    exact ⟨⟨b1, b2, b3, b4, b5, b6, b7, b8, ⟨0, by omega, rfl, rfl, fun j hj => absurd hj (Nat.not_lt_zero _)⟩, b10⟩, hw⟩
  have NT : ∀ E, f_Packet_note n (nI r) E (mset (mset (mset (mset (mset M 9 0 0 3 (nI p)) 9 0 0 4 (ownI s)) 9 0 0 5 (nI d)) 9 0 0 6 0) 9 0 0 2 0) = some (mset (mset (mset (mset (mset (mset (mset (mset M 9 0 0 3 (nI p)) 9 0 0 4 (ownI s)) 9 0 0 5 (nI d)) 9 0 0 6 0) 9 0 0 2 0) 10 0 0 0 (nI r)) 11 0 0 0 E) 9 0 0 2 (nI (0 + 1))) := fun E => note_c (by omega) rfl
  rw [arr_m (N := mset (mset (mset (mset (mset (mset N 0 0 0 16 (nI p)) 0 0 0 17 0) 0 0 0 18 (sI s)) 0 0 0 19 (nI d)) 0 0 0 20 (nI d)) 0 0 0 21 0) (l := 0) (s := s) (d := d) (k := 0) (T := d) (Or.inl rfl) hs (by omega) rfl rfl rfl rfl rfl]
  refine ⟨mset (mset (mset (mset (mset (mset (mset (mset M 9 0 0 3 (nI p)) 9 0 0 4 (ownI s)) 9 0 0 5 (nI d)) 9 0 0 6 0) 9 0 0 2 0) 10 0 0 0 (nI r)) 11 0 0 0 (entm 0 d s d)) 9 0 0 2 (nI (0 + 1)), _, ?_, rfl, RR_note (by omega) rfl R0, rfl, rfl, rfl, rfl, rfl, rfl, rfl, rfl, rfl, rfl, rfl, rfl⟩
  unfold f_Packet_begin
  rw [fs_c (s := s) (M := mset (mset (mset (mset (mset M 9 0 0 3 (nI p)) 9 0 0 4 (ownI s)) 9 0 0 5 (nI d)) 9 0 0 6 0) 9 0 0 2 0) rfl hs, Option.bind_some]
  unfold f_Packet_entryOf entm
  rw [show (mset (mset (mset (mset (mset M 9 0 0 3 (nI p)) 9 0 0 4 (ownI s)) 9 0 0 5 (nI d)) 9 0 0 6 0) 9 0 0 2 0) 9 0 0 4 = ownI s from rfl, show (mset (mset (mset (mset (mset M 9 0 0 3 (nI p)) 9 0 0 4 (ownI s)) 9 0 0 5 (nI d)) 9 0 0 6 0) 9 0 0 2 0) 9 0 0 5 = nI d from rfl]
  rcases hs with rfl | hs
  · rw [if_pos rfl, if_pos (show (0 : Int32) = 0 from rfl), NT, Option.bind_some, if_pos rfl, if_pos rfl]
  · have s9 : ¬ s = 99 := by omega
    rw [if_neg s9, if_neg (show ¬ (1 : Int32) = 0 by decide), if_neg (show ¬ (1 : Int32) = 0 by decide), Option.bind_some, NT, Option.bind_some, if_pos rfl, if_neg s9, ownI_r s9, show (32 : Int32) + nI s = nI (32 + s) from nI_add 32 s]
end SE
theorem svc (z : Int32) (h1 : ¬ z < -1) (h2 : z ≤ 3) : ∃ s, (s = 99 ∨ s < 4) ∧ z = ownI s := by
  by_cases hz : z = -1
  · exact ⟨99, Or.inl rfl, hz⟩
  · have h3 : ¬ z < 0 := by
      intro h
      have a1 := Int32.lt_iff_toInt_lt.mp h
      have a2 : ¬ z.toInt < (-1 : Int32).toInt := fun e => h1 (Int32.lt_iff_toInt_lt.mpr e)
      have a3 : ¬ z.toInt = (-1 : Int32).toInt := fun e => hz (Int32.toInt_inj.mp e)
      rw [show (0 : Int32).toInt = 0 from rfl] at a1
      rw [show (-1 : Int32).toInt = -1 from rfl] at a2 a3
      omega
    obtain ⟨j, hj, rfl⟩ := nI_of2 (M := 3) (n := 3) (by decide) h3 h2
    exact ⟨j, Or.inr (by omega), (ownI_r (by omega)).symm⟩
theorem ttl (d : Int32) (h1 : ¬ d < 1) (h2 : d ≤ 255) : ∃ D, 1 ≤ D ∧ D ≤ 255 ∧ d = nI D := by
  have h3 : ¬ d < 0 := fun e => h1 (Int32.lt_trans e (by decide))
  obtain ⟨j, hj, rfl⟩ := nI_of2 (M := 255) (n := 255) (by decide) h3 h2
  refine ⟨j, ?_, hj, rfl⟩
  rcases Nat.eq_zero_or_pos j with h0 | h0
  · subst h0
    exact absurd (show nI 0 < 1 by decide) h1
  · exact h0
theorem sim_send : Sim_send Rel := by
  intro n M N a b z d hn h
  obtain ⟨cd, g, ow, lab, tol, aw, h9⟩ := id h
  unfold f_LR_send f_Model_send g_LR_send
  rcases rtr (M := M) hn h9.1.1 a with ⟨r, hr, rfl, e1, e2⟩ | ⟨e1, e2⟩
  · rw [e1, e2]
    rcases prf b with ⟨p, hp, rfl, e3, e4'⟩ | ⟨e3, e4'⟩
    · rw [e3, e4']
      rcases rng z (-1) 3 with ⟨z1, z2, e5, e6'⟩ | ⟨e5, e6'⟩
      · rw [e5, e6']
        rcases rng d 1 255 with ⟨d1, d2, e7, e8⟩ | ⟨e7, e8⟩
        · rw [e7, e8]
          obtain ⟨s, hs, rfl⟩ := svc z z1 z2
          obtain ⟨D, hD1, hD2, rfl⟩ := ttl d d1 d2
          obtain ⟨M1, N1, b1, b2, b3, b4⟩ := begin_rel (r := r) (p := p) hn ⟨hD1, hD2⟩ hs (RR_code (x := 0) h9)
          obtain ⟨v, M', N', q1, q2, q3⟩ := send_loop hn hp hD2 hs (D - 1) 0 1000 1000 r 0 1 M1 N1 (by omega) (by omega) (by omega) hr (Or.inl rfl) (fun _ => Or.inr (by decide)) (fun e => absurd rfl e) b4 b3
          rw [nI_0] at q1
          refine Or.inl ⟨(v, M'), (v, N'), ?_, ?_, RY_cd q3, rfl, RY_Rel q3⟩
          · simp only [Option.bind_some]
            rw [b1, Option.bind_some, q1]
          · simp only [Option.bind_some]
            rw [if_neg (show ¬ (1 : Int32) = 0 by decide), if_neg (show ¬ (1 : Int32) = 0 by decide), if_neg (show ¬ (1 : Int32) = 0 by decide), if_neg (show ¬ (1 : Int32) = 0 by decide)]
            unfold f_Model_send_j44
            rw [show f_Model_good 1 N = some (1, mset N 0 0 0 0 0) from rfl, Option.bind_some]
            dsimp only
            rw [if_neg (show ¬ (1 : Int32) = 0 by decide)]
            have J : f_Model_send_j76 (nI r) (nI p) (nI D) (1, mset N 0 0 0 0 0) (sI s) = some (v, N') := by
              unfold f_Model_send_j76
              dsimp only
              rw [b2, Option.bind_some]
              exact q2
            rcases hs with rfl | hs
            · rw [if_pos ownI_99]
              exact J
            · rw [if_neg (own_s hs), ownI_r (by omega), show (32 : Int32) + nI s = sI s by rw [sI_s hs]; exact nI_add 32 s]
              exact J
        · rw [e7, e8]
          exact Or.inr ⟨(0, mset N 0 0 0 0 1), rfl, rfl, rfl, Rel_code h⟩
      · rw [e5, e6']
        exact Or.inr ⟨(0, mset N 0 0 0 0 1), rfl, rfl, rfl, Rel_code h⟩
    · rw [e3, e4']
      exact Or.inr ⟨(0, mset N 0 0 0 0 1), rfl, rfl, rfl, Rel_code h⟩
  · rw [e1, e2]
    exact Or.inr ⟨(0, mset N 0 0 0 0 1), rfl, rfl, rfl, Rel_code h⟩
theorem sim : Sim Rel := ⟨sim_init, sim_link, sim_own, sim_serve, sim_step, sim_run, sim_waiting, sim_lost, sim_distance, sim_next, sim_label, sim_told, sim_taken, sim_send, sim_hops, sim_hop, sim_entry⟩
