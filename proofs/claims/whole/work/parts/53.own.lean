/-! the beginning, serve and own -/
theorem sim_init : Sim_init Rel := by
  intro n hn
  refine ⟨0, fun _ _ => 0, fun _ => 99, fun _ _ => 0, fun _ _ _ => 0, fun _ _ => 0, ⟨rfl, ⟨fun _ _ _ _ => rfl, ⟨fun _ _ _ _ => rfl, fun _ _ => Nat.zero_le _, fun _ _ h => absurd rfl h, fun _ _ => rfl⟩, fun _ => rfl⟩, ?_, ?_, fun _ _ _ _ => ⟨Or.inl rfl, rfl, rfl⟩, fun _ _ _ _ _ _ => ⟨Or.inl rfl, rfl, rfl⟩, fun _ _ _ _ => ⟨show 0 < 64 by decide, rfl, fun x _ => by dsimp only; simp only [Nat.zero_testBit]; rfl⟩, fun s _ => rfl, ⟨0, Nat.zero_le _, rfl, rfl, fun i h => absurd h (Nat.not_lt_zero i)⟩, rfl⟩, 0, fun _ => (0, 0, 0, 0, 0), Nat.zero_le _, rfl, rfl, rfl, fun i h => absurd h (Nat.not_lt_zero i)⟩
  · intro p hp
    refine ⟨Or.inl rfl, ?_, ?_⟩
    · show (if p < 4 then (-1 : Int32) else 0) = -1
      exact if_pos hp
    · show (if p < 4 then (-1 : Int32) else 0) = -1
      exact if_pos hp
  · intro p v hp hv
    show (if v < n then (1000 : Int32) else 0) = nI (dist n (fun _ _ => 0) 99 v)
    rw [if_pos hv]
    rfl
theorem rtn {n : Nat} {M N : Mem} (hn : 2 ≤ n ∧ n ≤ 6) (hN : N 0 0 0 1 = nI n) (b : Int32) : (∃ o, (o = 99 ∨ o < n) ∧ b = ownI o ∧ f_LR_checkRouterOrNone n b M = some () ∧ (b = -1 ∨ (b ≠ -1 ∧ f_Model_isRouter b N = some 1))) ∨ (f_LR_checkRouterOrNone n b M = none ∧ b ≠ -1 ∧ f_Model_isRouter b N = some 0) := by
  by_cases hb : b = -1
  · subst hb
    refine Or.inl ⟨99, Or.inl rfl, rfl, ?_, Or.inl rfl⟩
    unfold f_LR_checkRouterOrNone f_LR_checkRange
    obtain ⟨m, rfl⟩ : ∃ m, n = m + 1 := ⟨n - 1, by omega⟩
    rw [nI_pred, if_neg (by decide), if_pos (Int32.le_trans (show (-1 : Int32) ≤ 0 by decide) (nI_pos' (by omega)))]
    rfl
  · have key : ∀ i : Nat, i < n → f_LR_checkRouterOrNone n (nI i) M = some () := by
      intro i hi
      unfold f_LR_checkRouterOrNone f_LR_checkRange
      obtain ⟨m, rfl⟩ : ∃ m, n = m + 1 := ⟨n - 1, by omega⟩
      rw [nI_pred, if_neg (fun e => absurd (Int32.lt_trans e (show (-1 : Int32) < 0 by decide)) (nI_pos (by omega))), if_pos (nI_le (by omega) (by omega))]
      rfl
    rcases rtr (M := M) hn hN b with ⟨i, hi, rfl, e1, e2⟩ | ⟨e1, e2⟩
    · exact Or.inl ⟨i, Or.inr hi, (ownI_r (by omega)).symm, key i hi, Or.inr ⟨hb, e2⟩⟩
    · refine Or.inr ⟨?_, hb, e2⟩
      unfold f_LR_checkRouter f_LR_checkRange at e1
      unfold f_LR_checkRouterOrNone f_LR_checkRange
      by_cases h1 : b < 0
      · by_cases h2 : b < -1
        · rw [if_pos h2]; rfl
        · exfalso
          have h3 : -1 < b ∨ b = -1 := by
            rcases Int32.lt_or_eq_of_le (Int32.not_lt.mp h2) with h | h
            · exact Or.inl h
            · exact Or.inr h.symm
          rcases h3 with h3 | h3
          · have a1 := Int32.lt_iff_toInt_lt.mp h1
            have a2 := Int32.lt_iff_toInt_lt.mp h3
            have e0 : (0 : Int32).toInt = 0 := by decide
            have em : (-1 : Int32).toInt = -1 := by decide
            omega
          · exact hb h3
      · rw [if_neg h1] at e1
        by_cases h2 : b ≤ nI n - 1
        · rw [if_pos h2] at e1; cases e1
        · rw [if_neg (fun e => h1 (Int32.lt_trans e (by decide))), if_neg h2]; rfl
theorem sim_serve : Sim_serve Rel := by
  intro n M N a b hn h
  obtain ⟨cd, g, ow, lab, tol, aw, h9⟩ := id h
  unfold f_LR_serve f_Model_serve g_LR_serve
  have hp := prf a
  unfold f_LR_checkPrefix at hp
  rcases hp with ⟨p, hp, rfl, e1, e2⟩ | ⟨e1, e2⟩
  · have e1' : f_LR_checkRange (nI p) 0 3 = some () := by
      cases hc : f_LR_checkRange (nI p) 0 3 with
      | none => rw [hc] at e1; cases e1
      | some u => rfl
    rw [e1', e2]
    rcases rtn (M := M) hn h9.1.1 b with ⟨o, ho, rfl, e3, e4'⟩ | ⟨e3, hb, e4'⟩
    · rw [e3]
      have R : Rel n (mset M 8 0 0 p (ownI o)) (mset (mset N 0 0 0 0 0) 3 0 0 p (ownI o)) := by
        obtain ⟨⟨b1, b2, b3, b4, b5, b6, b7, b8, b9⟩, hw⟩ := RR_code (x := 0) h9
        refine ⟨0, g, ow, lab, tol, aw, ⟨b1, b2, b3, b4, b5, b6, b7, fun s hs => ?_, b9⟩, hw⟩
        show upd (M 8 0 0) p (ownI o) s = upd (N 3 0 0) p (ownI o) s
        by_cases hsp : s = p
        · subst hsp; rw [upd_same, upd_same]
        · rw [upd_ne hsp, upd_ne hsp]; exact b8 s hs
      refine Or.inl ⟨(M 8 0 0 p, mset M 8 0 0 p (ownI o)), (N 3 0 0 p, mset (mset N 0 0 0 0 0) 3 0 0 p (ownI o)), ?_, ?_, rfl, h9.1.2.2.2.2.2.2.2.1 p hp, R⟩
      · show ((ix (nI p) 4).bind fun j16 => (ix (nI p) 4).bind fun j24 => some (M 8 0 0 j16, mset M 8 0 0 j24 (ownI o))) = _
        rw [ix_nI hp (by decide)]
        rfl
      · have J : f_Model_serve_j28 (nI p) (ownI o) N 1 = some (N 3 0 0 p, mset (mset N 0 0 0 0 0) 3 0 0 p (ownI o)) := by
          show ((ix (nI p) 4).bind fun j41 => (ix (nI p) 4).bind fun j49 => some ((mset N 0 0 0 0 0) 3 0 0 j41, mset (mset N 0 0 0 0 0) 3 0 0 j49 (ownI o))) = _
          rw [ix_nI hp (by decide)]
          rfl
        show (if ownI o = -1 then f_Model_serve_j28 (nI p) (ownI o) N 1 else _) = _
        rcases e4' with e5 | ⟨e5, e6'⟩
        · rw [if_pos e5]; exact J
        · rw [if_neg e5, e6']; exact J
    · rw [e3]
      refine Or.inr ⟨(0, mset N 0 0 0 0 1), rfl, ?_, rfl, Rel_code h⟩
      show (if b = -1 then _ else _) = _
      rw [if_neg hb, e4']
      rfl
  · have e1' : f_LR_checkRange a 0 3 = none := by
      cases hc : f_LR_checkRange a 0 3 with
      | none => rfl
      | some u => rw [hc] at e1; cases e1
    rw [e1', e2]
    exact Or.inr ⟨(0, mset N 0 0 0 0 1), rfl, rfl, rfl, Rel_code h⟩
