abbrev R_LR : String := "LabelRoads"
def F_LR : u_T := fun k => match k with
  | 0 => ("LabelRoads", "size", "I", true)
  | 1 => ("LabelRoads", "ways", "LLabelRoads$Ways;", true)
  | 2 => ("LabelRoads", "mail", "LLabelRoads$Mail;", true)
  | 3 => ("LabelRoads", "routers", "[LLabelRoads$Router;", true)
  | 4 => ("LabelRoads", "places", "[I", true)
  | _ => ("LabelRoads", "packet", "LLabelRoads$Packet;", true)
def t_LR : Nat → FieldType := fun k => match k with
  | 0 => .int
  | 1 => .object "LabelRoads$Ways"
  | 2 => .object "LabelRoads$Mail"
  | 3 => .array (.object "LabelRoads$Router")
  | 4 => .array (.int)
  | _ => .object "LabelRoads$Packet"
theorem nm_LR : ∀ a, a < 6 → ∀ b, b < 6 → a ≠ b → (F_LR a).2.1 ≠ (F_LR b).2.1 := by decide +kernel
theorem ty_LR : ∀ k, k < 6 → parseFieldDescriptor (F_LR k).2.2.1 = some (t_LR k) := by decide +kernel
abbrev R_Ways : String := "LabelRoads$Ways"
def F_Ways : u_T := fun k => match k with
  | 0 => ("LabelRoads$Ways", "size", "I", true)
  | 1 => ("LabelRoads$Ways", "costs", "[[I", true)
  | 2 => ("LabelRoads$Ways", "owners", "[I", true)
  | _ => ("LabelRoads$Ways", "distances", "[[I", true)
def t_Ways : Nat → FieldType := fun k => match k with
  | 0 => .int
  | 1 => .array (.array (.int))
  | 2 => .array (.int)
  | _ => .array (.array (.int))
theorem nm_Ways : ∀ a, a < 4 → ∀ b, b < 4 → a ≠ b → (F_Ways a).2.1 ≠ (F_Ways b).2.1 := by decide +kernel
theorem ty_Ways : ∀ k, k < 4 → parseFieldDescriptor (F_Ways k).2.2.1 = some (t_Ways k) := by decide +kernel
abbrev R_Mail : String := "LabelRoads$Mail"
def F_Mail : u_T := fun k => match k with
  | 0 => ("LabelRoads$Mail", "messages", "[I", true)
  | 1 => ("LabelRoads$Mail", "count", "I", false)
  | _ => ("LabelRoads$Mail", "lostOnes", "I", false)
def t_Mail : Nat → FieldType := fun k => match k with
  | 0 => .array (.int)
  | 1 => .int
  | _ => .int
theorem nm_Mail : ∀ a, a < 3 → ∀ b, b < 3 → a ≠ b → (F_Mail a).2.1 ≠ (F_Mail b).2.1 := by decide +kernel
theorem ty_Mail : ∀ k, k < 3 → parseFieldDescriptor (F_Mail k).2.2.1 = some (t_Mail k) := by decide +kernel
abbrev R_Router : String := "LabelRoads$Router"
def F_Router : u_T := fun k => match k with
  | 0 => ("LabelRoads$Router", "labels", "[I", true)
  | 1 => ("LabelRoads$Router", "toldLabels", "[[I", true)
  | _ => ("LabelRoads$Router", "awaited", "[I", true)
def t_Router : Nat → FieldType := fun k => match k with
  | 0 => .array (.int)
  | 1 => .array (.array (.int))
  | _ => .array (.int)
theorem nm_Router : ∀ a, a < 3 → ∀ b, b < 3 → a ≠ b → (F_Router a).2.1 ≠ (F_Router b).2.1 := by decide +kernel
theorem ty_Router : ∀ k, k < 3 → parseFieldDescriptor (F_Router k).2.2.1 = some (t_Router k) := by decide +kernel
abbrev R_Packet : String := "LabelRoads$Packet"
def F_Packet : u_T := fun k => match k with
  | 0 => ("LabelRoads$Packet", "trail", "[I", true)
  | 1 => ("LabelRoads$Packet", "entries", "[I", true)
  | 2 => ("LabelRoads$Packet", "count", "I", false)
  | 3 => ("LabelRoads$Packet", "prefix", "I", false)
  | 4 => ("LabelRoads$Packet", "service", "I", false)
  | 5 => ("LabelRoads$Packet", "ttl", "I", false)
  | _ => ("LabelRoads$Packet", "top", "I", false)
def t_Packet : Nat → FieldType := fun k => match k with
  | 0 => .array (.int)
  | 1 => .array (.int)
  | 2 => .int
  | 3 => .int
  | 4 => .int
  | 5 => .int
  | _ => .int
theorem nm_Packet : ∀ a, a < 7 → ∀ b, b < 7 → a ≠ b → (F_Packet a).2.1 ≠ (F_Packet b).2.1 := by decide +kernel
theorem ty_Packet : ∀ k, k < 7 → parseFieldDescriptor (F_Packet k).2.2.1 = some (t_Packet k) := by decide +kernel
abbrev R_Model : String := "LabelRoadsModel"
def F_Model : u_T := fun k => match k with
  | 0 => ("LabelRoadsModel", "code", "I", false)
  | 1 => ("LabelRoadsModel", "n", "I", false)
  | 2 => ("LabelRoadsModel", "cost", "[I", false)
  | 3 => ("LabelRoadsModel", "owner", "[I", false)
  | 4 => ("LabelRoadsModel", "place", "[I", false)
  | 5 => ("LabelRoadsModel", "label", "[I", false)
  | 6 => ("LabelRoadsModel", "told", "[I", false)
  | 7 => ("LabelRoadsModel", "owes", "[Z", false)
  | 8 => ("LabelRoadsModel", "waiting", "I", false)
  | 9 => ("LabelRoadsModel", "lost", "I", false)
  | 10 => ("LabelRoadsModel", "from", "[I", false)
  | 11 => ("LabelRoadsModel", "to", "[I", false)
  | 12 => ("LabelRoadsModel", "kind", "[I", false)
  | 13 => ("LabelRoadsModel", "about", "[I", false)
  | 14 => ("LabelRoadsModel", "which", "[I", false)
  | 15 => ("LabelRoadsModel", "far", "[I", false)
  | 16 => ("LabelRoadsModel", "prefix", "I", false)
  | 17 => ("LabelRoadsModel", "top", "I", false)
  | 18 => ("LabelRoadsModel", "bottom", "I", false)
  | 19 => ("LabelRoadsModel", "time", "I", false)
  | 20 => ("LabelRoadsModel", "bottomTime", "I", false)
  | 21 => ("LabelRoadsModel", "hops", "I", false)
  | 22 => ("LabelRoadsModel", "where", "[I", false)
  | _ => ("LabelRoadsModel", "entries", "[I", false)
def t_Model : Nat → FieldType := fun k => match k with
  | 0 => .int
  | 1 => .int
  | 2 => .array (.int)
  | 3 => .array (.int)
  | 4 => .array (.int)
  | 5 => .array (.int)
  | 6 => .array (.int)
  | 7 => .array (.boolean)
  | 8 => .int
  | 9 => .int
  | 10 => .array (.int)
  | 11 => .array (.int)
  | 12 => .array (.int)
  | 13 => .array (.int)
  | 14 => .array (.int)
  | 15 => .array (.int)
  | 16 => .int
  | 17 => .int
  | 18 => .int
  | 19 => .int
  | 20 => .int
  | 21 => .int
  | 22 => .array (.int)
  | _ => .array (.int)
theorem nm_Model : ∀ a, a < 24 → ∀ b, b < 24 → a ≠ b → (F_Model a).2.1 ≠ (F_Model b).2.1 := by decide +kernel
theorem ty_Model : ∀ k, k < 24 → parseFieldDescriptor (F_Model k).2.2.1 = some (t_Model k) := by decide +kernel
abbrev cls : List vw_C := [(R_LR, F_LR, 6), (R_Ways, F_Ways, 4), (R_Mail, F_Mail, 3), (R_Router, F_Router, 3), (R_Packet, F_Packet, 7), (R_Model, F_Model, 24)]
abbrev tyL (G : Nat → ClassId) : List (ClassId × FieldType) := [(G 0, .int), (G 1, .array .int), (G 2, .object R_Router), (G 3, .boolean), (G 4, .long)]
abbrev cK (n : Nat) : Nat := 16 + 11 * n
def cR0 (n : Nat) (ad : Nat → Nat) (G : Nat → ClassId) (k : Nat) (f : Nat → Int32) : va_E := match k with
  | 0 => .inr (0, [.int (nI n), .ref (ad 1), .ref (ad 5), .ref (ad 7), .ref (ad 8), .ref (ad 9)])
  | 1 => .inr (1, [.int (nI n), .ref (ad 2), .ref (ad 3), .ref (ad 4)])
  | 2 => .inl (G 1, n, .inr (.inr (.inr (.inr (fun i => some (ad (16 + 11 * i + 0)))))))
  | 3 => .inl (G 0, 4, .inl (f))
  | 4 => .inl (G 1, 4, .inr (.inr (.inr (.inr (fun i => some (ad (12 + i)))))))
  | 5 => .inr (2, [.ref (ad 6), .int (f 1), .int (f 2)])
  | 6 => .inl (G 0, 240, .inl (f))
  | 7 => .inl (G 2, n, .inr (.inr (.inr (.inr (fun i => some (ad (16 + 11 * i + 1)))))))
  | 8 => .inl (G 0, 4, .inl (f))
  | 9 => .inr (4, [.ref (ad 10), .ref (ad 11), .int (f 2), .int (f 3), .int (f 4), .int (f 5), .int (f 6)])
  | 10 => .inl (G 0, 255, .inl (f))
  | 11 => .inl (G 0, 255, .inl (f))
  | _ => .inl (G 0, n, .inl f)
def cR1 (n : Nat) (ad : Nat → Nat) (G : Nat → ClassId) (r j : Nat) (f : Nat → Int32) : va_E := match j with
  | 0 => .inl (G 0, n, .inl (f))
  | 1 => .inr (3, [.ref (ad (16 + 11 * r + 2)), .ref (ad (16 + 11 * r + 3)), .ref (ad (16 + 11 * r + 4))])
  | 2 => .inl (G 0, 4, .inl (f))
  | 3 => .inl (G 1, 6, .inr (.inr (.inr (.inr (fun i => some (ad (16 + 11 * r + (i + 5))))))))
  | 4 => .inl (G 0, 8, .inl (f))
  | _ => .inl (G 0, 4, .inl f)
def cR (n : Nat) (ad : Nat → Nat) (G : Nat → ClassId) (k : Nat) (f : Nat → Int32) : va_E := if k < 16 then cR0 n ad G k f else cR1 n ad G ((k - 16) / 11) ((k - 16) % 11) f
def ctg (k : Nat) : Nat := if k < 12 then k else if k < 16 then 12 else if (k - 16) % 11 < 5 then 16 + (k - 16) % 11 else 21
def cpa (k : Nat) : Nat := if k < 12 then 0 else if k < 16 then k - 12 else (k - 16) / 11
def cpb (k : Nat) : Nat := if k < 16 then 0 else (k - 16) % 11 - 5
abbrev cE (n : Nat) (ad : Nat → Nat) (G : Nat → ClassId) (M : Mem) : Nat → va_E := me ctg cpa cpb (cR n ad G) M
abbrev cW (n : Nat) (ad : Nat → Nat) (G : Nat → ClassId) (M : Mem) : va_W := wl (cK n) ad (cE n ad G M)
abbrev cB (D : va_G) (n : Nat) (ad : Nat → Nat) (G : Nat → ClassId) (M : Mem) : State → Prop := wl_B D cls (tyL G) (cK n) ad (cE n ad G M)
theorem cJ {n : Nat} : mj (cK n) ctg cpa cpb := by
  intro i j _ _ h1 h2 h3
  unfold ctg at h1
  unfold cpa at h2
  unfold cpb at h3
  repeat' split at h1
  all_goals (repeat' split at h2)
  all_goals (repeat' split at h3)
  all_goals omega
theorem cR_r {n : Nat} {ad : Nat → Nat} {G : Nat → ClassId} {r j : Nat} {f : Nat → Int32} (hj : j < 11) : cR n ad G (16 + 11 * r + j) f = cR1 n ad G r j f := by
  unfold cR
  rw [if_neg (by omega), show (16 + 11 * r + j - 16) / 11 = r by omega, show (16 + 11 * r + j - 16) % 11 = j by omega]
theorem ct_r {r j : Nat} (hj : j < 11) : ctg (16 + 11 * r + j) = (if j < 5 then 16 + j else 21) ∧ cpa (16 + 11 * r + j) = r ∧ cpb (16 + 11 * r + j) = j - 5 := by
  unfold ctg cpa cpb
  rw [if_neg (show ¬ 16 + 11 * r + j < 12 by omega), if_neg (show ¬ 16 + 11 * r + j < 16 by omega), if_neg (show ¬ 16 + 11 * r + j < 12 by omega), if_neg (show ¬ 16 + 11 * r + j < 16 by omega), if_neg (show ¬ 16 + 11 * r + j < 16 by omega), show (16 + 11 * r + j - 16) / 11 = r by omega, show (16 + 11 * r + j - 16) % 11 = j by omega]
  exact ⟨rfl, rfl, rfl⟩
theorem LR_lt {n : Nat} : 0 < cK n := by show 0 < 16 + 11 * n; omega
theorem LR_at {n : Nat} {ad : Nat → Nat} {G : Nat → ClassId} {M : Mem} : cE n ad G M 0 = .inr (0, [.int (nI n), .ref (ad 1), .ref (ad 5), .ref (ad 7), .ref (ad 8), .ref (ad 9)]) := rfl
abbrev LR_fs (n : Nat) (ad : Nat → Nat) (f : Nat → Int32) : List Value := [.int (nI n), .ref (ad 1), .ref (ad 5), .ref (ad 7), .ref (ad 8), .ref (ad 9)]
theorem Ways_lt {n : Nat} : 1 < cK n := by show 1 < 16 + 11 * n; omega
theorem Ways_at {n : Nat} {ad : Nat → Nat} {G : Nat → ClassId} {M : Mem} : cE n ad G M 1 = .inr (1, [.int (nI n), .ref (ad 2), .ref (ad 3), .ref (ad 4)]) := rfl
abbrev Ways_fs (n : Nat) (ad : Nat → Nat) (f : Nat → Int32) : List Value := [.int (nI n), .ref (ad 2), .ref (ad 3), .ref (ad 4)]
theorem CO_lt {n : Nat} : 2 < cK n := by show 2 < 16 + 11 * n; omega
theorem CO_at {n : Nat} {ad : Nat → Nat} {G : Nat → ClassId} {M : Mem} : cE n ad G M 2 = .inl (G 1, n, .inr (.inr (.inr (.inr (fun i => some (ad (16 + 11 * i + 0))))))) := rfl
theorem OW_lt {n : Nat} : 3 < cK n := by show 3 < 16 + 11 * n; omega
theorem OW_at {n : Nat} {ad : Nat → Nat} {G : Nat → ClassId} {M : Mem} : cE n ad G M 3 = .inl (G 0, 4, .inl (M 3 0 0)) := rfl
theorem OW_tg : ctg 3 = 3 ∧ cpa 3 = 0 ∧ cpb 3 = 0 := ⟨rfl, rfl, rfl⟩
theorem OW_row {n : Nat} {ad : Nat → Nat} {G : Nat → ClassId} (f : Nat → Int32) : cR n ad G 3 f = .inl (G 0, 4, .inl f) := rfl
theorem DO_lt {n : Nat} : 4 < cK n := by show 4 < 16 + 11 * n; omega
theorem DO_at {n : Nat} {ad : Nat → Nat} {G : Nat → ClassId} {M : Mem} : cE n ad G M 4 = .inl (G 1, 4, .inr (.inr (.inr (.inr (fun i => some (ad (12 + i))))))) := rfl
theorem Mail_lt {n : Nat} : 5 < cK n := by show 5 < 16 + 11 * n; omega
theorem Mail_at {n : Nat} {ad : Nat → Nat} {G : Nat → ClassId} {M : Mem} : cE n ad G M 5 = .inr (2, [.ref (ad 6), .int (M 5 0 0 1), .int (M 5 0 0 2)]) := rfl
abbrev Mail_fs (ad : Nat → Nat) (f : Nat → Int32) : List Value := [.ref (ad 6), .int (f 1), .int (f 2)]
theorem MS_lt {n : Nat} : 6 < cK n := by show 6 < 16 + 11 * n; omega
theorem MS_at {n : Nat} {ad : Nat → Nat} {G : Nat → ClassId} {M : Mem} : cE n ad G M 6 = .inl (G 0, 240, .inl (M 6 0 0)) := rfl
theorem MS_tg : ctg 6 = 6 ∧ cpa 6 = 0 ∧ cpb 6 = 0 := ⟨rfl, rfl, rfl⟩
theorem MS_row {n : Nat} {ad : Nat → Nat} {G : Nat → ClassId} (f : Nat → Int32) : cR n ad G 6 f = .inl (G 0, 240, .inl f) := rfl
theorem RA_lt {n : Nat} : 7 < cK n := by show 7 < 16 + 11 * n; omega
theorem RA_at {n : Nat} {ad : Nat → Nat} {G : Nat → ClassId} {M : Mem} : cE n ad G M 7 = .inl (G 2, n, .inr (.inr (.inr (.inr (fun i => some (ad (16 + 11 * i + 1))))))) := rfl
theorem PL_lt {n : Nat} : 8 < cK n := by show 8 < 16 + 11 * n; omega
theorem PL_at {n : Nat} {ad : Nat → Nat} {G : Nat → ClassId} {M : Mem} : cE n ad G M 8 = .inl (G 0, 4, .inl (M 8 0 0)) := rfl
theorem PL_tg : ctg 8 = 8 ∧ cpa 8 = 0 ∧ cpb 8 = 0 := ⟨rfl, rfl, rfl⟩
theorem PL_row {n : Nat} {ad : Nat → Nat} {G : Nat → ClassId} (f : Nat → Int32) : cR n ad G 8 f = .inl (G 0, 4, .inl f) := rfl
theorem PK_lt {n : Nat} : 9 < cK n := by show 9 < 16 + 11 * n; omega
theorem PK_at {n : Nat} {ad : Nat → Nat} {G : Nat → ClassId} {M : Mem} : cE n ad G M 9 = .inr (4, [.ref (ad 10), .ref (ad 11), .int (M 9 0 0 2), .int (M 9 0 0 3), .int (M 9 0 0 4), .int (M 9 0 0 5), .int (M 9 0 0 6)]) := rfl
abbrev Packet_fs (ad : Nat → Nat) (f : Nat → Int32) : List Value := [.ref (ad 10), .ref (ad 11), .int (f 2), .int (f 3), .int (f 4), .int (f 5), .int (f 6)]
theorem TR_lt {n : Nat} : 10 < cK n := by show 10 < 16 + 11 * n; omega
theorem TR_at {n : Nat} {ad : Nat → Nat} {G : Nat → ClassId} {M : Mem} : cE n ad G M 10 = .inl (G 0, 255, .inl (M 10 0 0)) := rfl
theorem TR_tg : ctg 10 = 10 ∧ cpa 10 = 0 ∧ cpb 10 = 0 := ⟨rfl, rfl, rfl⟩
theorem TR_row {n : Nat} {ad : Nat → Nat} {G : Nat → ClassId} (f : Nat → Int32) : cR n ad G 10 f = .inl (G 0, 255, .inl f) := rfl
theorem EN_lt {n : Nat} : 11 < cK n := by show 11 < 16 + 11 * n; omega
theorem EN_at {n : Nat} {ad : Nat → Nat} {G : Nat → ClassId} {M : Mem} : cE n ad G M 11 = .inl (G 0, 255, .inl (M 11 0 0)) := rfl
theorem EN_tg : ctg 11 = 11 ∧ cpa 11 = 0 ∧ cpb 11 = 0 := ⟨rfl, rfl, rfl⟩
theorem EN_row {n : Nat} {ad : Nat → Nat} {G : Nat → ClassId} (f : Nat → Int32) : cR n ad G 11 f = .inl (G 0, 255, .inl f) := rfl
theorem DR_lt {n q : Nat} (h : q < 4) : 12 + q < cK n := by show 12 + q < 16 + 11 * n; omega
theorem DR_tg {q : Nat} (h : q < 4) : ctg (12 + q) = 12 ∧ cpa (12 + q) = q ∧ cpb (12 + q) = 0 := by
  unfold ctg cpa cpb
  rw [if_neg (show ¬ 12 + q < 12 by omega), if_pos (show 12 + q < 16 by omega), if_neg (show ¬ 12 + q < 12 by omega), if_pos (show 12 + q < 16 by omega), if_pos (show 12 + q < 16 by omega)]
  exact ⟨rfl, by omega, rfl⟩
theorem DR_row {n : Nat} {ad : Nat → Nat} {G : Nat → ClassId} {q : Nat} (f : Nat → Int32) (h : q < 4) : cR n ad G (12 + q) f = .inl (G 0, n, .inl f) := by
  rcases (show q = 0 ∨ q = 1 ∨ q = 2 ∨ q = 3 by omega) with rfl | rfl | rfl | rfl <;> rfl
theorem DR_at {n : Nat} {ad : Nat → Nat} {G : Nat → ClassId} {M : Mem} {q : Nat} (h : q < 4) : cE n ad G M (12 + q) = .inl (G 0, n, .inl (M 12 q 0)) := me_at (DR_tg h) (fun f => DR_row f h)
theorem CR_lt {n : Nat} {r : Nat} (h : r < n) : (16 + 11 * r + 0) < cK n := by show (16 + 11 * r + 0) < 16 + 11 * n; omega
theorem CR_tg {n : Nat} {r : Nat} (h : r < n) : ctg (16 + 11 * r + 0) = 16 ∧ cpa (16 + 11 * r + 0) = r ∧ cpb (16 + 11 * r + 0) = 0 := by
  have h9 := ct_r (r := r) (j := 0) (by decide)
  exact h9
theorem CR_row {n : Nat} {ad : Nat → Nat} {G : Nat → ClassId} {r : Nat} (f : Nat → Int32) (h : r < n) : cR n ad G (16 + 11 * r + 0) f = .inl (G 0, n, .inl (f)) := cR_r (by decide)
theorem CR_at {n : Nat} {ad : Nat → Nat} {G : Nat → ClassId} {M : Mem} {r : Nat} (h : r < n) : cE n ad G M (16 + 11 * r + 0) = .inl (G 0, n, .inl (M 16 r 0)) := me_at (CR_tg h) (fun f => CR_row f h)
theorem RT_lt {n : Nat} {r : Nat} (h : r < n) : (16 + 11 * r + 1) < cK n := by show (16 + 11 * r + 1) < 16 + 11 * n; omega
theorem RT_tg {n : Nat} {r : Nat} (h : r < n) : ctg (16 + 11 * r + 1) = 17 ∧ cpa (16 + 11 * r + 1) = r ∧ cpb (16 + 11 * r + 1) = 0 := by
  have h9 := ct_r (r := r) (j := 1) (by decide)
  exact h9
theorem RT_row {n : Nat} {ad : Nat → Nat} {G : Nat → ClassId} {r : Nat} (f : Nat → Int32) (h : r < n) : cR n ad G (16 + 11 * r + 1) f = .inr (3, [.ref (ad (16 + 11 * r + 2)), .ref (ad (16 + 11 * r + 3)), .ref (ad (16 + 11 * r + 4))]) := cR_r (by decide)
theorem RT_at {n : Nat} {ad : Nat → Nat} {G : Nat → ClassId} {M : Mem} {r : Nat} (h : r < n) : cE n ad G M (16 + 11 * r + 1) = .inr (3, [.ref (ad (16 + 11 * r + 2)), .ref (ad (16 + 11 * r + 3)), .ref (ad (16 + 11 * r + 4))]) := me_at (RT_tg h) (fun f => RT_row f h)
theorem LB_lt {n : Nat} {r : Nat} (h : r < n) : (16 + 11 * r + 2) < cK n := by show (16 + 11 * r + 2) < 16 + 11 * n; omega
theorem LB_tg {n : Nat} {r : Nat} (h : r < n) : ctg (16 + 11 * r + 2) = 18 ∧ cpa (16 + 11 * r + 2) = r ∧ cpb (16 + 11 * r + 2) = 0 := by
  have h9 := ct_r (r := r) (j := 2) (by decide)
  exact h9
theorem LB_row {n : Nat} {ad : Nat → Nat} {G : Nat → ClassId} {r : Nat} (f : Nat → Int32) (h : r < n) : cR n ad G (16 + 11 * r + 2) f = .inl (G 0, 4, .inl (f)) := cR_r (by decide)
theorem LB_at {n : Nat} {ad : Nat → Nat} {G : Nat → ClassId} {M : Mem} {r : Nat} (h : r < n) : cE n ad G M (16 + 11 * r + 2) = .inl (G 0, 4, .inl (M 18 r 0)) := me_at (LB_tg h) (fun f => LB_row f h)
theorem TO_lt {n : Nat} {r : Nat} (h : r < n) : (16 + 11 * r + 3) < cK n := by show (16 + 11 * r + 3) < 16 + 11 * n; omega
theorem TO_tg {n : Nat} {r : Nat} (h : r < n) : ctg (16 + 11 * r + 3) = 19 ∧ cpa (16 + 11 * r + 3) = r ∧ cpb (16 + 11 * r + 3) = 0 := by
  have h9 := ct_r (r := r) (j := 3) (by decide)
  exact h9
theorem TO_row {n : Nat} {ad : Nat → Nat} {G : Nat → ClassId} {r : Nat} (f : Nat → Int32) (h : r < n) : cR n ad G (16 + 11 * r + 3) f = .inl (G 1, 6, .inr (.inr (.inr (.inr (fun i => some (ad (16 + 11 * r + (i + 5)))))))) := cR_r (by decide)
theorem TO_at {n : Nat} {ad : Nat → Nat} {G : Nat → ClassId} {M : Mem} {r : Nat} (h : r < n) : cE n ad G M (16 + 11 * r + 3) = .inl (G 1, 6, .inr (.inr (.inr (.inr (fun i => some (ad (16 + 11 * r + (i + 5)))))))) := me_at (TO_tg h) (fun f => TO_row f h)
theorem AW_lt {n : Nat} {r : Nat} (h : r < n) : (16 + 11 * r + 4) < cK n := by show (16 + 11 * r + 4) < 16 + 11 * n; omega
theorem AW_tg {n : Nat} {r : Nat} (h : r < n) : ctg (16 + 11 * r + 4) = 20 ∧ cpa (16 + 11 * r + 4) = r ∧ cpb (16 + 11 * r + 4) = 0 := by
  have h9 := ct_r (r := r) (j := 4) (by decide)
  exact h9
theorem AW_row {n : Nat} {ad : Nat → Nat} {G : Nat → ClassId} {r : Nat} (f : Nat → Int32) (h : r < n) : cR n ad G (16 + 11 * r + 4) f = .inl (G 0, 8, .inl (f)) := cR_r (by decide)
theorem AW_at {n : Nat} {ad : Nat → Nat} {G : Nat → ClassId} {M : Mem} {r : Nat} (h : r < n) : cE n ad G M (16 + 11 * r + 4) = .inl (G 0, 8, .inl (M 20 r 0)) := me_at (AW_tg h) (fun f => AW_row f h)
theorem TD_lt {n : Nat} {r q : Nat} (h : r < n) (h2 : q < 6) : (16 + 11 * r + (q + 5)) < cK n := by show (16 + 11 * r + (q + 5)) < 16 + 11 * n; omega
theorem TD_tg {n : Nat} {r q : Nat} (h : r < n) (h2 : q < 6) : ctg (16 + 11 * r + (q + 5)) = 21 ∧ cpa (16 + 11 * r + (q + 5)) = r ∧ cpb (16 + 11 * r + (q + 5)) = q := by
  have h9 := ct_r (r := r) (j := q + 5) (by omega)
  rw [if_neg (by omega), show q + 5 - 5 = q by omega] at h9
  exact h9
theorem TD_row {n : Nat} {ad : Nat → Nat} {G : Nat → ClassId} {r q : Nat} (f : Nat → Int32) (h : r < n) (h2 : q < 6) : cR n ad G (16 + 11 * r + (q + 5)) f = .inl (G 0, 4, .inl (f)) := cR_r (by omega)
theorem TD_at {n : Nat} {ad : Nat → Nat} {G : Nat → ClassId} {M : Mem} {r q : Nat} (h : r < n) (h2 : q < 6) : cE n ad G M (16 + 11 * r + (q + 5)) = .inl (G 0, 4, .inl (M 21 r q)) := me_at (TD_tg h h2) (fun f => TD_row f h h2)
def tR (ad : Nat → Nat) (G : Nat → ClassId) (k : Nat) (f : Nat → Int32) : va_E := match k with
  | 0 => .inr (5, [.int (f 0), .int (f 1), .ref (ad 1), .ref (ad 2), .ref (ad 3), .ref (ad 4), .ref (ad 5), .ref (ad 6), .int (f 8), .int (f 9), .ref (ad 7), .ref (ad 8), .ref (ad 9), .ref (ad 10), .ref (ad 11), .ref (ad 12), .int (f 16), .int (f 17), .int (f 18), .int (f 19), .int (f 20), .int (f 21), .ref (ad 13), .ref (ad 14)])
  | 1 => .inl (G 0, 36, .inl (f))
  | 2 => .inl (G 0, 4, .inl (f))
  | 3 => .inl (G 0, 4, .inl (f))
  | 4 => .inl (G 0, 24, .inl (f))
  | 5 => .inl (G 0, 144, .inl (f))
  | 6 => .inl (G 3, 288, .inl (f))
  | 7 => .inl (G 0, 240, .inl (f))
  | 8 => .inl (G 0, 240, .inl (f))
  | 9 => .inl (G 0, 240, .inl (f))
  | 10 => .inl (G 0, 240, .inl (f))
  | 11 => .inl (G 0, 240, .inl (f))
  | 12 => .inl (G 0, 6, .inl (f))
  | 13 => .inl (G 0, 300, .inl (f))
  | _ => .inl (G 0, 300, .inl (f))
def tid (k : Nat) : Nat := k
def tz0 (_ : Nat) : Nat := 0
abbrev tE (ad : Nat → Nat) (G : Nat → ClassId) (M : Mem) : Nat → va_E := me tid tz0 tz0 (tR ad G) M
abbrev tW (ad : Nat → Nat) (G : Nat → ClassId) (M : Mem) : va_W := wl 15 ad (tE ad G M)
abbrev tB (D : va_G) (ad : Nat → Nat) (G : Nat → ClassId) (M : Mem) : State → Prop := wl_B D cls (tyL G) 15 ad (tE ad G M)
theorem tJ : mj 15 tid tz0 tz0 := fun _ _ _ _ h _ _ => h
theorem MO_at {ad : Nat → Nat} {G : Nat → ClassId} {M : Mem} : tE ad G M 0 = .inr (5, [.int (M 0 0 0 0), .int (M 0 0 0 1), .ref (ad 1), .ref (ad 2), .ref (ad 3), .ref (ad 4), .ref (ad 5), .ref (ad 6), .int (M 0 0 0 8), .int (M 0 0 0 9), .ref (ad 7), .ref (ad 8), .ref (ad 9), .ref (ad 10), .ref (ad 11), .ref (ad 12), .int (M 0 0 0 16), .int (M 0 0 0 17), .int (M 0 0 0 18), .int (M 0 0 0 19), .int (M 0 0 0 20), .int (M 0 0 0 21), .ref (ad 13), .ref (ad 14)]) := rfl
abbrev Model_fs (ad : Nat → Nat) (f : Nat → Int32) : List Value := [.int (f 0), .int (f 1), .ref (ad 1), .ref (ad 2), .ref (ad 3), .ref (ad 4), .ref (ad 5), .ref (ad 6), .int (f 8), .int (f 9), .ref (ad 7), .ref (ad 8), .ref (ad 9), .ref (ad 10), .ref (ad 11), .ref (ad 12), .int (f 16), .int (f 17), .int (f 18), .int (f 19), .int (f 20), .int (f 21), .ref (ad 13), .ref (ad 14)]
theorem COST_at {ad : Nat → Nat} {G : Nat → ClassId} {M : Mem} : tE ad G M 1 = .inl (G 0, 36, .inl (M 1 0 0)) := rfl
theorem COST_row {ad : Nat → Nat} {G : Nat → ClassId} (f : Nat → Int32) : tR ad G 1 f = .inl (G 0, 36, .inl f) := rfl
theorem OWN_at {ad : Nat → Nat} {G : Nat → ClassId} {M : Mem} : tE ad G M 2 = .inl (G 0, 4, .inl (M 2 0 0)) := rfl
theorem OWN_row {ad : Nat → Nat} {G : Nat → ClassId} (f : Nat → Int32) : tR ad G 2 f = .inl (G 0, 4, .inl f) := rfl
theorem PLC_at {ad : Nat → Nat} {G : Nat → ClassId} {M : Mem} : tE ad G M 3 = .inl (G 0, 4, .inl (M 3 0 0)) := rfl
theorem PLC_row {ad : Nat → Nat} {G : Nat → ClassId} (f : Nat → Int32) : tR ad G 3 f = .inl (G 0, 4, .inl f) := rfl
theorem LAB_at {ad : Nat → Nat} {G : Nat → ClassId} {M : Mem} : tE ad G M 4 = .inl (G 0, 24, .inl (M 4 0 0)) := rfl
theorem LAB_row {ad : Nat → Nat} {G : Nat → ClassId} (f : Nat → Int32) : tR ad G 4 f = .inl (G 0, 24, .inl f) := rfl
theorem TLD_at {ad : Nat → Nat} {G : Nat → ClassId} {M : Mem} : tE ad G M 5 = .inl (G 0, 144, .inl (M 5 0 0)) := rfl
theorem TLD_row {ad : Nat → Nat} {G : Nat → ClassId} (f : Nat → Int32) : tR ad G 5 f = .inl (G 0, 144, .inl f) := rfl
theorem OWE_at {ad : Nat → Nat} {G : Nat → ClassId} {M : Mem} : tE ad G M 6 = .inl (G 3, 288, .inl (M 6 0 0)) := rfl
theorem OWE_row {ad : Nat → Nat} {G : Nat → ClassId} (f : Nat → Int32) : tR ad G 6 f = .inl (G 3, 288, .inl f) := rfl
theorem FROM_at {ad : Nat → Nat} {G : Nat → ClassId} {M : Mem} : tE ad G M 7 = .inl (G 0, 240, .inl (M 7 0 0)) := rfl
theorem FROM_row {ad : Nat → Nat} {G : Nat → ClassId} (f : Nat → Int32) : tR ad G 7 f = .inl (G 0, 240, .inl f) := rfl
theorem TOO_at {ad : Nat → Nat} {G : Nat → ClassId} {M : Mem} : tE ad G M 8 = .inl (G 0, 240, .inl (M 8 0 0)) := rfl
theorem TOO_row {ad : Nat → Nat} {G : Nat → ClassId} (f : Nat → Int32) : tR ad G 8 f = .inl (G 0, 240, .inl f) := rfl
theorem KIND_at {ad : Nat → Nat} {G : Nat → ClassId} {M : Mem} : tE ad G M 9 = .inl (G 0, 240, .inl (M 9 0 0)) := rfl
theorem KIND_row {ad : Nat → Nat} {G : Nat → ClassId} (f : Nat → Int32) : tR ad G 9 f = .inl (G 0, 240, .inl f) := rfl
theorem ABO_at {ad : Nat → Nat} {G : Nat → ClassId} {M : Mem} : tE ad G M 10 = .inl (G 0, 240, .inl (M 10 0 0)) := rfl
theorem ABO_row {ad : Nat → Nat} {G : Nat → ClassId} (f : Nat → Int32) : tR ad G 10 f = .inl (G 0, 240, .inl f) := rfl
theorem WHI_at {ad : Nat → Nat} {G : Nat → ClassId} {M : Mem} : tE ad G M 11 = .inl (G 0, 240, .inl (M 11 0 0)) := rfl
theorem WHI_row {ad : Nat → Nat} {G : Nat → ClassId} (f : Nat → Int32) : tR ad G 11 f = .inl (G 0, 240, .inl f) := rfl
theorem FAR_at {ad : Nat → Nat} {G : Nat → ClassId} {M : Mem} : tE ad G M 12 = .inl (G 0, 6, .inl (M 12 0 0)) := rfl
theorem FAR_row {ad : Nat → Nat} {G : Nat → ClassId} (f : Nat → Int32) : tR ad G 12 f = .inl (G 0, 6, .inl f) := rfl
theorem WHE_at {ad : Nat → Nat} {G : Nat → ClassId} {M : Mem} : tE ad G M 13 = .inl (G 0, 300, .inl (M 13 0 0)) := rfl
theorem WHE_row {ad : Nat → Nat} {G : Nat → ClassId} (f : Nat → Int32) : tR ad G 13 f = .inl (G 0, 300, .inl f) := rfl
theorem ENT_at {ad : Nat → Nat} {G : Nat → ClassId} {M : Mem} : tE ad G M 14 = .inl (G 0, 300, .inl (M 14 0 0)) := rfl
theorem ENT_row {ad : Nat → Nat} {G : Nat → ClassId} (f : Nat → Int32) : tR ad G 14 f = .inl (G 0, 300, .inl f) := rfl
