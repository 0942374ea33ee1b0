def qT0 : u_T := fun k => match k with
  | 0 => ("CarelessMist$Common", "list", "[I", true)
  | 1 => ("CarelessMist$Common", "things", "[[I", true)
  | 2 => ("CarelessMist$Common", "walkers", "[[I", true)
  | 3 => ("CarelessMist$Common", "spots", "[I", true)
  | 4 => ("CarelessMist$Common", "thingCount", "I", false)
  | 5 => ("CarelessMist$Common", "walkerCount", "I", false)
  | 6 => ("CarelessMist$Common", "day", "I", false)
  | _ => ("CarelessMist$Common", "z", "I", false)
def qt0 : Nat → FieldType := fun k => match k with
  | 0 => .array .int
  | 1 => .array (.array .int)
  | 2 => .array (.array .int)
  | 3 => .array .int
  | 4 => .int
  | 5 => .int
  | 6 => .int
  | _ => .int
theorem qn0 : ∀ a, a < 8 → ∀ b, b < 8 → a ≠ b → (qT0 a).2.1 ≠ (qT0 b).2.1 := by decide +kernel
theorem qp0 : ∀ k, k < 8 → parseFieldDescriptor (qT0 k).2.2.1 = some (qt0 k) := by decide +kernel
theorem qi0 : ∀ w ∈ u_ws "CarelessMist$Common" qT0 8, w ∈ lw_tbl := by decide +kernel
def qT1 : u_T := fun k => match k with
  | 0 => ("CarelessMist$Sheet", "numbers", "[I", true)
  | 1 => ("CarelessMist$Sheet", "bits", "I", false)
  | _ => ("CarelessMist$Sheet", "size", "I", false)
def qt1 : Nat → FieldType := fun k => match k with
  | 0 => .array .int
  | 1 => .int
  | _ => .int
theorem qn1 : ∀ a, a < 3 → ∀ b, b < 3 → a ≠ b → (qT1 a).2.1 ≠ (qT1 b).2.1 := by decide +kernel
theorem qp1 : ∀ k, k < 3 → parseFieldDescriptor (qT1 k).2.2.1 = some (qt1 k) := by decide +kernel
theorem qi1 : ∀ w ∈ u_ws "CarelessMist$Sheet" qT1 3, w ∈ lw_tbl := by decide +kernel
def qT2 : u_T := fun k => match k with
  | 0 => ("CarelessMist$Tape", "bytes", "[I", true)
  | 1 => ("CarelessMist$Tape", "length", "I", false)
  | 2 => ("CarelessMist$Tape", "next", "I", false)
  | 3 => ("CarelessMist$Tape", "token", "I", false)
  | 4 => ("CarelessMist$Tape", "start", "I", false)
  | _ => ("CarelessMist$Tape", "number", "I", false)
def qt2 : Nat → FieldType := fun k => match k with
  | 0 => .array .int
  | 1 => .int
  | 2 => .int
  | 3 => .int
  | 4 => .int
  | _ => .int
theorem qn2 : ∀ a, a < 6 → ∀ b, b < 6 → a ≠ b → (qT2 a).2.1 ≠ (qT2 b).2.1 := by decide +kernel
theorem qp2 : ∀ k, k < 6 → parseFieldDescriptor (qT2 k).2.2.1 = some (qt2 k) := by decide +kernel
theorem qi2 : ∀ w ∈ u_ws "CarelessMist$Tape" qT2 6, w ∈ lw_tbl := by decide +kernel
def qT3 : u_T := fun k => match k with
  | 0 => ("CarelessMist", "common", "LCarelessMist$Common;", true)
  | 1 => ("CarelessMist", "kept", "LCarelessMist$Common;", true)
  | 2 => ("CarelessMist", "trial", "LCarelessMist$Common;", true)
  | 3 => ("CarelessMist", "isKept", "Z", false)
  | 4 => ("CarelessMist", "tape", "LCarelessMist$Tape;", true)
  | 5 => ("CarelessMist", "sheets", "[LCarelessMist$Sheet;", true)
  | _ => ("CarelessMist", "findings", "[I", true)
def qt3 : Nat → FieldType := fun k => match k with
  | 0 => .object "CarelessMist$Common"
  | 1 => .object "CarelessMist$Common"
  | 2 => .object "CarelessMist$Common"
  | 3 => .boolean
  | 4 => .object "CarelessMist$Tape"
  | 5 => .array (.object "CarelessMist$Sheet")
  | _ => .array .int
theorem qn3 : ∀ a, a < 7 → ∀ b, b < 7 → a ≠ b → (qT3 a).2.1 ≠ (qT3 b).2.1 := by decide +kernel
theorem qp3 : ∀ k, k < 7 → parseFieldDescriptor (qT3 k).2.2.1 = some (qt3 k) := by decide +kernel
theorem qi3 : ∀ w ∈ u_ws "CarelessMist" qT3 7, w ∈ lw_tbl := by decide +kernel
def qT4 : u_T := fun k => match k with
  | 0 => ("CarelessMistModel", "now", "[I", true)
  | 1 => ("CarelessMistModel", "kept", "[I", true)
  | 2 => ("CarelessMistModel", "aside", "[I", true)
  | 3 => ("CarelessMistModel", "isKept", "Z", false)
  | 4 => ("CarelessMistModel", "found", "[I", true)
  | 5 => ("CarelessMistModel", "tape", "[I", true)
  | 6 => ("CarelessMistModel", "taped", "I", false)
  | 7 => ("CarelessMistModel", "begins", "I", false)
  | 8 => ("CarelessMistModel", "ends", "I", false)
  | 9 => ("CarelessMistModel", "sort", "I", false)
  | 10 => ("CarelessMistModel", "value", "I", false)
  | 11 => ("CarelessMistModel", "isWrong", "Z", false)
  | 12 => ("CarelessMistModel", "kindNames", "[Ljava/lang/String;", true)
  | 13 => ("CarelessMistModel", "items", "[I", true)
  | 14 => ("CarelessMistModel", "itemMany", "I", false)
  | 15 => ("CarelessMistModel", "thingsThen", "I", false)
  | 16 => ("CarelessMistModel", "walkersThen", "I", false)
  | 17 => ("CarelessMistModel", "widths", "[I", true)
  | 18 => ("CarelessMistModel", "sizes", "[I", true)
  | 19 => ("CarelessMistModel", "numbers", "[I", true)
  | _ => ("CarelessMistModel", "moved", "[I", true)
def qt4 : Nat → FieldType := fun k => match k with
  | 0 => .array .int
  | 1 => .array .int
  | 2 => .array .int
  | 3 => .boolean
  | 4 => .array .int
  | 5 => .array .int
  | 6 => .int
  | 7 => .int
  | 8 => .int
  | 9 => .int
  | 10 => .int
  | 11 => .boolean
  | 12 => .array (.object "java/lang/String")
  | 13 => .array .int
  | 14 => .int
  | 15 => .int
  | 16 => .int
  | 17 => .array .int
  | 18 => .array .int
  | 19 => .array .int
  | _ => .array .int
theorem qn4 : ∀ a, a < 21 → ∀ b, b < 21 → a ≠ b → (qT4 a).2.1 ≠ (qT4 b).2.1 := by decide +kernel
theorem qp4 : ∀ k, k < 21 → parseFieldDescriptor (qT4 k).2.2.1 = some (qt4 k) := by decide +kernel
theorem qi4 : ∀ w ∈ u_ws "CarelessMistModel" qT4 21, w ∈ lw_tbl := by decide +kernel
abbrev vwC : List vw_C := [("CarelessMist$Common", qT0, 8), ("CarelessMist$Sheet", qT1, 3), ("CarelessMist$Tape", qT2, 6), ("CarelessMist", qT3, 7), ("CarelessMistModel", qT4, 21)]
abbrev QD : Type := (Nat × (Nat × Nat)) ⊕ ((Nat × List (Nat ⊕ (Nat × Nat))) ⊕ (Nat × List Nat))
def dsT : List QD := [
  .inr (.inl (3, [.inl 1, .inl 20, .inl 39, .inr (3, 3), .inl 58, .inl 60, .inl 69])),
  .inr (.inl (0, [.inl 2, .inl 3, .inl 4, .inl 5, .inr (0, 1), .inr (0, 3), .inr (0, 0), .inr (0, 2)])),
  .inl (0, (4, 6)),
  .inr (.inr (2, [6, 7, 8, 9, 10, 11, 12, 13])),
  .inr (.inr (2, [14, 15, 16, 17, 18, 19])),
  .inl (0, (10, 10)),
  .inl (0, (20, 3)),
  .inl (0, (23, 3)),
  .inl (0, (26, 3)),
  .inl (0, (29, 3)),
  .inl (0, (32, 3)),
  .inl (0, (35, 3)),
  .inl (0, (38, 3)),
  .inl (0, (41, 3)),
  .inl (0, (44, 6)),
  .inl (0, (50, 6)),
  .inl (0, (56, 6)),
  .inl (0, (62, 6)),
  .inl (0, (68, 6)),
  .inl (0, (74, 6)),
  .inr (.inl (0, [.inl 21, .inl 22, .inl 23, .inl 24, .inr (1, 1), .inr (1, 3), .inr (1, 0), .inr (1, 2)])),
  .inl (1, (4, 6)),
  .inr (.inr (2, [25, 26, 27, 28, 29, 30, 31, 32])),
  .inr (.inr (2, [33, 34, 35, 36, 37, 38])),
  .inl (1, (10, 10)),
  .inl (1, (20, 3)),
  .inl (1, (23, 3)),
  .inl (1, (26, 3)),
  .inl (1, (29, 3)),
  .inl (1, (32, 3)),
  .inl (1, (35, 3)),
  .inl (1, (38, 3)),
  .inl (1, (41, 3)),
  .inl (1, (44, 6)),
  .inl (1, (50, 6)),
  .inl (1, (56, 6)),
  .inl (1, (62, 6)),
  .inl (1, (68, 6)),
  .inl (1, (74, 6)),
  .inr (.inl (0, [.inl 40, .inl 41, .inl 42, .inl 43, .inr (2, 1), .inr (2, 3), .inr (2, 0), .inr (2, 2)])),
  .inl (2, (4, 6)),
  .inr (.inr (2, [44, 45, 46, 47, 48, 49, 50, 51])),
  .inr (.inr (2, [52, 53, 54, 55, 56, 57])),
  .inl (2, (10, 10)),
  .inl (2, (20, 3)),
  .inl (2, (23, 3)),
  .inl (2, (26, 3)),
  .inl (2, (29, 3)),
  .inl (2, (32, 3)),
  .inl (2, (35, 3)),
  .inl (2, (38, 3)),
  .inl (2, (41, 3)),
  .inl (2, (44, 6)),
  .inl (2, (50, 6)),
  .inl (2, (56, 6)),
  .inl (2, (62, 6)),
  .inl (2, (68, 6)),
  .inl (2, (74, 6)),
  .inr (.inl (2, [.inl 59, .inr (4, 1), .inr (4, 2), .inr (4, 3), .inr (4, 4), .inr (4, 5)])),
  .inl (5, (0, 120)),
  .inr (.inr (1, [61, 62, 63, 64])),
  .inr (.inl (1, [.inl 65, .inr (6, 1), .inr (6, 2)])),
  .inr (.inl (1, [.inl 66, .inr (7, 1), .inr (7, 2)])),
  .inr (.inl (1, [.inl 67, .inr (8, 1), .inr (8, 2)])),
  .inr (.inl (1, [.inl 68, .inr (9, 1), .inr (9, 2)])),
  .inl (10, (0, 40)),
  .inl (11, (0, 40)),
  .inl (12, (0, 40)),
  .inl (13, (0, 40)),
  .inl (14, (0, 7)),
  .inr (.inl (4, [.inl 71, .inl 72, .inl 73, .inr (15, 3), .inl 74, .inl 75, .inr (15, 6), .inr (15, 7), .inr (15, 8), .inr (15, 9), .inr (15, 10), .inr (15, 11), .inl 76, .inl 77, .inr (15, 14), .inr (15, 15), .inr (15, 16), .inl 78, .inl 79, .inl 80, .inl 81])),
  .inl (16, (0, 80)),
  .inl (17, (0, 80)),
  .inl (18, (0, 80)),
  .inl (19, (0, 8)),
  .inl (20, (0, 120)),
  .inr (.inr (3, [0, 1, 2, 3, 4, 5, 6])),
  .inl (21, (0, 600)),
  .inl (22, (0, 4)),
  .inl (23, (0, 4)),
  .inl (24, (0, 160)),
  .inl (25, (0, 40))]
def qTB : List Cond := lw_tbl.filter goodWord
theorem qTB_in {w : Cond} {i : Nat} (h : lw_tbl[i]? = some w) (g : goodWord w = true) : w ∈ qTB := List.mem_filter.mpr ⟨List.mem_of_getElem? h, g⟩
theorem qTB_good : GoodIn qTB qTB := fun w h => ⟨h, good_of_word (List.mem_filter.mp h).2⟩
theorem qTB_sub : ∀ w ∈ qTB, w ∈ lw_tbl := fun w h => (List.mem_filter.mp h).1
theorem qTB_ws {l : List Cond} (h : ∀ w ∈ l, w ∈ lw_tbl) (g : l.all goodWord = true) : ∀ w ∈ l, w ∈ qTB := fun w hw => List.mem_filter.mpr ⟨h w hw, List.all_eq_true.mp g w hw⟩
theorem qj0 : ∀ w ∈ u_ws "CarelessMist$Common" qT0 8, w ∈ qTB := qTB_ws qi0 (by decide +kernel)
theorem qj1 : ∀ w ∈ u_ws "CarelessMist$Sheet" qT1 3, w ∈ qTB := qTB_ws qi1 (by decide +kernel)
theorem qj2 : ∀ w ∈ u_ws "CarelessMist$Tape" qT2 6, w ∈ qTB := qTB_ws qi2 (by decide +kernel)
theorem qj3 : ∀ w ∈ u_ws "CarelessMist" qT3 7, w ∈ qTB := qTB_ws qi3 (by decide +kernel)
theorem qj4 : ∀ w ∈ u_ws "CarelessMistModel" qT4 21, w ∈ qTB := qTB_ws qi4 (by decide +kernel)
