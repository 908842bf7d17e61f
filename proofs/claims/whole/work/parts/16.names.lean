/-! names, classes, fields; the words that all methods share -/
def gw_all : List Cond := lw_tbl.filter goodWord
theorem gw_mem {w : Cond} (i : Nat) (h : (lw_tbl[i]? == some w && goodWord w) = true) : w ∈ gw_all := by
  rw [Bool.and_eq_true] at h
  have h1 : lw_tbl[i]? = some w := by simpa using h.1
  exact List.mem_filter.mpr ⟨List.mem_of_getElem? h1, h.2⟩
theorem gw_good : ∀ w ∈ gw_all, goodWord w = true := fun w h => (List.mem_filter.mp h).2
theorem gw_ws {R : String} {F : u_T} {N : Nat} (ix : List Nat) (h : (List.range N).all (fun k => lw_tbl[ix.getD k 0]? == some (u_lay R F k) && goodWord (u_lay R F k)) = true) : ∀ w ∈ u_ws R F N, w ∈ gw_all := by
  intro w hw
  obtain ⟨k, hk, rfl⟩ := List.mem_map.mp hw
  exact gw_mem (ix.getD k 0) (List.all_eq_true.mp h k hk)
def hn_R0 : String := "HoleTemplates$Compilation"
def hn_T0 : u_T := fun k => match k with
  | 0 => ("HoleTemplates$Compilation", "symbols", "LHoleTemplates$Symbols;", true)
  | 1 => ("HoleTemplates$Compilation", "context", "LHoleTemplates$Context;", true)
  | 2 => ("HoleTemplates$Compilation", "holeCodes", "[I", true)
  | 3 => ("HoleTemplates$Compilation", "openSymbols", "[I", true)
  | 4 => ("HoleTemplates$Compilation", "openContexts", "[I", true)
  | 5 => ("HoleTemplates$Compilation", "turnContexts", "[I", true)
  | 6 => ("HoleTemplates$Compilation", "openCount", "I", false)
  | 7 => ("HoleTemplates$Compilation", "holeCount", "I", false)
  | 8 => ("HoleTemplates$Compilation", "faultPlace", "I", false)
  | _ => ("HoleTemplates$Compilation", "compiled", "Z", false)
def hn_y0 : Nat → FieldType := fun k => match k with
  | 0 => .object "HoleTemplates$Symbols"
  | 1 => .object "HoleTemplates$Context"
  | 2 => .array .int
  | 3 => .array .int
  | 4 => .array .int
  | 5 => .array .int
  | 6 => .int
  | 7 => .int
  | 8 => .int
  | _ => .boolean
theorem hn_nm0 : ∀ a, a < 10 → ∀ b, b < 10 → a ≠ b → (hn_T0 a).2.1 ≠ (hn_T0 b).2.1 := by decide +kernel
theorem hn_ok0 : ∀ k, k < 10 → parseFieldDescriptor (hn_T0 k).2.2.1 = some (hn_y0 k) := by decide +kernel
theorem hn_in0 : ∀ w ∈ u_ws hn_R0 hn_T0 10, w ∈ gw_all := gw_ws [230, 232, 234, 236, 238, 240, 242, 244, 246, 248] (by decide +kernel)
def hn_R1 : String := "HoleTemplates$Context"
def hn_T1 : u_T := fun k => match k with
  | 0 => ("HoleTemplates$Context", "name", "I", false)
  | 1 => ("HoleTemplates$Context", "element", "I", false)
  | 2 => ("HoleTemplates$Context", "quote", "C", false)
  | 3 => ("HoleTemplates$Context", "kind", "I", false)
  | _ => ("HoleTemplates$Context", "part", "I", false)
def hn_y1 : Nat → FieldType := fun k => match k with
  | 0 => .int
  | 1 => .int
  | 2 => .char
  | 3 => .int
  | _ => .int
theorem hn_nm1 : ∀ a, a < 5 → ∀ b, b < 5 → a ≠ b → (hn_T1 a).2.1 ≠ (hn_T1 b).2.1 := by decide +kernel
theorem hn_ok1 : ∀ k, k < 5 → parseFieldDescriptor (hn_T1 k).2.2.1 = some (hn_y1 k) := by decide +kernel
theorem hn_in1 : ∀ w ∈ u_ws hn_R1 hn_T1 5, w ∈ gw_all := gw_ws [205, 207, 209, 211, 213] (by decide +kernel)
def hn_R2 : String := "HoleTemplates$Items"
def hn_T2 : u_T := fun k => match k with
  | 0 => ("HoleTemplates$Items", "chars", "[C", true)
  | 1 => ("HoleTemplates$Items", "lengths", "[I", true)
  | 2 => ("HoleTemplates$Items", "counts", "[I", true)
  | _ => ("HoleTemplates$Items", "alone", "[I", true)
def hn_y2 : Nat → FieldType := fun k => match k with
  | 0 => .array .char
  | 1 => .array .int
  | 2 => .array .int
  | _ => .array .int
theorem hn_nm2 : ∀ a, a < 4 → ∀ b, b < 4 → a ≠ b → (hn_T2 a).2.1 ≠ (hn_T2 b).2.1 := by decide +kernel
theorem hn_ok2 : ∀ k, k < 4 → parseFieldDescriptor (hn_T2 k).2.2.1 = some (hn_y2 k) := by decide +kernel
theorem hn_in2 : ∀ w ∈ u_ws hn_R2 hn_T2 4, w ∈ gw_all := gw_ws [134, 136, 138, 140] (by decide +kernel)
def hn_R3 : String := "HoleTemplates$Pieces"
def hn_T3 : u_T := fun _ => ("", "", "", false)
def hn_y3 : Nat → FieldType := fun _ => .int
theorem hn_nm3 : ∀ a, a < 0 → ∀ b, b < 0 → a ≠ b → (hn_T3 a).2.1 ≠ (hn_T3 b).2.1 := by decide +kernel
theorem hn_ok3 : ∀ k, k < 0 → parseFieldDescriptor (hn_T3 k).2.2.1 = some (hn_y3 k) := by decide +kernel
theorem hn_in3 : ∀ w ∈ u_ws hn_R3 hn_T3 0, w ∈ gw_all := gw_ws [] (by decide +kernel)
def hn_R4 : String := "HoleTemplates$Signs"
def hn_T4 : u_T := fun _ => ("", "", "", false)
def hn_y4 : Nat → FieldType := fun _ => .int
theorem hn_nm4 : ∀ a, a < 0 → ∀ b, b < 0 → a ≠ b → (hn_T4 a).2.1 ≠ (hn_T4 b).2.1 := by decide +kernel
theorem hn_ok4 : ∀ k, k < 0 → parseFieldDescriptor (hn_T4 k).2.2.1 = some (hn_y4 k) := by decide +kernel
theorem hn_in4 : ∀ w ∈ u_ws hn_R4 hn_T4 0, w ∈ gw_all := gw_ws [] (by decide +kernel)
def hn_R5 : String := "HoleTemplates$Symbols"
def hn_T5 : u_T := fun k => match k with
  | 0 => ("HoleTemplates$Symbols", "kinds", "[I", true)
  | 1 => ("HoleTemplates$Symbols", "signs", "[C", true)
  | 2 => ("HoleTemplates$Symbols", "variables", "[I", true)
  | 3 => ("HoleTemplates$Symbols", "places", "[I", true)
  | 4 => ("HoleTemplates$Symbols", "turns", "[I", true)
  | 5 => ("HoleTemplates$Symbols", "closes", "[I", true)
  | 6 => ("HoleTemplates$Symbols", "codes", "[I", true)
  | 7 => ("HoleTemplates$Symbols", "count", "I", false)
  | _ => ("HoleTemplates$Symbols", "templateLength", "I", false)
def hn_y5 : Nat → FieldType := fun k => match k with
  | 0 => .array .int
  | 1 => .array .char
  | 2 => .array .int
  | 3 => .array .int
  | 4 => .array .int
  | 5 => .array .int
  | 6 => .array .int
  | 7 => .int
  | _ => .int
theorem hn_nm5 : ∀ a, a < 9 → ∀ b, b < 9 → a ≠ b → (hn_T5 a).2.1 ≠ (hn_T5 b).2.1 := by decide +kernel
theorem hn_ok5 : ∀ k, k < 9 → parseFieldDescriptor (hn_T5 k).2.2.1 = some (hn_y5 k) := by decide +kernel
theorem hn_in5 : ∀ w ∈ u_ws hn_R5 hn_T5 9, w ∈ gw_all := gw_ws [168, 170, 172, 174, 176, 178, 180, 182, 184] (by decide +kernel)
def hn_R6 : String := "HoleTemplates$Text"
def hn_T6 : u_T := fun k => match k with
  | 0 => ("HoleTemplates$Text", "chars", "[C", true)
  | 1 => ("HoleTemplates$Text", "length", "I", false)
  | _ => ("HoleTemplates$Text", "spilled", "Z", false)
def hn_y6 : Nat → FieldType := fun k => match k with
  | 0 => .array .char
  | 1 => .int
  | _ => .boolean
theorem hn_nm6 : ∀ a, a < 3 → ∀ b, b < 3 → a ≠ b → (hn_T6 a).2.1 ≠ (hn_T6 b).2.1 := by decide +kernel
theorem hn_ok6 : ∀ k, k < 3 → parseFieldDescriptor (hn_T6 k).2.2.1 = some (hn_y6 k) := by decide +kernel
theorem hn_in6 : ∀ w ∈ u_ws hn_R6 hn_T6 3, w ∈ gw_all := gw_ws [116, 118, 120] (by decide +kernel)
def hn_R7 : String := "HoleTemplates$Values"
def hn_T7 : u_T := fun _ => ("", "", "", false)
def hn_y7 : Nat → FieldType := fun _ => .int
theorem hn_nm7 : ∀ a, a < 0 → ∀ b, b < 0 → a ≠ b → (hn_T7 a).2.1 ≠ (hn_T7 b).2.1 := by decide +kernel
theorem hn_ok7 : ∀ k, k < 0 → parseFieldDescriptor (hn_T7 k).2.2.1 = some (hn_y7 k) := by decide +kernel
theorem hn_in7 : ∀ w ∈ u_ws hn_R7 hn_T7 0, w ∈ gw_all := gw_ws [] (by decide +kernel)
def hn_R8 : String := "HoleTemplates$Writer"
def hn_T8 : u_T := fun k => match k with
  | _ => ("HoleTemplates$Writer", "out", "LHoleTemplates$Text;", true)
def hn_y8 : Nat → FieldType := fun k => match k with
  | _ => .object "HoleTemplates$Text"
theorem hn_nm8 : ∀ a, a < 1 → ∀ b, b < 1 → a ≠ b → (hn_T8 a).2.1 ≠ (hn_T8 b).2.1 := by decide +kernel
theorem hn_ok8 : ∀ k, k < 1 → parseFieldDescriptor (hn_T8 k).2.2.1 = some (hn_y8 k) := by decide +kernel
theorem hn_in8 : ∀ w ∈ u_ws hn_R8 hn_T8 1, w ∈ gw_all := gw_ws [261] (by decide +kernel)
def hn_R9 : String := "HoleTemplates"
def hn_T9 : u_T := fun k => match k with
  | 0 => ("HoleTemplates", "row", "LHoleTemplates$Text;", true)
  | 1 => ("HoleTemplates", "template", "LHoleTemplates$Text;", true)
  | 2 => ("HoleTemplates", "items", "LHoleTemplates$Items;", true)
  | 3 => ("HoleTemplates", "compilation", "LHoleTemplates$Compilation;", true)
  | _ => ("HoleTemplates", "writer", "LHoleTemplates$Writer;", true)
def hn_y9 : Nat → FieldType := fun k => match k with
  | 0 => .object "HoleTemplates$Text"
  | 1 => .object "HoleTemplates$Text"
  | 2 => .object "HoleTemplates$Items"
  | 3 => .object "HoleTemplates$Compilation"
  | _ => .object "HoleTemplates$Writer"
theorem hn_nm9 : ∀ a, a < 5 → ∀ b, b < 5 → a ≠ b → (hn_T9 a).2.1 ≠ (hn_T9 b).2.1 := by decide +kernel
theorem hn_ok9 : ∀ k, k < 5 → parseFieldDescriptor (hn_T9 k).2.2.1 = some (hn_y9 k) := by decide +kernel
theorem hn_in9 : ∀ w ∈ u_ws hn_R9 hn_T9 5, w ∈ gw_all := gw_ws [269, 271, 273, 275, 277] (by decide +kernel)
def hn_R10 : String := "HoleTemplatesModel"
def hn_T10 : u_T := fun k => match k with
  | 0 => ("HoleTemplatesModel", "thrown", "I", false)
  | 1 => ("HoleTemplatesModel", "typed", "I", false)
  | 2 => ("HoleTemplatesModel", "row", "[C", false)
  | 3 => ("HoleTemplatesModel", "length", "I", false)
  | 4 => ("HoleTemplatesModel", "template", "[C", false)
  | 5 => ("HoleTemplatesModel", "symbols", "I", false)
  | 6 => ("HoleTemplatesModel", "sort", "[I", false)
  | 7 => ("HoleTemplatesModel", "sign", "[C", false)
  | 8 => ("HoleTemplatesModel", "place", "[I", false)
  | 9 => ("HoleTemplatesModel", "marked", "[I", false)
  | 10 => ("HoleTemplatesModel", "other", "[I", false)
  | 11 => ("HoleTemplatesModel", "closing", "[I", false)
  | 12 => ("HoleTemplatesModel", "opener", "[I", false)
  | 13 => ("HoleTemplatesModel", "compiled", "Z", false)
  | 14 => ("HoleTemplatesModel", "fault", "I", false)
  | 15 => ("HoleTemplatesModel", "holes", "I", false)
  | 16 => ("HoleTemplatesModel", "contexts", "[I", false)
  | 17 => ("HoleTemplatesModel", "context", "I", false)
  | 18 => ("HoleTemplatesModel", "element", "I", false)
  | 19 => ("HoleTemplatesModel", "quote", "C", false)
  | 20 => ("HoleTemplatesModel", "kind", "I", false)
  | 21 => ("HoleTemplatesModel", "part", "I", false)
  | 22 => ("HoleTemplatesModel", "open", "I", false)
  | 23 => ("HoleTemplatesModel", "opened", "[I", false)
  | 24 => ("HoleTemplatesModel", "before", "[I", false)
  | 25 => ("HoleTemplatesModel", "ended", "[I", false)
  | 26 => ("HoleTemplatesModel", "divided", "[Z", false)
  | 27 => ("HoleTemplatesModel", "counts", "[I", false)
  | 28 => ("HoleTemplatesModel", "lengths", "[I", false)
  | 29 => ("HoleTemplatesModel", "items", "[C", false)
  | 30 => ("HoleTemplatesModel", "alone", "[I", false)
  | 31 => ("HoleTemplatesModel", "deep", "I", false)
  | 32 => ("HoleTemplatesModel", "loops", "[I", false)
  | 33 => ("HoleTemplatesModel", "saved", "[I", false)
  | 34 => ("HoleTemplatesModel", "size", "I", false)
  | 35 => ("HoleTemplatesModel", "out", "[C", false)
  | _ => ("HoleTemplatesModel", "full", "Z", false)
def hn_y10 : Nat → FieldType := fun k => match k with
  | 0 => .int
  | 1 => .int
  | 2 => .array .char
  | 3 => .int
  | 4 => .array .char
  | 5 => .int
  | 6 => .array .int
  | 7 => .array .char
  | 8 => .array .int
  | 9 => .array .int
  | 10 => .array .int
  | 11 => .array .int
  | 12 => .array .int
  | 13 => .boolean
  | 14 => .int
  | 15 => .int
  | 16 => .array .int
  | 17 => .int
  | 18 => .int
  | 19 => .char
  | 20 => .int
  | 21 => .int
  | 22 => .int
  | 23 => .array .int
  | 24 => .array .int
  | 25 => .array .int
  | 26 => .array .boolean
  | 27 => .array .int
  | 28 => .array .int
  | 29 => .array .char
  | 30 => .array .int
  | 31 => .int
  | 32 => .array .int
  | 33 => .array .int
  | 34 => .int
  | 35 => .array .char
  | _ => .boolean
theorem hn_nm10 : ∀ a, a < 37 → ∀ b, b < 37 → a ≠ b → (hn_T10 a).2.1 ≠ (hn_T10 b).2.1 := by decide +kernel
theorem hn_ok10 : ∀ k, k < 37 → parseFieldDescriptor (hn_T10 k).2.2.1 = some (hn_y10 k) := by decide +kernel
theorem hn_in10 : ∀ w ∈ u_ws hn_R10 hn_T10 37, w ∈ gw_all := gw_ws [1009, 1011, 1013, 1015, 1017, 1019, 1021, 1023, 1025, 1027, 1029, 1031, 1033, 1035, 1037, 1039, 1041, 1043, 1045, 1047, 1049, 1051, 1053, 1055, 1057, 1059, 1061, 1063, 1065, 1067, 1069, 1071, 1073, 1075, 1077, 1079, 1081] (by decide +kernel)
abbrev hn_cl : List vw_C := [(hn_R0, hn_T0, 10), (hn_R1, hn_T1, 5), (hn_R2, hn_T2, 4), (hn_R9, hn_T3, 0), (hn_R9, hn_T4, 0), (hn_R5, hn_T5, 9), (hn_R6, hn_T6, 3), (hn_R9, hn_T7, 0), (hn_R8, hn_T8, 1), (hn_R9, hn_T9, 5), (hn_R10, hn_T10, 37)]
def hn_ty (c k : Nat) : FieldType := match c with
  | 0 => hn_y0 k
  | 1 => hn_y1 k
  | 2 => hn_y2 k
  | 3 => hn_y3 k
  | 4 => hn_y4 k
  | 5 => hn_y5 k
  | 6 => hn_y6 k
  | 7 => hn_y7 k
  | 8 => hn_y8 k
  | 9 => hn_y9 k
  | _ => hn_y10 k
/-- first values -/
def hn_d0 : List am_V := [.inr (.inr 0), .inr (.inr 0), .inr (.inr 0), .inr (.inr 0), .inr (.inr 0), .inr (.inr 0), .inl 0, .inl 0, .inl 0, .inl 0]
def hn_d1 : List am_V := [.inl 0, .inl 0, .inl 0, .inl 0, .inl 0]
def hn_d2 : List am_V := [.inr (.inr 0), .inr (.inr 0), .inr (.inr 0), .inr (.inr 0)]
def hn_d3 : List am_V := []
def hn_d4 : List am_V := []
def hn_d5 : List am_V := [.inr (.inr 0), .inr (.inr 0), .inr (.inr 0), .inr (.inr 0), .inr (.inr 0), .inr (.inr 0), .inr (.inr 0), .inl 0, .inl 0]
def hn_d6 : List am_V := [.inr (.inr 0), .inl 0, .inl 0]
def hn_d7 : List am_V := []
def hn_d8 : List am_V := [.inr (.inr 0)]
def hn_d9 : List am_V := [.inr (.inr 0), .inr (.inr 0), .inr (.inr 0), .inr (.inr 0), .inr (.inr 0)]
def hn_d10 : List am_V := [.inl 0, .inl 0, .inr (.inr 0), .inl 0, .inr (.inr 0), .inl 0, .inr (.inr 0), .inr (.inr 0), .inr (.inr 0), .inr (.inr 0), .inr (.inr 0), .inr (.inr 0), .inr (.inr 0), .inl 0, .inl 0, .inl 0, .inr (.inr 0), .inl 0, .inl 0, .inl 0, .inl 0, .inl 0, .inl 0, .inr (.inr 0), .inr (.inr 0), .inr (.inr 0), .inr (.inr 0), .inr (.inr 0), .inr (.inr 0), .inr (.inr 0), .inr (.inr 0), .inl 0, .inr (.inr 0), .inr (.inr 0), .inl 0, .inr (.inr 0), .inl 0]
