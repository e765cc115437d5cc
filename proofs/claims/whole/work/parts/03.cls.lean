def TE : u_T := fun k => match k with
  | 0 => ("CarrierText$Edition", "services", "[LCarrierText$Service;", true)
  | 1 => ("CarrierText$Edition", "firstCodes", "[I", true)
  | 2 => ("CarrierText$Edition", "lastCodes", "[I", true)
  | 3 => ("CarrierText$Edition", "codeZones", "[I", true)
  | 4 => ("CarrierText$Edition", "servicesTold", "I", false)
  | 5 => ("CarrierText$Edition", "rangesTold", "I", false)
  | _ => ("CarrierText$Edition", "firstDay", "I", false)
def tyE : Nat → FieldType := fun k => match k with
  | 0 => .array (.object "CarrierText$Service")
  | 1 => .array .int
  | 2 => .array .int
  | 3 => .array .int
  | 4 => .int
  | 5 => .int
  | _ => .int
theorem nmE : ∀ a, a < 7 → ∀ b, b < 7 → a ≠ b → (TE a).2.1 ≠ (TE b).2.1 := by decide +kernel
theorem tyE_ok : ∀ k, k < 7 → parseFieldDescriptor (TE k).2.2.1 = some (tyE k) := by decide +kernel
theorem inE : ∀ w ∈ u_ws "CarrierText$Edition" TE 7, w ∈ lw_tbl := by decide +kernel
def TK : u_T := fun k => match k with
  | 0 => ("CarrierText$Ranking", "letters", "[I", true)
  | 1 => ("CarrierText$Ranking", "prices", "[I", true)
  | _ => ("CarrierText$Ranking", "length", "I", false)
def tyK : Nat → FieldType := fun k => match k with
  | 0 => .array .int
  | 1 => .array .int
  | _ => .int
theorem nmK : ∀ a, a < 3 → ∀ b, b < 3 → a ≠ b → (TK a).2.1 ≠ (TK b).2.1 := by decide +kernel
theorem tyK_ok : ∀ k, k < 3 → parseFieldDescriptor (TK k).2.2.1 = some (tyK k) := by decide +kernel
theorem inK : ∀ w ∈ u_ws "CarrierText$Ranking" TK 3, w ∈ lw_tbl := by decide +kernel
def TR : u_T := fun k => match k with
  | 0 => ("CarrierText$Reader", "text", "LCarrierText$Signs;", true)
  | 1 => ("CarrierText$Reader", "draft", "LCarrierText$Edition;", false)
  | 2 => ("CarrierText$Reader", "place", "I", false)
  | _ => ("CarrierText$Reader", "lastCodeTold", "I", false)
def tyR : Nat → FieldType := fun k => match k with
  | 0 => .object "CarrierText$Signs"
  | 1 => .object "CarrierText$Edition"
  | 2 => .int
  | _ => .int
theorem nmR : ∀ a, a < 4 → ∀ b, b < 4 → a ≠ b → (TR a).2.1 ≠ (TR b).2.1 := by decide +kernel
theorem tyR_ok : ∀ k, k < 4 → parseFieldDescriptor (TR k).2.2.1 = some (tyR k) := by decide +kernel
theorem inR : ∀ w ∈ u_ws "CarrierText$Reader" TR 4, w ∈ lw_tbl := by decide +kernel
def TS : u_T := fun k => match k with
  | 0 => ("CarrierText$Service", "letter", "I", true)
  | 1 => ("CarrierText$Service", "zones", "I", false)
  | 2 => ("CarrierText$Service", "mostWeight", "I", false)
  | 3 => ("CarrierText$Service", "mostSize", "I", false)
  | 4 => ("CarrierText$Service", "classes", "I", false)
  | 5 => ("CarrierText$Service", "base", "I", false)
  | 6 => ("CarrierText$Service", "step", "I", false)
  | 7 => ("CarrierText$Service", "firstHour", "I", false)
  | _ => ("CarrierText$Service", "endHour", "I", false)
def tyS : Nat → FieldType := fun k => match k with
  | 0 => .int
  | 1 => .int
  | 2 => .int
  | 3 => .int
  | 4 => .int
  | 5 => .int
  | 6 => .int
  | 7 => .int
  | _ => .int
theorem nmS : ∀ a, a < 9 → ∀ b, b < 9 → a ≠ b → (TS a).2.1 ≠ (TS b).2.1 := by decide +kernel
theorem tyS_ok : ∀ k, k < 9 → parseFieldDescriptor (TS k).2.2.1 = some (tyS k) := by decide +kernel
theorem inS : ∀ w ∈ u_ws "CarrierText$Service" TS 9, w ∈ lw_tbl := by decide +kernel
def TG : u_T := fun k => match k with
  | 0 => ("CarrierText$Signs", "row", "[I", true)
  | _ => ("CarrierText$Signs", "length", "I", false)
def tyG : Nat → FieldType := fun k => match k with
  | 0 => .array .int
  | _ => .int
theorem nmG : ∀ a, a < 2 → ∀ b, b < 2 → a ≠ b → (TG a).2.1 ≠ (TG b).2.1 := by decide +kernel
theorem tyG_ok : ∀ k, k < 2 → parseFieldDescriptor (TG k).2.2.1 = some (tyG k) := by decide +kernel
theorem inG : ∀ w ∈ u_ws "CarrierText$Signs" TG 2, w ∈ lw_tbl := by decide +kernel
def TT : u_T := fun k => match k with
  | 0 => ("CarrierText", "textSigns", "LCarrierText$Signs;", true)
  | 1 => ("CarrierText", "labelSigns", "LCarrierText$Signs;", true)
  | 2 => ("CarrierText", "printedSigns", "LCarrierText$Signs;", true)
  | 3 => ("CarrierText", "reader", "LCarrierText$Reader;", true)
  | 4 => ("CarrierText", "ranking", "LCarrierText$Ranking;", true)
  | 5 => ("CarrierText", "editions", "[LCarrierText$Edition;", true)
  | 6 => ("CarrierText", "editionsKept", "I", false)
  | _ => ("CarrierText", "day", "I", false)
def tyT : Nat → FieldType := fun k => match k with
  | 0 => .object "CarrierText$Signs"
  | 1 => .object "CarrierText$Signs"
  | 2 => .object "CarrierText$Signs"
  | 3 => .object "CarrierText$Reader"
  | 4 => .object "CarrierText$Ranking"
  | 5 => .array (.object "CarrierText$Edition")
  | 6 => .int
  | _ => .int
theorem nmT : ∀ a, a < 8 → ∀ b, b < 8 → a ≠ b → (TT a).2.1 ≠ (TT b).2.1 := by decide +kernel
theorem tyT_ok : ∀ k, k < 8 → parseFieldDescriptor (TT k).2.2.1 = some (tyT k) := by decide +kernel
theorem inT : ∀ w ∈ u_ws "CarrierText" TT 8, w ∈ lw_tbl := by decide +kernel
def TM : u_T := fun k => match k with
  | 0 => ("CarrierTextModel", "thrownCode", "I", false)
  | 1 => ("CarrierTextModel", "text", "[I", true)
  | 2 => ("CarrierTextModel", "signs", "I", false)
  | 3 => ("CarrierTextModel", "editions", "I", false)
  | 4 => ("CarrierTextModel", "day", "[I", true)
  | 5 => ("CarrierTextModel", "now", "I", false)
  | 6 => ("CarrierTextModel", "services", "[I", true)
  | 7 => ("CarrierTextModel", "letter", "[I", true)
  | 8 => ("CarrierTextModel", "zones", "[I", true)
  | 9 => ("CarrierTextModel", "classes", "[I", true)
  | 10 => ("CarrierTextModel", "weight", "[I", true)
  | 11 => ("CarrierTextModel", "size", "[I", true)
  | 12 => ("CarrierTextModel", "base", "[I", true)
  | 13 => ("CarrierTextModel", "step", "[I", true)
  | 14 => ("CarrierTextModel", "open", "[I", true)
  | 15 => ("CarrierTextModel", "shut", "[I", true)
  | 16 => ("CarrierTextModel", "ranges", "[I", true)
  | 17 => ("CarrierTextModel", "low", "[I", true)
  | 18 => ("CarrierTextModel", "high", "[I", true)
  | 19 => ("CarrierTextModel", "zoneOf", "[I", true)
  | 20 => ("CarrierTextModel", "at", "I", false)
  | 21 => ("CarrierTextModel", "wrong", "I", false)
  | 22 => ("CarrierTextModel", "newServices", "I", false)
  | 23 => ("CarrierTextModel", "newService", "[I", true)
  | 24 => ("CarrierTextModel", "newRanges", "I", false)
  | 25 => ("CarrierTextModel", "newRange", "[I", true)
  | 26 => ("CarrierTextModel", "newHigh", "[I", true)
  | 27 => ("CarrierTextModel", "newZone", "[I", true)
  | 28 => ("CarrierTextModel", "lastHigh", "I", false)
  | 29 => ("CarrierTextModel", "fitted", "I", false)
  | 30 => ("CarrierTextModel", "fit", "[I", true)
  | 31 => ("CarrierTextModel", "printed", "I", false)
  | 32 => ("CarrierTextModel", "print", "[I", true)
  | 33 => ("CarrierTextModel", "numbers", "I", false)
  | _ => ("CarrierTextModel", "number", "[I", true)
def tyM : Nat → FieldType := fun k => match k with
  | 0 => .int
  | 1 => .array .int
  | 2 => .int
  | 3 => .int
  | 4 => .array .int
  | 5 => .int
  | 6 => .array .int
  | 7 => .array .int
  | 8 => .array .int
  | 9 => .array .int
  | 10 => .array .int
  | 11 => .array .int
  | 12 => .array .int
  | 13 => .array .int
  | 14 => .array .int
  | 15 => .array .int
  | 16 => .array .int
  | 17 => .array .int
  | 18 => .array .int
  | 19 => .array .int
  | 20 => .int
  | 21 => .int
  | 22 => .int
  | 23 => .array .int
  | 24 => .int
  | 25 => .array .int
  | 26 => .array .int
  | 27 => .array .int
  | 28 => .int
  | 29 => .int
  | 30 => .array .int
  | 31 => .int
  | 32 => .array .int
  | 33 => .int
  | _ => .array .int
theorem nmM : ∀ a, a < 35 → ∀ b, b < 35 → a ≠ b → (TM a).2.1 ≠ (TM b).2.1 := by decide +kernel
theorem tyM_ok : ∀ k, k < 35 → parseFieldDescriptor (TM k).2.2.1 = some (tyM k) := by decide +kernel
theorem inM : ∀ w ∈ u_ws "CarrierTextModel" TM 35, w ∈ lw_tbl := by decide +kernel
abbrev vwCl : List vw_C := [("CarrierText$Edition", TE, 7), ("CarrierText$Ranking", TK, 3), ("CarrierText$Reader", TR, 4), ("CarrierText$Service", TS, 9), ("CarrierText$Signs", TG, 2), ("CarrierText", TT, 8), ("CarrierTextModel", TM, 35)]
/-- a method: name, bytes, number of locals, type of its answer, handlers -/
abbrev Mt : Type := MethodName × ByteArray × Nat × Option FieldType × List (Nat × Nat × Nat × Nat)
