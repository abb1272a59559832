/-! ===== BEGIN printed: names, fields, word lists, decode rows ===== -/
def RX0 : String := "ReedBench$Costs"
def TX0 : u_T := fun k => match k with
  | 0 => ("ReedBench$Costs", "slotCosts", "[I", true)
  | _ => ("ReedBench$Costs", "pairCosts", "[I", true)
def tyX0 : Nat → FieldType := fun k => match k with
  | 0 => .array .int
  | _ => .array .int
abbrev wsX00 : List Cond := u_ws RX0 TX0 2
theorem nmX0 : ∀ a, a < 2 → ∀ b, b < 2 → a ≠ b → (TX0 a).2.1 ≠ (TX0 b).2.1 := by decide +kernel
theorem tyX0_ok : ∀ k, k < 2 → parseFieldDescriptor (TX0 k).2.2.1 = some (tyX0 k) := by decide +kernel
def RX1 : String := "ReedBench$History"
def TX1 : u_T := fun k => match k with
  | 0 => ("ReedBench$History", "ring", "[LReedBench$State;", true)
  | 1 => ("ReedBench$History", "size", "I", false)
  | _ => ("ReedBench$History", "next", "I", false)
def tyX1 : Nat → FieldType := fun k => match k with
  | 0 => .array (.object "ReedBench$State")
  | 1 => .int
  | _ => .int
abbrev wsX10 : List Cond := u_ws RX1 TX1 3
theorem nmX1 : ∀ a, a < 3 → ∀ b, b < 3 → a ≠ b → (TX1 a).2.1 ≠ (TX1 b).2.1 := by decide +kernel
theorem tyX1_ok : ∀ k, k < 3 → parseFieldDescriptor (TX1 k).2.2.1 = some (tyX1 k) := by decide +kernel
def RX2 : String := "ReedBench$LeftOut"
def TX2 : u_T := fun k => match k with
  | _ => ("", "", "", false)
def tyX2 : Nat → FieldType := fun k => match k with
  | _ => .int
abbrev wsX20 : List Cond := u_ws RX2 TX2 0
theorem nmX2 : ∀ a, a < 0 → ∀ b, b < 0 → a ≠ b → (TX2 a).2.1 ≠ (TX2 b).2.1 := by decide +kernel
theorem tyX2_ok : ∀ k, k < 0 → parseFieldDescriptor (TX2 k).2.2.1 = some (tyX2 k) := by decide +kernel
def RX3 : String := "ReedBench$Plan"
def TX3 : u_T := fun k => match k with
  | 0 => ("ReedBench$Plan", "costs", "LReedBench$Costs;", true)
  | 1 => ("ReedBench$Plan", "fewest", "[I", true)
  | 2 => ("ReedBench$Plan", "ways", "[I", true)
  | 3 => ("ReedBench$Plan", "order", "[I", true)
  | 4 => ("ReedBench$Plan", "chosen", "[I", true)
  | 5 => ("ReedBench$Plan", "ordered", "I", false)
  | 6 => ("ReedBench$Plan", "strokes", "I", false)
  | 7 => ("ReedBench$Plan", "count", "I", false)
  | _ => ("ReedBench$Plan", "known", "Z", false)
def tyX3 : Nat → FieldType := fun k => match k with
  | 0 => .object "ReedBench$Costs"
  | 1 => .array .int
  | 2 => .array .int
  | 3 => .array .int
  | 4 => .array .int
  | 5 => .int
  | 6 => .int
  | 7 => .int
  | _ => .boolean
abbrev wsX30 : List Cond := u_ws RX3 TX3 9
theorem nmX3 : ∀ a, a < 9 → ∀ b, b < 9 → a ≠ b → (TX3 a).2.1 ≠ (TX3 b).2.1 := by decide +kernel
theorem tyX3_ok : ∀ k, k < 9 → parseFieldDescriptor (TX3 k).2.2.1 = some (tyX3 k) := by decide +kernel
def RX4 : String := "ReedBench$Reed"
def TX4 : u_T := fun k => match k with
  | 0 => ("ReedBench$Reed", "pitch", "I", false)
  | 1 => ("ReedBench$Reed", "thickness", "I", false)
  | 2 => ("ReedBench$Reed", "tip", "I", false)
  | 3 => ("ReedBench$Reed", "place", "I", false)
  | 4 => ("ReedBench$Reed", "plate", "I", false)
  | 5 => ("ReedBench$Reed", "slot", "I", false)
  | _ => ("ReedBench$Reed", "strokes", "I", false)
def tyX4 : Nat → FieldType := fun k => match k with
  | 0 => .int
  | 1 => .int
  | 2 => .int
  | 3 => .int
  | 4 => .int
  | 5 => .int
  | _ => .int
abbrev wsX40 : List Cond := u_ws RX4 TX4 7
theorem nmX4 : ∀ a, a < 7 → ∀ b, b < 7 → a ≠ b → (TX4 a).2.1 ≠ (TX4 b).2.1 := by decide +kernel
theorem tyX4_ok : ∀ k, k < 7 → parseFieldDescriptor (TX4 k).2.2.1 = some (tyX4 k) := by decide +kernel
def RX5 : String := "ReedBench$State"
def TX5 : u_T := fun k => match k with
  | 0 => ("ReedBench$State", "reeds", "[LReedBench$Reed;", true)
  | 1 => ("ReedBench$State", "wanted", "[I", true)
  | 2 => ("ReedBench$State", "low", "[I", true)
  | 3 => ("ReedBench$State", "high", "[I", true)
  | 4 => ("ReedBench$State", "came", "I", false)
  | 5 => ("ReedBench$State", "rise", "I", false)
  | 6 => ("ReedBench$State", "off", "I", false)
  | _ => ("ReedBench$State", "made", "I", false)
def tyX5 : Nat → FieldType := fun k => match k with
  | 0 => .array (.object "ReedBench$Reed")
  | 1 => .array .int
  | 2 => .array .int
  | 3 => .array .int
  | 4 => .int
  | 5 => .int
  | 6 => .int
  | _ => .int
abbrev wsX50 : List Cond := u_ws RX5 TX5 8
theorem nmX5 : ∀ a, a < 8 → ∀ b, b < 8 → a ≠ b → (TX5 a).2.1 ≠ (TX5 b).2.1 := by decide +kernel
theorem tyX5_ok : ∀ k, k < 8 → parseFieldDescriptor (TX5 k).2.2.1 = some (tyX5 k) := by decide +kernel
def RX6 : String := "ReedBench$Works"
def TX6 : u_T := fun k => match k with
  | 0 => ("ReedBench$Works", "first", "[[I", true)
  | 1 => ("ReedBench$Works", "near", "[I", true)
  | _ => ("ReedBench$Works", "partner", "[I", true)
def tyX6 : Nat → FieldType := fun k => match k with
  | 0 => .array (.array .int)
  | 1 => .array .int
  | _ => .array .int
abbrev wsX60 : List Cond := u_ws RX6 TX6 3
theorem nmX6 : ∀ a, a < 3 → ∀ b, b < 3 → a ≠ b → (TX6 a).2.1 ≠ (TX6 b).2.1 := by decide +kernel
theorem tyX6_ok : ∀ k, k < 3 → parseFieldDescriptor (TX6 k).2.2.1 = some (tyX6 k) := by decide +kernel
def RX7 : String := "ReedBench"
def TX7 : u_T := fun k => match k with
  | 0 => ("ReedBench", "now", "LReedBench$State;", true)
  | 1 => ("ReedBench", "history", "LReedBench$History;", true)
  | 2 => ("ReedBench", "works", "LReedBench$Works;", true)
  | _ => ("ReedBench", "plan", "LReedBench$Plan;", true)
def tyX7 : Nat → FieldType := fun k => match k with
  | 0 => .object "ReedBench$State"
  | 1 => .object "ReedBench$History"
  | 2 => .object "ReedBench$Works"
  | _ => .object "ReedBench$Plan"
abbrev wsX70 : List Cond := u_ws RX7 TX7 4
theorem nmX7 : ∀ a, a < 4 → ∀ b, b < 4 → a ≠ b → (TX7 a).2.1 ≠ (TX7 b).2.1 := by decide +kernel
theorem tyX7_ok : ∀ k, k < 4 → parseFieldDescriptor (TX7 k).2.2.1 = some (tyX7 k) := by decide +kernel
def RX8 : String := "ReedBenchModel"
def TX8 : u_T := fun k => match k with
  | 0 => ("ReedBenchModel", "told", "I", false)
  | 1 => ("ReedBenchModel", "g", "[I", true)
  | 2 => ("ReedBenchModel", "kept", "[I", true)
  | 3 => ("ReedBenchModel", "keeps", "I", false)
  | 4 => ("ReedBenchModel", "isBegun", "Z", false)
  | 5 => ("ReedBenchModel", "even", "[I", true)
  | 6 => ("ReedBenchModel", "just", "[I", true)
  | 7 => ("ReedBenchModel", "paired", "[I", true)
  | 8 => ("ReedBenchModel", "strokes", "[I", true)
  | 9 => ("ReedBenchModel", "tips", "[I", true)
  | 10 => ("ReedBenchModel", "workStrokes", "I", false)
  | 11 => ("ReedBenchModel", "workTip", "I", false)
  | 12 => ("ReedBenchModel", "pairStrokes", "I", false)
  | 13 => ("ReedBenchModel", "pairTip", "I", false)
  | 14 => ("ReedBenchModel", "pairRoot", "I", false)
  | 15 => ("ReedBenchModel", "otherTip", "I", false)
  | 16 => ("ReedBenchModel", "single", "[I", true)
  | 17 => ("ReedBenchModel", "both", "[I", true)
  | 18 => ("ReedBenchModel", "least", "[I", true)
  | 19 => ("ReedBenchModel", "ways", "[I", true)
  | 20 => ("ReedBenchModel", "here", "I", false)
  | 21 => ("ReedBenchModel", "some", "I", false)
  | _ => ("ReedBenchModel", "lay", "[I", true)
def tyX8 : Nat → FieldType := fun k => match k with
  | 0 => .int
  | 1 => .array .int
  | 2 => .array .int
  | 3 => .int
  | 4 => .boolean
  | 5 => .array .int
  | 6 => .array .int
  | 7 => .array .int
  | 8 => .array .int
  | 9 => .array .int
  | 10 => .int
  | 11 => .int
  | 12 => .int
  | 13 => .int
  | 14 => .int
  | 15 => .int
  | 16 => .array .int
  | 17 => .array .int
  | 18 => .array .int
  | 19 => .array .int
  | 20 => .int
  | 21 => .int
  | _ => .array .int
abbrev wsX80 : List Cond := u_ws RX8 TX8 23
theorem nmX8 : ∀ a, a < 23 → ∀ b, b < 23 → a ≠ b → (TX8 a).2.1 ≠ (TX8 b).2.1 := by decide +kernel
theorem tyX8_ok : ∀ k, k < 23 → parseFieldDescriptor (TX8 k).2.2.1 = some (tyX8 k) := by decide +kernel
def RJ6 : String := "java/lang/Integer"
def TJ6 : u_T := fun k => match k with
  | _ => ("", "", "", false)
def tyJ6 : Nat → FieldType := fun k => match k with
  | _ => .int
abbrev wsJ60 : List Cond := u_ws RJ6 TJ6 0
theorem nmJ6 : ∀ a, a < 0 → ∀ b, b < 0 → a ≠ b → (TJ6 a).2.1 ≠ (TJ6 b).2.1 := by decide +kernel
theorem tyJ6_ok : ∀ k, k < 0 → parseFieldDescriptor (TJ6 k).2.2.1 = some (tyJ6 k) := by decide +kernel
def RJ9 : String := "java/lang/Math"
def TJ9 : u_T := fun k => match k with
  | _ => ("", "", "", false)
def tyJ9 : Nat → FieldType := fun k => match k with
  | _ => .int
abbrev wsJ90 : List Cond := u_ws RJ9 TJ9 0
theorem nmJ9 : ∀ a, a < 0 → ∀ b, b < 0 → a ≠ b → (TJ9 a).2.1 ≠ (TJ9 b).2.1 := by decide +kernel
theorem tyJ9_ok : ∀ k, k < 0 → parseFieldDescriptor (TJ9 k).2.2.1 = some (tyJ9 k) := by decide +kernel
def RJ10 : String := "java/lang/System"
def TJ10 : u_T := fun k => match k with
  | _ => ("", "", "", false)
def tyJ10 : Nat → FieldType := fun k => match k with
  | _ => .int
abbrev wsJ100 : List Cond := u_ws RJ10 TJ10 0
theorem nmJ10 : ∀ a, a < 0 → ∀ b, b < 0 → a ≠ b → (TJ10 a).2.1 ≠ (TJ10 b).2.1 := by decide +kernel
theorem tyJ10_ok : ∀ k, k < 0 → parseFieldDescriptor (TJ10 k).2.2.1 = some (tyJ10 k) := by decide +kernel
def RJ7 : String := "java/util/Arrays"
def TJ7 : u_T := fun k => match k with
  | _ => ("", "", "", false)
def tyJ7 : Nat → FieldType := fun k => match k with
  | _ => .int
abbrev wsJ70 : List Cond := u_ws RJ7 TJ7 0
theorem nmJ7 : ∀ a, a < 0 → ∀ b, b < 0 → a ≠ b → (TJ7 a).2.1 ≠ (TJ7 b).2.1 := by decide +kernel
theorem tyJ7_ok : ∀ k, k < 0 → parseFieldDescriptor (TJ7 k).2.2.1 = some (tyJ7 k) := by decide +kernel
def RL : String := "ReedBenchLaw"
