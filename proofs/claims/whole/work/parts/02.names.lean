def RX0 : String := "MaySheep$Acts"
def TX0 : u_T := fun k => match k with
  | 0 => ("MaySheep$Acts", "count", "I", false)
  | 1 => ("MaySheep$Acts", "next", "I", false)
  | _ => ("MaySheep$Acts", "before", "[LMaySheep$State;", true)
def tyX0 : Nat → FieldType := fun k => match k with
  | 0 => .int
  | 1 => .int
  | _ => .array (.object "MaySheep$State")
theorem nmX0 : ∀ a, a < 3 → ∀ b, b < 3 → a ≠ b → (TX0 a).2.1 ≠ (TX0 b).2.1 := by decide +kernel
theorem tyX0_ok : ∀ k, k < 3 → parseFieldDescriptor (TX0 k).2.2.1 = some (tyX0 k) := by decide +kernel
def RX1 : String := "MaySheep$Asked"
def TX1 : u_T := fun k => match k with
  | 0 => ("MaySheep$Asked", "answers", "[I", true)
  | 1 => ("MaySheep$Asked", "mays", "LMaySheep$Mays;", true)
  | 2 => ("MaySheep$Asked", "had", "[I", true)
  | 3 => ("MaySheep$Asked", "gained", "[I", true)
  | 4 => ("MaySheep$Asked", "cost", "[I", true)
  | 5 => ("MaySheep$Asked", "firstHas", "[I", true)
  | 6 => ("MaySheep$Asked", "secondHas", "[I", true)
  | 7 => ("MaySheep$Asked", "whoseThen", "[I", true)
  | 8 => ("MaySheep$Asked", "whoseByRule", "[I", true)
  | _ => ("MaySheep$Asked", "alike", "[I", true)
def tyX1 : Nat → FieldType := fun k => match k with
  | 0 => .array .int
  | 1 => .object "MaySheep$Mays"
  | 2 => .array .int
  | 3 => .array .int
  | 4 => .array .int
  | 5 => .array .int
  | 6 => .array .int
  | 7 => .array .int
  | 8 => .array .int
  | _ => .array .int
theorem nmX1 : ∀ a, a < 10 → ∀ b, b < 10 → a ≠ b → (TX1 a).2.1 ≠ (TX1 b).2.1 := by decide +kernel
theorem tyX1_ok : ∀ k, k < 10 → parseFieldDescriptor (TX1 k).2.2.1 = some (tyX1 k) := by decide +kernel
def RX2 : String := "MaySheep$Hill"
def TX2 : u_T := fun k => match k with
  | 0 => ("MaySheep$Hill", "told", "Z", false)
  | 1 => ("MaySheep$Hill", "price", "I", false)
  | 2 => ("MaySheep$Hill", "grass", "I", false)
  | 3 => ("MaySheep$Hill", "sheepCount", "I", false)
  | 4 => ("MaySheep$Hill", "menCount", "I", false)
  | 5 => ("MaySheep$Hill", "wool", "[I", true)
  | 6 => ("MaySheep$Hill", "hands", "[I", true)
  | 7 => ("MaySheep$Hill", "salt", "[I", true)
  | _ => ("MaySheep$Hill", "start", "LMaySheep$State;", true)
def tyX2 : Nat → FieldType := fun k => match k with
  | 0 => .boolean
  | 1 => .int
  | 2 => .int
  | 3 => .int
  | 4 => .int
  | 5 => .array .int
  | 6 => .array .int
  | 7 => .array .int
  | _ => .object "MaySheep$State"
theorem nmX2 : ∀ a, a < 9 → ∀ b, b < 9 → a ≠ b → (TX2 a).2.1 ≠ (TX2 b).2.1 := by decide +kernel
theorem tyX2_ok : ∀ k, k < 9 → parseFieldDescriptor (TX2 k).2.2.1 = some (tyX2 k) := by decide +kernel
def RX3 : String := "MaySheep$Leaders"
def TX3 : u_T := fun k => match k with
  | 0 => ("MaySheep$Leaders", "leader", "[I", true)
  | 1 => ("MaySheep$Leaders", "led", "[I", true)
  | _ => ("MaySheep$Leaders", "wool", "[I", true)
def tyX3 : Nat → FieldType := fun k => match k with
  | 0 => .array .int
  | 1 => .array .int
  | _ => .array .int
theorem nmX3 : ∀ a, a < 3 → ∀ b, b < 3 → a ≠ b → (TX3 a).2.1 ≠ (TX3 b).2.1 := by decide +kernel
theorem tyX3_ok : ∀ k, k < 3 → parseFieldDescriptor (TX3 k).2.2.1 = some (tyX3 k) := by decide +kernel
def RX4 : String := "MaySheep$Mays"
def TX4 : u_T := fun k => match k with
  | 0 => ("MaySheep$Mays", "state", "LMaySheep$State;", true)
  | 1 => ("MaySheep$Mays", "leaders", "LMaySheep$Leaders;", true)
  | 2 => ("MaySheep$Mays", "hill", "LMaySheep$Hill;", true)
  | 3 => ("MaySheep$Mays", "frightened", "[Z", true)
  | 4 => ("MaySheep$Mays", "rule", "LMaySheep$Rule;", false)
  | 5 => ("MaySheep$Mays", "flock", "[I", true)
  | 6 => ("MaySheep$Mays", "chosen", "[I", true)
  | 7 => ("MaySheep$Mays", "words", "[J", true)
  | _ => ("MaySheep$Mays", "stack", "[J", true)
def tyX4 : Nat → FieldType := fun k => match k with
  | 0 => .object "MaySheep$State"
  | 1 => .object "MaySheep$Leaders"
  | 2 => .object "MaySheep$Hill"
  | 3 => .array .boolean
  | 4 => .object "MaySheep$Rule"
  | 5 => .array .int
  | 6 => .array .int
  | 7 => .array .long
  | _ => .array .long
theorem nmX4 : ∀ a, a < 9 → ∀ b, b < 9 → a ≠ b → (TX4 a).2.1 ≠ (TX4 b).2.1 := by decide +kernel
theorem tyX4_ok : ∀ k, k < 9 → parseFieldDescriptor (TX4 k).2.2.1 = some (tyX4 k) := by decide +kernel
def RX5 : String := "MaySheep$Notes"
def TX5 : u_T := fun k => match k with
  | 0 => ("MaySheep$Notes", "count", "I", false)
  | 1 => ("MaySheep$Notes", "behind", "[I", true)
  | 2 => ("MaySheep$Notes", "sheep", "[I", true)
  | _ => ("MaySheep$Notes", "man", "[I", true)
def tyX5 : Nat → FieldType := fun k => match k with
  | 0 => .int
  | 1 => .array .int
  | 2 => .array .int
  | _ => .array .int
theorem nmX5 : ∀ a, a < 4 → ∀ b, b < 4 → a ≠ b → (TX5 a).2.1 ≠ (TX5 b).2.1 := by decide +kernel
theorem tyX5_ok : ∀ k, k < 4 → parseFieldDescriptor (TX5 k).2.2.1 = some (tyX5 k) := by decide +kernel
def RX6 : String := "MaySheep$Rule"
def TX6 : u_T := fun k => match k with
  | _ => ("MaySheep$Rule", "steps", "[I", true)
def tyX6 : Nat → FieldType := fun k => match k with
  | _ => .array .int
theorem nmX6 : ∀ a, a < 1 → ∀ b, b < 1 → a ≠ b → (TX6 a).2.1 ≠ (TX6 b).2.1 := by decide +kernel
theorem tyX6_ok : ∀ k, k < 1 → parseFieldDescriptor (TX6 k).2.2.1 = some (tyX6 k) := by decide +kernel
def RX7 : String := "MaySheep$RuleReader"
def TX7 : u_T := fun k => match k with
  | 0 => ("MaySheep$RuleReader", "steps", "[I", true)
  | 1 => ("MaySheep$RuleReader", "stepCount", "I", false)
  | _ => ("MaySheep$RuleReader", "valueCount", "I", false)
def tyX7 : Nat → FieldType := fun k => match k with
  | 0 => .array .int
  | 1 => .int
  | _ => .int
theorem nmX7 : ∀ a, a < 3 → ∀ b, b < 3 → a ≠ b → (TX7 a).2.1 ≠ (TX7 b).2.1 := by decide +kernel
theorem tyX7_ok : ∀ k, k < 3 → parseFieldDescriptor (TX7 k).2.2.1 = some (tyX7 k) := by decide +kernel
def RX8 : String := "MaySheep$State"
def TX8 : u_T := fun k => match k with
  | 0 => ("MaySheep$State", "whose", "[I", true)
  | 1 => ("MaySheep$State", "follows", "[I", true)
  | 2 => ("MaySheep$State", "likes", "[[I", true)
  | 3 => ("MaySheep$State", "coins", "[I", true)
  | _ => ("MaySheep$State", "year", "I", false)
def tyX8 : Nat → FieldType := fun k => match k with
  | 0 => .array .int
  | 1 => .array .int
  | 2 => .array (.array .int)
  | 3 => .array .int
  | _ => .int
theorem nmX8 : ∀ a, a < 5 → ∀ b, b < 5 → a ≠ b → (TX8 a).2.1 ≠ (TX8 b).2.1 := by decide +kernel
theorem tyX8_ok : ∀ k, k < 5 → parseFieldDescriptor (TX8 k).2.2.1 = some (tyX8 k) := by decide +kernel
def RX9 : String := "MaySheep$Tape"
def TX9 : u_T := fun k => match k with
  | 0 => ("MaySheep$Tape", "length", "I", false)
  | 1 => ("MaySheep$Tape", "fault", "I", false)
  | 2 => ("MaySheep$Tape", "bytes", "[B", true)
  | 3 => ("MaySheep$Tape", "kinds", "[I", true)
  | 4 => ("MaySheep$Tape", "places", "[I", true)
  | 5 => ("MaySheep$Tape", "numbers", "[I", true)
  | 6 => ("MaySheep$Tape", "tokenCount", "I", false)
  | _ => ("MaySheep$Tape", "current", "I", false)
def tyX9 : Nat → FieldType := fun k => match k with
  | 0 => .int
  | 1 => .int
  | 2 => .array .byte
  | 3 => .array .int
  | 4 => .array .int
  | 5 => .array .int
  | 6 => .int
  | _ => .int
theorem nmX9 : ∀ a, a < 8 → ∀ b, b < 8 → a ≠ b → (TX9 a).2.1 ≠ (TX9 b).2.1 := by decide +kernel
theorem tyX9_ok : ∀ k, k < 8 → parseFieldDescriptor (TX9 k).2.2.1 = some (tyX9 k) := by decide +kernel
def RX10 : String := "MaySheep$World"
def TX10 : u_T := fun k => match k with
  | 0 => ("MaySheep$World", "hill", "LMaySheep$Hill;", true)
  | 1 => ("MaySheep$World", "state", "LMaySheep$State;", true)
  | 2 => ("MaySheep$World", "notes", "LMaySheep$Notes;", true)
  | 3 => ("MaySheep$World", "force", "I", false)
  | _ => ("MaySheep$World", "drawn", "I", false)
def tyX10 : Nat → FieldType := fun k => match k with
  | 0 => .object "MaySheep$Hill"
  | 1 => .object "MaySheep$State"
  | 2 => .object "MaySheep$Notes"
  | 3 => .int
  | _ => .int
theorem nmX10 : ∀ a, a < 5 → ∀ b, b < 5 → a ≠ b → (TX10 a).2.1 ≠ (TX10 b).2.1 := by decide +kernel
theorem tyX10_ok : ∀ k, k < 5 → parseFieldDescriptor (TX10 k).2.2.1 = some (tyX10 k) := by decide +kernel
def RX11 : String := "MaySheep"
def TX11 : u_T := fun k => match k with
  | 0 => ("MaySheep", "tape", "LMaySheep$Tape;", true)
  | 1 => ("MaySheep", "world", "LMaySheep$World;", true)
  | 2 => ("MaySheep", "images", "[LMaySheep$World;", true)
  | 3 => ("MaySheep", "draft", "LMaySheep$Hill;", true)
  | 4 => ("MaySheep", "ruleReader", "LMaySheep$RuleReader;", true)
  | 5 => ("MaySheep", "rules", "[LMaySheep$Rule;", true)
  | 6 => ("MaySheep", "ruleCount", "I", false)
  | 7 => ("MaySheep", "acts", "LMaySheep$Acts;", true)
  | 8 => ("MaySheep", "leaders", "LMaySheep$Leaders;", true)
  | 9 => ("MaySheep", "mays", "LMaySheep$Mays;", true)
  | _ => ("MaySheep", "asked", "LMaySheep$Asked;", true)
def tyX11 : Nat → FieldType := fun k => match k with
  | 0 => .object "MaySheep$Tape"
  | 1 => .object "MaySheep$World"
  | 2 => .array (.object "MaySheep$World")
  | 3 => .object "MaySheep$Hill"
  | 4 => .object "MaySheep$RuleReader"
  | 5 => .array (.object "MaySheep$Rule")
  | 6 => .int
  | 7 => .object "MaySheep$Acts"
  | 8 => .object "MaySheep$Leaders"
  | 9 => .object "MaySheep$Mays"
  | _ => .object "MaySheep$Asked"
theorem nmX11 : ∀ a, a < 11 → ∀ b, b < 11 → a ≠ b → (TX11 a).2.1 ≠ (TX11 b).2.1 := by decide +kernel
theorem tyX11_ok : ∀ k, k < 11 → parseFieldDescriptor (TX11 k).2.2.1 = some (tyX11 k) := by decide +kernel
def RX12 : String := "MaySheepModel"
def TX12 : u_T := fun k => match k with
  | 0 => ("MaySheepModel", "tape", "[B", true)
  | 1 => ("MaySheepModel", "taped", "I", false)
  | 2 => ("MaySheepModel", "rules", "I", false)
  | 3 => ("MaySheepModel", "sign", "[I", true)
  | 4 => ("MaySheepModel", "length", "[I", true)
  | 5 => ("MaySheepModel", "clause", "[I", true)
  | 6 => ("MaySheepModel", "clauses", "[I", true)
  | 7 => ("MaySheepModel", "read", "[I", true)
  | 8 => ("MaySheepModel", "next", "I", false)
  | 9 => ("MaySheepModel", "wrong", "I", false)
  | 10 => ("MaySheepModel", "number", "I", false)
  | 11 => ("MaySheepModel", "text", "I", false)
  | 12 => ("MaySheepModel", "made", "I", false)
  | 13 => ("MaySheepModel", "deep", "I", false)
  | 14 => ("MaySheepModel", "lines", "I", false)
  | 15 => ("MaySheepModel", "open", "[I", true)
  | 16 => ("MaySheepModel", "opened", "I", false)
  | 17 => ("MaySheepModel", "stack", "[J", true)
  | 18 => ("MaySheepModel", "top", "I", false)
  | 19 => ("MaySheepModel", "word", "[J", true)
  | 20 => ("MaySheepModel", "said", "[I", true)
  | 21 => ("MaySheepModel", "force", "I", false)
  | 22 => ("MaySheepModel", "x", "I", false)
  | 23 => ("MaySheepModel", "frightened", "I", false)
  | 24 => ("MaySheepModel", "chosen", "[I", true)
  | 25 => ("MaySheepModel", "wasSaid", "[I", true)
  | 26 => ("MaySheepModel", "undone", "I", false)
  | 27 => ("MaySheepModel", "kept", "[I", true)
  | 28 => ("MaySheepModel", "lack", "[I", true)
  | 29 => ("MaySheepModel", "leads", "[I", true)
  | 30 => ("MaySheepModel", "hasBy", "[I", true)
  | 31 => ("MaySheepModel", "whoseThen", "[I", true)
  | 32 => ("MaySheepModel", "isFit", "[Z", true)
  | 33 => ("MaySheepModel", "hisBy", "[I", true)
  | 34 => ("MaySheepModel", "drawX", "J", false)
  | 35 => ("MaySheepModel", "images", "[I", true)
  | 36 => ("MaySheepModel", "imageForce", "[I", true)
  | 37 => ("MaySheepModel", "imageX", "[I", true)
  | _ => ("MaySheepModel", "isMade", "[Z", true)
def tyX12 : Nat → FieldType := fun k => match k with
  | 0 => .array .byte
  | 1 => .int
  | 2 => .int
  | 3 => .array .int
  | 4 => .array .int
  | 5 => .array .int
  | 6 => .array .int
  | 7 => .array .int
  | 8 => .int
  | 9 => .int
  | 10 => .int
  | 11 => .int
  | 12 => .int
  | 13 => .int
  | 14 => .int
  | 15 => .array .int
  | 16 => .int
  | 17 => .array .long
  | 18 => .int
  | 19 => .array .long
  | 20 => .array .int
  | 21 => .int
  | 22 => .int
  | 23 => .int
  | 24 => .array .int
  | 25 => .array .int
  | 26 => .int
  | 27 => .array .int
  | 28 => .array .int
  | 29 => .array .int
  | 30 => .array .int
  | 31 => .array .int
  | 32 => .array .boolean
  | 33 => .array .int
  | 34 => .long
  | 35 => .array .int
  | 36 => .array .int
  | 37 => .array .int
  | _ => .array .boolean
theorem nmX12 : ∀ a, a < 39 → ∀ b, b < 39 → a ≠ b → (TX12 a).2.1 ≠ (TX12 b).2.1 := by decide +kernel
theorem tyX12_ok : ∀ k, k < 39 → parseFieldDescriptor (TX12 k).2.2.1 = some (tyX12 k) := by decide +kernel
abbrev vwCl : List vw_C := [(RX0, TX0, 3), (RX1, TX1, 10), (RX2, TX2, 9), (RX3, TX3, 3), (RX4, TX4, 9), (RX5, TX5, 4), (RX6, TX6, 1), (RX7, TX7, 3), (RX8, TX8, 5), (RX9, TX9, 8), (RX10, TX10, 5), (RX11, TX11, 11), (RX12, TX12, 39)]
