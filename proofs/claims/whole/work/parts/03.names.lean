def RX0 : String := "MonkeyVotes$Briber"
def TX0 : u_T := fun k => match k with
  | 0 => ("MonkeyVotes$Briber", "land", "LMonkeyVotes$Land;", true)
  | 1 => ("MonkeyVotes$Briber", "fewest", "[[I", true)
  | _ => ("MonkeyVotes$Briber", "given", "[I", true)
def tyX0 : Nat → FieldType := fun k => match k with
  | 0 => .object "MonkeyVotes$Land"
  | 1 => .array (.array .int)
  | _ => .array .int
theorem nmX0 : ∀ a, a < 3 → ∀ b, b < 3 → a ≠ b → (TX0 a).2.1 ≠ (TX0 b).2.1 := by decide +kernel
theorem tyX0_ok : ∀ k, k < 3 → parseFieldDescriptor (TX0 k).2.2.1 = some (tyX0 k) := by decide +kernel
def RX1 : String := "MonkeyVotes$Day"
def TX1 : u_T := fun k => match k with
  | 0 => ("MonkeyVotes$Day", "land", "LMonkeyVotes$Land;", true)
  | 1 => ("MonkeyVotes$Day", "mood", "[I", true)
  | 2 => ("MonkeyVotes$Day", "nuts", "[I", true)
  | 3 => ("MonkeyVotes$Day", "place", "[I", true)
  | 4 => ("MonkeyVotes$Day", "wear", "[I", true)
  | 5 => ("MonkeyVotes$Day", "cold", "I", false)
  | 6 => ("MonkeyVotes$Day", "carried", "I", false)
  | _ => ("MonkeyVotes$Day", "lost", "I", false)
def tyX1 : Nat → FieldType := fun k => match k with
  | 0 => .object "MonkeyVotes$Land"
  | 1 => .array .int
  | 2 => .array .int
  | 3 => .array .int
  | 4 => .array .int
  | 5 => .int
  | 6 => .int
  | _ => .int
theorem nmX1 : ∀ a, a < 8 → ∀ b, b < 8 → a ≠ b → (TX1 a).2.1 ≠ (TX1 b).2.1 := by decide +kernel
theorem tyX1_ok : ∀ k, k < 8 → parseFieldDescriptor (TX1 k).2.2.1 = some (tyX1 k) := by decide +kernel
def RX2 : String := "MonkeyVotes$Land"
def TX2 : u_T := fun k => match k with
  | 0 => ("MonkeyVotes$Land", "streets", "I", false)
  | 1 => ("MonkeyVotes$Land", "tunes", "I", false)
  | 2 => ("MonkeyVotes$Land", "monkeys", "I", false)
  | 3 => ("MonkeyVotes$Land", "organs", "I", false)
  | 4 => ("MonkeyVotes$Land", "home", "[I", true)
  | 5 => ("MonkeyVotes$Land", "coat", "[I", true)
  | 6 => ("MonkeyVotes$Land", "liking", "[[I", true)
  | 7 => ("MonkeyVotes$Land", "organHome", "[I", true)
  | _ => ("MonkeyVotes$Land", "organWear", "[I", true)
def tyX2 : Nat → FieldType := fun k => match k with
  | 0 => .int
  | 1 => .int
  | 2 => .int
  | 3 => .int
  | 4 => .array .int
  | 5 => .array .int
  | 6 => .array (.array .int)
  | 7 => .array .int
  | _ => .array .int
theorem nmX2 : ∀ a, a < 9 → ∀ b, b < 9 → a ≠ b → (TX2 a).2.1 ≠ (TX2 b).2.1 := by decide +kernel
theorem tyX2_ok : ∀ k, k < 9 → parseFieldDescriptor (TX2 k).2.2.1 = some (tyX2 k) := by decide +kernel
def RX3 : String := "MonkeyVotes$Likings"
def TX3 : u_T := fun k => match k with
  | 0 => ("MonkeyVotes$Likings", "land", "LMonkeyVotes$Land;", true)
  | 1 => ("MonkeyVotes$Likings", "first", "[I", true)
  | 2 => ("MonkeyVotes$Likings", "second", "[I", true)
  | 3 => ("MonkeyVotes$Likings", "voted", "[I", true)
  | 4 => ("MonkeyVotes$Likings", "known", "I", false)
  | 5 => ("MonkeyVotes$Likings", "row", "[I", true)
  | 6 => ("MonkeyVotes$Likings", "rows", "I", false)
  | 7 => ("MonkeyVotes$Likings", "least", "[I", true)
  | 8 => ("MonkeyVotes$Likings", "greatest", "[I", true)
  | _ => ("MonkeyVotes$Likings", "parts", "[[I", true)
def tyX3 : Nat → FieldType := fun k => match k with
  | 0 => .object "MonkeyVotes$Land"
  | 1 => .array .int
  | 2 => .array .int
  | 3 => .array .int
  | 4 => .int
  | 5 => .array .int
  | 6 => .int
  | 7 => .array .int
  | 8 => .array .int
  | _ => .array (.array .int)
theorem nmX3 : ∀ a, a < 10 → ∀ b, b < 10 → a ≠ b → (TX3 a).2.1 ≠ (TX3 b).2.1 := by decide +kernel
theorem tyX3_ok : ∀ k, k < 10 → parseFieldDescriptor (TX3 k).2.2.1 = some (tyX3 k) := by decide +kernel
def RX4 : String := "MonkeyVotes$Past"
def TX4 : u_T := fun k => match k with
  | 0 => ("MonkeyVotes$Past", "days", "[LMonkeyVotes$Day;", true)
  | 1 => ("MonkeyVotes$Past", "following", "I", false)
  | _ => ("MonkeyVotes$Past", "many", "I", false)
def tyX4 : Nat → FieldType := fun k => match k with
  | 0 => .array (.object "MonkeyVotes$Day")
  | 1 => .int
  | _ => .int
theorem nmX4 : ∀ a, a < 3 → ∀ b, b < 3 → a ≠ b → (TX4 a).2.1 ≠ (TX4 b).2.1 := by decide +kernel
theorem tyX4_ok : ∀ k, k < 3 → parseFieldDescriptor (TX4 k).2.2.1 = some (tyX4 k) := by decide +kernel
def RX5 : String := "MonkeyVotes$Planner"
def TX5 : u_T := fun k => match k with
  | 0 => ("MonkeyVotes$Planner", "land", "LMonkeyVotes$Land;", true)
  | 1 => ("MonkeyVotes$Planner", "steps", "[LMonkeyVotes$Day;", true)
  | _ => ("MonkeyVotes$Planner", "row", "[I", true)
def tyX5 : Nat → FieldType := fun k => match k with
  | 0 => .object "MonkeyVotes$Land"
  | 1 => .array (.object "MonkeyVotes$Day")
  | _ => .array .int
theorem nmX5 : ∀ a, a < 3 → ∀ b, b < 3 → a ≠ b → (TX5 a).2.1 ≠ (TX5 b).2.1 := by decide +kernel
theorem tyX5_ok : ∀ k, k < 3 → parseFieldDescriptor (TX5 k).2.2.1 = some (tyX5 k) := by decide +kernel
def RX6 : String := "MonkeyVotes$Rater"
def TX6 : u_T := fun k => match k with
  | 0 => ("MonkeyVotes$Rater", "land", "LMonkeyVotes$Land;", true)
  | 1 => ("MonkeyVotes$Rater", "today", "LMonkeyVotes$Day;", true)
  | _ => ("MonkeyVotes$Rater", "traced", "J", false)
def tyX6 : Nat → FieldType := fun k => match k with
  | 0 => .object "MonkeyVotes$Land"
  | 1 => .object "MonkeyVotes$Day"
  | _ => .long
theorem nmX6 : ∀ a, a < 3 → ∀ b, b < 3 → a ≠ b → (TX6 a).2.1 ≠ (TX6 b).2.1 := by decide +kernel
theorem tyX6_ok : ∀ k, k < 3 → parseFieldDescriptor (TX6 k).2.2.1 = some (tyX6 k) := by decide +kernel
def RX7 : String := "MonkeyVotes$Reader"
def TX7 : u_T := fun k => match k with
  | 0 => ("MonkeyVotes$Reader", "told", "LMonkeyVotes$Land;", true)
  | 1 => ("MonkeyVotes$Reader", "item", "I", false)
  | 2 => ("MonkeyVotes$Reader", "numbers", "I", false)
  | 3 => ("MonkeyVotes$Reader", "items", "I", false)
  | 4 => ("MonkeyVotes$Reader", "streetsTold", "Z", false)
  | _ => ("MonkeyVotes$Reader", "tunesTold", "Z", false)
def tyX7 : Nat → FieldType := fun k => match k with
  | 0 => .object "MonkeyVotes$Land"
  | 1 => .int
  | 2 => .int
  | 3 => .int
  | 4 => .boolean
  | _ => .boolean
theorem nmX7 : ∀ a, a < 6 → ∀ b, b < 6 → a ≠ b → (TX7 a).2.1 ≠ (TX7 b).2.1 := by decide +kernel
theorem tyX7_ok : ∀ k, k < 6 → parseFieldDescriptor (TX7 k).2.2.1 = some (tyX7 k) := by decide +kernel
def RX8 : String := "MonkeyVotes$Sleepers"
def TX8 : u_T := fun k => match k with
  | 0 => ("MonkeyVotes$Sleepers", "land", "LMonkeyVotes$Land;", true)
  | 1 => ("MonkeyVotes$Sleepers", "upper", "I", false)
  | _ => ("MonkeyVotes$Sleepers", "lower", "I", false)
def tyX8 : Nat → FieldType := fun k => match k with
  | 0 => .object "MonkeyVotes$Land"
  | 1 => .int
  | _ => .int
theorem nmX8 : ∀ a, a < 3 → ∀ b, b < 3 → a ≠ b → (TX8 a).2.1 ≠ (TX8 b).2.1 := by decide +kernel
theorem tyX8_ok : ∀ k, k < 3 → parseFieldDescriptor (TX8 k).2.2.1 = some (tyX8 k) := by decide +kernel
def RX9 : String := "MonkeyVotes"
def TX9 : u_T := fun k => match k with
  | 0 => ("MonkeyVotes", "text", "[C", true)
  | 1 => ("MonkeyVotes", "letters", "I", false)
  | 2 => ("MonkeyVotes", "land", "LMonkeyVotes$Land;", true)
  | 3 => ("MonkeyVotes", "reader", "LMonkeyVotes$Reader;", true)
  | 4 => ("MonkeyVotes", "today", "LMonkeyVotes$Day;", true)
  | 5 => ("MonkeyVotes", "past", "LMonkeyVotes$Past;", true)
  | 6 => ("MonkeyVotes", "planner", "LMonkeyVotes$Planner;", true)
  | 7 => ("MonkeyVotes", "briber", "LMonkeyVotes$Briber;", true)
  | 8 => ("MonkeyVotes", "sleepers", "LMonkeyVotes$Sleepers;", true)
  | 9 => ("MonkeyVotes", "likings", "LMonkeyVotes$Likings;", true)
  | 10 => ("MonkeyVotes", "rater", "LMonkeyVotes$Rater;", true)
  | 11 => ("MonkeyVotes", "images", "[LMonkeyVotes$Day;", true)
  | _ => ("MonkeyVotes", "kept", "[Z", true)
def tyX9 : Nat → FieldType := fun k => match k with
  | 0 => .array .char
  | 1 => .int
  | 2 => .object "MonkeyVotes$Land"
  | 3 => .object "MonkeyVotes$Reader"
  | 4 => .object "MonkeyVotes$Day"
  | 5 => .object "MonkeyVotes$Past"
  | 6 => .object "MonkeyVotes$Planner"
  | 7 => .object "MonkeyVotes$Briber"
  | 8 => .object "MonkeyVotes$Sleepers"
  | 9 => .object "MonkeyVotes$Likings"
  | 10 => .object "MonkeyVotes$Rater"
  | 11 => .array (.object "MonkeyVotes$Day")
  | _ => .array .boolean
theorem nmX9 : ∀ a, a < 13 → ∀ b, b < 13 → a ≠ b → (TX9 a).2.1 ≠ (TX9 b).2.1 := by decide +kernel
theorem tyX9_ok : ∀ k, k < 13 → parseFieldDescriptor (TX9 k).2.2.1 = some (tyX9 k) := by decide +kernel
def RX10 : String := "MonkeyVotesModel"
def TX10 : u_T := fun k => match k with
  | 0 => ("MonkeyVotesModel", "streets", "I", false)
  | 1 => ("MonkeyVotesModel", "tunes", "I", false)
  | 2 => ("MonkeyVotesModel", "monkeys", "I", false)
  | 3 => ("MonkeyVotesModel", "homes", "[I", true)
  | 4 => ("MonkeyVotesModel", "coats", "[I", true)
  | 5 => ("MonkeyVotesModel", "likes", "[I", true)
  | 6 => ("MonkeyVotesModel", "organs", "I", false)
  | 7 => ("MonkeyVotesModel", "st", "[I", true)
  | 8 => ("MonkeyVotesModel", "was", "[I", true)
  | 9 => ("MonkeyVotesModel", "known", "I", false)
  | 10 => ("MonkeyVotesModel", "images", "[I", true)
  | 11 => ("MonkeyVotesModel", "isKept", "[Z", true)
  | 12 => ("MonkeyVotesModel", "toldMany", "I", false)
  | 13 => ("MonkeyVotesModel", "told", "[I", true)
  | 14 => ("MonkeyVotesModel", "trace", "J", false)
  | 15 => ("MonkeyVotesModel", "text", "[I", true)
  | 16 => ("MonkeyVotesModel", "texted", "I", false)
  | 17 => ("MonkeyVotesModel", "cursor", "I", false)
  | 18 => ("MonkeyVotesModel", "start", "I", false)
  | 19 => ("MonkeyVotesModel", "token", "I", false)
  | 20 => ("MonkeyVotesModel", "number", "I", false)
  | 21 => ("MonkeyVotesModel", "isWrong", "Z", false)
  | 22 => ("MonkeyVotesModel", "items", "I", false)
  | 23 => ("MonkeyVotesModel", "saidStreets", "I", false)
  | 24 => ("MonkeyVotesModel", "saidTunes", "I", false)
  | 25 => ("MonkeyVotesModel", "saidMonkeys", "I", false)
  | 26 => ("MonkeyVotesModel", "saidHome", "[I", true)
  | 27 => ("MonkeyVotesModel", "saidCoat", "[I", true)
  | 28 => ("MonkeyVotesModel", "saidLike", "[I", true)
  | 29 => ("MonkeyVotesModel", "saidOrgans", "I", false)
  | 30 => ("MonkeyVotesModel", "saidPlace", "[I", true)
  | 31 => ("MonkeyVotesModel", "saidWear", "[I", true)
  | 32 => ("MonkeyVotesModel", "now", "[I", true)
  | 33 => ("MonkeyVotesModel", "row", "[I", true)
  | 34 => ("MonkeyVotesModel", "given", "[I", true)
  | 35 => ("MonkeyVotesModel", "best", "[I", true)
  | _ => ("MonkeyVotesModel", "parts", "[I", true)
def tyX10 : Nat → FieldType := fun k => match k with
  | 0 => .int
  | 1 => .int
  | 2 => .int
  | 3 => .array .int
  | 4 => .array .int
  | 5 => .array .int
  | 6 => .int
  | 7 => .array .int
  | 8 => .array .int
  | 9 => .int
  | 10 => .array .int
  | 11 => .array .boolean
  | 12 => .int
  | 13 => .array .int
  | 14 => .long
  | 15 => .array .int
  | 16 => .int
  | 17 => .int
  | 18 => .int
  | 19 => .int
  | 20 => .int
  | 21 => .boolean
  | 22 => .int
  | 23 => .int
  | 24 => .int
  | 25 => .int
  | 26 => .array .int
  | 27 => .array .int
  | 28 => .array .int
  | 29 => .int
  | 30 => .array .int
  | 31 => .array .int
  | 32 => .array .int
  | 33 => .array .int
  | 34 => .array .int
  | 35 => .array .int
  | _ => .array .int
theorem nmX10 : ∀ a, a < 37 → ∀ b, b < 37 → a ≠ b → (TX10 a).2.1 ≠ (TX10 b).2.1 := by decide +kernel
theorem tyX10_ok : ∀ k, k < 37 → parseFieldDescriptor (TX10 k).2.2.1 = some (tyX10 k) := by decide +kernel
def mv_cl : List vw_C := [(RX0, TX0, 3), (RX1, TX1, 8), (RX2, TX2, 9), (RX3, TX3, 10), (RX4, TX4, 3), (RX5, TX5, 3), (RX6, TX6, 3), (RX7, TX7, 6), (RX8, TX8, 3), (RX9, TX9, 13), (RX10, TX10, 37)]
def mv_ty : Nat → Nat → FieldType := fun n => match n with
  | 0 => tyX0
  | 1 => tyX1
  | 2 => tyX2
  | 3 => tyX3
  | 4 => tyX4
  | 5 => tyX5
  | 6 => tyX6
  | 7 => tyX7
  | 8 => tyX8
  | 9 => tyX9
  | _ => tyX10
def mv_own : List String := ["MonkeyVotes$Briber", "MonkeyVotes$Day", "MonkeyVotes$Land", "MonkeyVotes$Likings", "MonkeyVotes$Past", "MonkeyVotes$Planner", "MonkeyVotes$Rater", "MonkeyVotes$Reader", "MonkeyVotes$Sleepers", "MonkeyVotes", "MonkeyVotesModel", "MonkeyVotesLaw", "java/lang/Integer", "java/lang/Math", "java/util/Arrays"]
/-- the fields of a new object of each class -/
def mv_df : Nat → List Nat := fun n => match n with
  | 0 => [2, 2, 2]
  | 1 => [2, 2, 2, 2, 2, 0, 0, 0]
  | 2 => [0, 0, 0, 0, 2, 2, 2, 2, 2]
  | 3 => [2, 2, 2, 2, 0, 2, 0, 2, 2, 2]
  | 4 => [2, 0, 0]
  | 5 => [2, 2, 2]
  | 6 => [2, 2, 1]
  | 7 => [2, 0, 0, 0, 0, 0]
  | 8 => [2, 0, 0]
  | 9 => [2, 0, 2, 2, 2, 2, 2, 2, 2, 2, 2, 2, 2]
  | _ => [0, 0, 0, 2, 2, 2, 0, 2, 2, 0, 2, 2, 0, 2, 1, 2, 0, 0, 0, 0, 0, 0, 0, 0, 0, 0, 2, 2, 2, 0, 2, 2, 2, 2, 2, 2, 2]
