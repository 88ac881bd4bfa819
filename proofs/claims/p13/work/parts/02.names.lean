/-! names: classes, their fields (printed by TURN); then the pure machine's own lists of classes -/
def RX0 : String := "TrainBearers$Bearing"
def TX0 : u_T := fun k => match k with
  | 0 => ("TrainBearers$Bearing", "sets", "[I", true)
  | 1 => ("TrainBearers$Bearing", "worth", "[I", true)
  | 2 => ("TrainBearers$Bearing", "best", "[I", true)
  | 3 => ("TrainBearers$Bearing", "lifted", "[I", true)
  | 4 => ("TrainBearers$Bearing", "everyone", "I", false)
  | _ => ("TrainBearers$Bearing", "chosen", "[I", true)
def tyX0 : Nat → FieldType := fun k => match k with
  | 0 => .array .int
  | 1 => .array .int
  | 2 => .array .int
  | 3 => .array .int
  | 4 => .int
  | _ => .array .int
theorem nmX0 : ∀ a, a < 6 → ∀ b, b < 6 → a ≠ b → (TX0 a).2.1 ≠ (TX0 b).2.1 := by decide +kernel
theorem tyX0_ok : ∀ k, k < 6 → parseFieldDescriptor (TX0 k).2.2.1 = some (tyX0 k) := by decide +kernel
def RX1 : String := "TrainBearers$Deeds"
def TX1 : u_T := fun k => match k with
  | 0 => ("TrainBearers$Deeds", "rules", "LTrainBearers$Rules;", true)
  | 1 => ("TrainBearers$Deeds", "sums", "LTrainBearers$Sums;", true)
  | 2 => ("TrainBearers$Deeds", "words", "[I", true)
  | 3 => ("TrainBearers$Deeds", "tiring", "[I", true)
  | 4 => ("TrainBearers$Deeds", "dips", "[I", true)
  | _ => ("TrainBearers$Deeds", "stopped", "I", false)
def tyX1 : Nat → FieldType := fun k => match k with
  | 0 => .object "TrainBearers$Rules"
  | 1 => .object "TrainBearers$Sums"
  | 2 => .array .int
  | 3 => .array .int
  | 4 => .array .int
  | _ => .int
theorem nmX1 : ∀ a, a < 6 → ∀ b, b < 6 → a ≠ b → (TX1 a).2.1 ≠ (TX1 b).2.1 := by decide +kernel
theorem tyX1_ok : ∀ k, k < 6 → parseFieldDescriptor (TX1 k).2.2.1 = some (tyX1 k) := by decide +kernel
def RX2 : String := "TrainBearers$Guess"
def TX2 : u_T := fun k => match k with
  | _ => ("TrainBearers$Guess", "dips", "[I", true)
def tyX2 : Nat → FieldType := fun k => match k with
  | _ => .array .int
theorem nmX2 : ∀ a, a < 1 → ∀ b, b < 1 → a ≠ b → (TX2 a).2.1 ≠ (TX2 b).2.1 := by decide +kernel
theorem tyX2_ok : ∀ k, k < 1 → parseFieldDescriptor (TX2 k).2.2.1 = some (tyX2 k) := by decide +kernel
def RX3 : String := "TrainBearers$Reader"
def TX3 : u_T := fun k => match k with
  | 0 => ("TrainBearers$Reader", "tape", "[I", true)
  | 1 => ("TrainBearers$Reader", "size", "I", false)
  | 2 => ("TrainBearers$Reader", "fault", "I", false)
  | 3 => ("TrainBearers$Reader", "start", "I", false)
  | 4 => ("TrainBearers$Reader", "stop", "I", false)
  | 5 => ("TrainBearers$Reader", "parts", "I", false)
  | 6 => ("TrainBearers$Reader", "laws", "Z", false)
  | _ => ("TrainBearers$Reader", "text", "LTrainBearers$Text;", true)
def tyX3 : Nat → FieldType := fun k => match k with
  | 0 => .array .int
  | 1 => .int
  | 2 => .int
  | 3 => .int
  | 4 => .int
  | 5 => .int
  | 6 => .boolean
  | _ => .object "TrainBearers$Text"
theorem nmX3 : ∀ a, a < 8 → ∀ b, b < 8 → a ≠ b → (TX3 a).2.1 ≠ (TX3 b).2.1 := by decide +kernel
theorem tyX3_ok : ∀ k, k < 8 → parseFieldDescriptor (TX3 k).2.2.1 = some (tyX3 k) := by decide +kernel
def RX4 : String := "TrainBearers$Rules"
def TX4 : u_T := fun k => match k with
  | 0 => ("TrainBearers$Rules", "sums", "LTrainBearers$Sums;", true)
  | _ => ("TrainBearers$Rules", "words", "[I", true)
def tyX4 : Nat → FieldType := fun k => match k with
  | 0 => .object "TrainBearers$Sums"
  | _ => .array .int
theorem nmX4 : ∀ a, a < 2 → ∀ b, b < 2 → a ≠ b → (TX4 a).2.1 ≠ (TX4 b).2.1 := by decide +kernel
theorem tyX4_ok : ∀ k, k < 2 → parseFieldDescriptor (TX4 k).2.2.1 = some (tyX4 k) := by decide +kernel
def RX5 : String := "TrainBearers$Steps"
def TX5 : u_T := fun k => match k with
  | 0 => ("TrainBearers$Steps", "rows", "[I", true)
  | 1 => ("TrainBearers$Steps", "first", "I", false)
  | _ => ("TrainBearers$Steps", "size", "I", false)
def tyX5 : Nat → FieldType := fun k => match k with
  | 0 => .array .int
  | 1 => .int
  | _ => .int
theorem nmX5 : ∀ a, a < 3 → ∀ b, b < 3 → a ≠ b → (TX5 a).2.1 ≠ (TX5 b).2.1 := by decide +kernel
theorem tyX5_ok : ∀ k, k < 3 → parseFieldDescriptor (TX5 k).2.2.1 = some (tyX5 k) := by decide +kernel
def RX6 : String := "TrainBearers$Sums"
def TX6 : u_T := fun k => match k with
  | _ => ("TrainBearers$Sums", "stack", "[J", true)
def tyX6 : Nat → FieldType := fun k => match k with
  | _ => .array .long
theorem nmX6 : ∀ a, a < 1 → ∀ b, b < 1 → a ≠ b → (TX6 a).2.1 ≠ (TX6 b).2.1 := by decide +kernel
theorem tyX6_ok : ∀ k, k < 1 → parseFieldDescriptor (TX6 k).2.2.1 = some (tyX6 k) := by decide +kernel
def RX7 : String := "TrainBearers$Text"
def TX7 : u_T := fun k => match k with
  | 0 => ("TrainBearers$Text", "clauses", "I", false)
  | 1 => ("TrainBearers$Text", "kind", "[I", true)
  | 2 => ("TrainBearers$Text", "first", "[I", true)
  | 3 => ("TrainBearers$Text", "second", "[I", true)
  | 4 => ("TrainBearers$Text", "test", "[I", true)
  | 5 => ("TrainBearers$Text", "times", "[I", true)
  | 6 => ("TrainBearers$Text", "length", "I", false)
  | 7 => ("TrainBearers$Text", "operations", "[I", true)
  | 8 => ("TrainBearers$Text", "operands", "[I", true)
  | _ => ("TrainBearers$Text", "dips", "I", false)
def tyX7 : Nat → FieldType := fun k => match k with
  | 0 => .int
  | 1 => .array .int
  | 2 => .array .int
  | 3 => .array .int
  | 4 => .array .int
  | 5 => .array .int
  | 6 => .int
  | 7 => .array .int
  | 8 => .array .int
  | _ => .int
theorem nmX7 : ∀ a, a < 10 → ∀ b, b < 10 → a ≠ b → (TX7 a).2.1 ≠ (TX7 b).2.1 := by decide +kernel
theorem tyX7_ok : ∀ k, k < 10 → parseFieldDescriptor (TX7 k).2.2.1 = some (tyX7 k) := by decide +kernel
def RX8 : String := "TrainBearers$Train"
def TX8 : u_T := fun k => match k with
  | 0 => ("TrainBearers$Train", "yards", "I", false)
  | 1 => ("TrainBearers$Train", "heavy", "[I", true)
  | 2 => ("TrainBearers$Train", "mud", "[I", true)
  | 3 => ("TrainBearers$Train", "girls", "I", false)
  | 4 => ("TrainBearers$Train", "strong", "[I", true)
  | 5 => ("TrainBearers$Train", "tired", "[I", true)
  | 6 => ("TrainBearers$Train", "holds", "[I", true)
  | 7 => ("TrainBearers$Train", "lanes", "[I", true)
  | 8 => ("TrainBearers$Train", "place", "I", false)
  | 9 => ("TrainBearers$Train", "fate", "I", false)
  | 10 => ("TrainBearers$Train", "sights", "I", false)
  | 11 => ("TrainBearers$Train", "sightYard", "[I", true)
  | 12 => ("TrainBearers$Train", "sightDip", "[I", true)
  | 13 => ("TrainBearers$Train", "terms", "[I", true)
  | 14 => ("TrainBearers$Train", "laws", "I", false)
  | 15 => ("TrainBearers$Train", "lawTexts", "[LTrainBearers$Text;", true)
  | _ => ("TrainBearers$Train", "inForce", "I", false)
def tyX8 : Nat → FieldType := fun k => match k with
  | 0 => .int
  | 1 => .array .int
  | 2 => .array .int
  | 3 => .int
  | 4 => .array .int
  | 5 => .array .int
  | 6 => .array .int
  | 7 => .array .int
  | 8 => .int
  | 9 => .int
  | 10 => .int
  | 11 => .array .int
  | 12 => .array .int
  | 13 => .array .int
  | 14 => .int
  | 15 => .array (.object "TrainBearers$Text")
  | _ => .int
theorem nmX8 : ∀ a, a < 17 → ∀ b, b < 17 → a ≠ b → (TX8 a).2.1 ≠ (TX8 b).2.1 := by decide +kernel
theorem tyX8_ok : ∀ k, k < 17 → parseFieldDescriptor (TX8 k).2.2.1 = some (tyX8 k) := by decide +kernel
def RX9 : String := "TrainBearers$Ways"
def TX9 : u_T := fun k => match k with
  | _ => ("TrainBearers$Ways", "cost", "[I", true)
def tyX9 : Nat → FieldType := fun k => match k with
  | _ => .array .int
theorem nmX9 : ∀ a, a < 1 → ∀ b, b < 1 → a ≠ b → (TX9 a).2.1 ≠ (TX9 b).2.1 := by decide +kernel
theorem tyX9_ok : ∀ k, k < 1 → parseFieldDescriptor (TX9 k).2.2.1 = some (tyX9 k) := by decide +kernel
def RX10 : String := "TrainBearers"
def TX10 : u_T := fun k => match k with
  | 0 => ("TrainBearers", "now", "LTrainBearers$Train;", false)
  | 1 => ("TrainBearers", "paper", "LTrainBearers$Train;", false)
  | 2 => ("TrainBearers", "drawnTrain", "LTrainBearers$Train;", true)
  | 3 => ("TrainBearers", "images", "[LTrainBearers$Train;", true)
  | 4 => ("TrainBearers", "imageKept", "[Z", true)
  | 5 => ("TrainBearers", "steps", "LTrainBearers$Steps;", false)
  | 6 => ("TrainBearers", "paperSteps", "LTrainBearers$Steps;", false)
  | 7 => ("TrainBearers", "reader", "LTrainBearers$Reader;", true)
  | 8 => ("TrainBearers", "rules", "LTrainBearers$Rules;", true)
  | 9 => ("TrainBearers", "deeds", "LTrainBearers$Deeds;", true)
  | 10 => ("TrainBearers", "bearing", "LTrainBearers$Bearing;", true)
  | 11 => ("TrainBearers", "guess", "LTrainBearers$Guess;", true)
  | 12 => ("TrainBearers", "ways", "LTrainBearers$Ways;", true)
  | 13 => ("TrainBearers", "refusals", "[I", true)
  | 14 => ("TrainBearers", "latestRefusal", "I", false)
  | _ => ("TrainBearers", "rowPuddles", "I", false)
def tyX10 : Nat → FieldType := fun k => match k with
  | 0 => .object "TrainBearers$Train"
  | 1 => .object "TrainBearers$Train"
  | 2 => .object "TrainBearers$Train"
  | 3 => .array (.object "TrainBearers$Train")
  | 4 => .array .boolean
  | 5 => .object "TrainBearers$Steps"
  | 6 => .object "TrainBearers$Steps"
  | 7 => .object "TrainBearers$Reader"
  | 8 => .object "TrainBearers$Rules"
  | 9 => .object "TrainBearers$Deeds"
  | 10 => .object "TrainBearers$Bearing"
  | 11 => .object "TrainBearers$Guess"
  | 12 => .object "TrainBearers$Ways"
  | 13 => .array .int
  | 14 => .int
  | _ => .int
theorem nmX10 : ∀ a, a < 16 → ∀ b, b < 16 → a ≠ b → (TX10 a).2.1 ≠ (TX10 b).2.1 := by decide +kernel
theorem tyX10_ok : ∀ k, k < 16 → parseFieldDescriptor (TX10 k).2.2.1 = some (tyX10 k) := by decide +kernel
def RX11 : String := "TrainBearersModel"
def TX11 : u_T := fun k => match k with
  | 0 => ("TrainBearersModel", "thrown", "I", false)
  | 1 => ("TrainBearersModel", "status", "I", false)
  | 2 => ("TrainBearersModel", "refusals", "[I", true)
  | 3 => ("TrainBearersModel", "row", "[I", true)
  | 4 => ("TrainBearersModel", "images", "[I", true)
  | 5 => ("TrainBearersModel", "isKept", "[Z", true)
  | 6 => ("TrainBearersModel", "undos", "[I", true)
  | 7 => ("TrainBearersModel", "sorts", "[I", true)
  | 8 => ("TrainBearersModel", "nUndo", "I", false)
  | 9 => ("TrainBearersModel", "undosBefore", "[I", true)
  | 10 => ("TrainBearersModel", "sortsBefore", "[I", true)
  | 11 => ("TrainBearersModel", "puddles", "I", false)
  | 12 => ("TrainBearersModel", "tape", "[I", true)
  | 13 => ("TrainBearersModel", "taped", "I", false)
  | 14 => ("TrainBearersModel", "from", "I", false)
  | 15 => ("TrainBearersModel", "to", "I", false)
  | 16 => ("TrainBearersModel", "sort", "I", false)
  | 17 => ("TrainBearersModel", "worth", "J", false)
  | 18 => ("TrainBearersModel", "fault", "I", false)
  | 19 => ("TrainBearersModel", "bad", "Z", false)
  | 20 => ("TrainBearersModel", "ordered", "Z", false)
  | 21 => ("TrainBearersModel", "nClauses", "I", false)
  | 22 => ("TrainBearersModel", "nClause", "[I", true)
  | 23 => ("TrainBearersModel", "nCode", "I", false)
  | 24 => ("TrainBearersModel", "nOp", "[I", true)
  | 25 => ("TrainBearersModel", "nArg", "[I", true)
  | 26 => ("TrainBearersModel", "nLeaves", "I", false)
  | 27 => ("TrainBearersModel", "pile", "[I", true)
  | 28 => ("TrainBearersModel", "pileAt", "[I", true)
  | 29 => ("TrainBearersModel", "piled", "I", false)
  | 30 => ("TrainBearersModel", "opened", "I", false)
  | 31 => ("TrainBearersModel", "words", "[J", true)
  | 32 => ("TrainBearersModel", "orderWords", "[J", true)
  | 33 => ("TrainBearersModel", "heads", "[J", true)
  | 34 => ("TrainBearersModel", "law", "I", false)
  | 35 => ("TrainBearersModel", "set", "[J", true)
  | 36 => ("TrainBearersModel", "now", "[J", true)
  | 37 => ("TrainBearersModel", "rest", "[J", true)
  | 38 => ("TrainBearersModel", "broken", "Z", false)
  | 39 => ("TrainBearersModel", "value", "J", false)
  | 40 => ("TrainBearersModel", "sum", "J", false)
  | 41 => ("TrainBearersModel", "dips", "[I", true)
  | 42 => ("TrainBearersModel", "tiring", "[I", true)
  | 43 => ("TrainBearersModel", "costs", "[I", true)
  | 44 => ("TrainBearersModel", "least", "[I", true)
  | 45 => ("TrainBearersModel", "lifting", "[I", true)
  | 46 => ("TrainBearersModel", "barred", "[Z", true)
  | 47 => ("TrainBearersModel", "alike", "[I", true)
  | 48 => ("TrainBearersModel", "left", "[I", true)
  | 49 => ("TrainBearersModel", "acts", "[J", true)
  | 50 => ("TrainBearersModel", "nOrder", "[I", true)
  | 51 => ("TrainBearersModel", "done", "I", false)
  | 52 => ("TrainBearersModel", "latest", "I", false)
  | 53 => ("TrainBearersModel", "stopped", "I", false)
  | 54 => ("TrainBearersModel", "off", "Z", false)
  | 55 => ("TrainBearersModel", "state", "J", false)
  | 56 => ("TrainBearersModel", "drawn", "[I", true)
  | 57 => ("TrainBearersModel", "drawnGirls", "I", false)
  | _ => ("TrainBearersModel", "drawnYards", "I", false)
def tyX11 : Nat → FieldType := fun k => match k with
  | 0 => .int
  | 1 => .int
  | 2 => .array .int
  | 3 => .array .int
  | 4 => .array .int
  | 5 => .array .boolean
  | 6 => .array .int
  | 7 => .array .int
  | 8 => .int
  | 9 => .array .int
  | 10 => .array .int
  | 11 => .int
  | 12 => .array .int
  | 13 => .int
  | 14 => .int
  | 15 => .int
  | 16 => .int
  | 17 => .long
  | 18 => .int
  | 19 => .boolean
  | 20 => .boolean
  | 21 => .int
  | 22 => .array .int
  | 23 => .int
  | 24 => .array .int
  | 25 => .array .int
  | 26 => .int
  | 27 => .array .int
  | 28 => .array .int
  | 29 => .int
  | 30 => .int
  | 31 => .array .long
  | 32 => .array .long
  | 33 => .array .long
  | 34 => .int
  | 35 => .array .long
  | 36 => .array .long
  | 37 => .array .long
  | 38 => .boolean
  | 39 => .long
  | 40 => .long
  | 41 => .array .int
  | 42 => .array .int
  | 43 => .array .int
  | 44 => .array .int
  | 45 => .array .int
  | 46 => .array .boolean
  | 47 => .array .int
  | 48 => .array .int
  | 49 => .array .long
  | 50 => .array .int
  | 51 => .int
  | 52 => .int
  | 53 => .int
  | 54 => .boolean
  | 55 => .long
  | 56 => .array .int
  | 57 => .int
  | _ => .int
theorem nmX11 : ∀ a, a < 59 → ∀ b, b < 59 → a ≠ b → (TX11 a).2.1 ≠ (TX11 b).2.1 := by decide +kernel
theorem tyX11_ok : ∀ k, k < 59 → parseFieldDescriptor (TX11 k).2.2.1 = some (tyX11 k) := by decide +kernel
abbrev pm_cls : List vw_C := [(RX0, TX0, 6), (RX1, TX1, 6), (RX2, TX2, 1), (RX3, TX3, 8), (RX4, TX4, 2), (RX5, TX5, 3), (RX6, TX6, 1), (RX7, TX7, 10), (RX8, TX8, 17), (RX9, TX9, 1), (RX10, TX10, 16), (RX11, TX11, 59)]
def pm_tyL : List (Nat → FieldType) := [tyX0, tyX1, tyX2, tyX3, tyX4, tyX5, tyX6, tyX7, tyX8, tyX9, tyX10, tyX11]
def pm_ty (ci k : Nat) : FieldType := (pm_tyL.getD ci (fun _ => .int)) k
def pm_ownL : List String := ["TrainBearers$Bearing", "TrainBearers$Deeds", "TrainBearers$Guess", "TrainBearers$Reader", "TrainBearers$Rules", "TrainBearers$Steps", "TrainBearers$Sums", "TrainBearers$Text", "TrainBearers$Train", "TrainBearers$Ways", "TrainBearers", "TrainBearersModel", "TrainBearersLaw", "java/lang/Integer", "java/lang/Math", "java/lang/String", "java/lang/StringLatin1", "java/util/Arrays", "jdk/internal/util/Preconditions"]
def pm_own (o : Nat) : String := pm_ownL.getD o ""
/-- an instruction of a method: its place, itself, its length, what it is linked to -/
abbrev pm_I : Type := Nat × Instr × Nat × Nat × Nat × Value
/-- a method: name, bytes, locals, what it returns, its class, how many arguments (with the object), instructions -/
abbrev pm_M : Type := MethodName × ByteArray × Nat × Option FieldType × Nat × Nat × List pm_I
def pm_decB (b : ByteArray) (e : pm_I) : Bool := decide (decode b e.1 = .ok (e.2.1, e.2.2.1))
