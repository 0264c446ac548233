/-! the classes by their fields (out of the printed names); the methods by their names; links -/
def RX0 : String := "TwoTowns$Board"
def TX0 : u_T := fun k => match k with
  | 0 => ("TwoTowns$Board", "first", "LTwoTowns$Town;", false)
  | 1 => ("TwoTowns$Board", "second", "LTwoTowns$Town;", false)
  | 2 => ("TwoTowns$Board", "partner", "[I", true)
  | 3 => ("TwoTowns$Board", "taken", "[I", true)
  | 4 => ("TwoTowns$Board", "code", "I", false)
  | 5 => ("TwoTowns$Board", "alike", "Z", false)
  | 6 => ("TwoTowns$Board", "sides", "I", false)
  | 7 => ("TwoTowns$Board", "lasts", "[I", true)
  | 8 => ("TwoTowns$Board", "ends", "[I", true)
  | 9 => ("TwoTowns$Board", "ages", "[I", true)
  | _ => ("TwoTowns$Board", "age", "I", false)
def tyX0 : Nat → FieldType := fun k => match k with
  | 0 => .object "TwoTowns$Town"
  | 1 => .object "TwoTowns$Town"
  | 2 => .array .int
  | 3 => .array .int
  | 4 => .int
  | 5 => .boolean
  | 6 => .int
  | 7 => .array .int
  | 8 => .array .int
  | 9 => .array .int
  | _ => .int
theorem nmX0 : ∀ a, a < 11 → ∀ b, b < 11 → a ≠ b → (TX0 a).2.1 ≠ (TX0 b).2.1 := by decide +kernel
theorem tyX0_ok : ∀ k, k < 11 → parseFieldDescriptor (TX0 k).2.2.1 = some (tyX0 k) := by decide +kernel
def RX1 : String := "TwoTowns$Chance"
def TX1 : u_T := fun k => match k with
  | 0 => ("TwoTowns$Chance", "drawn", "J", false)
  | 1 => ("TwoTowns$Chance", "foundOut", "I", false)
  | _ => ("TwoTowns$Chance", "played", "I", false)
def tyX1 : Nat → FieldType := fun k => match k with
  | 0 => .long
  | 1 => .int
  | _ => .int
theorem nmX1 : ∀ a, a < 3 → ∀ b, b < 3 → a ≠ b → (TX1 a).2.1 ≠ (TX1 b).2.1 := by decide +kernel
theorem tyX1_ok : ∀ k, k < 3 → parseFieldDescriptor (TX1 k).2.2.1 = some (tyX1 k) := by decide +kernel
def RX2 : String := "TwoTowns$Claim"
def TX2 : u_T := fun k => match k with
  | 0 => ("TwoTowns$Claim", "verb", "[I", true)
  | 1 => ("TwoTowns$Claim", "one", "[I", true)
  | 2 => ("TwoTowns$Claim", "other", "[I", true)
  | 3 => ("TwoTowns$Claim", "second", "[I", true)
  | 4 => ("TwoTowns$Claim", "truth", "[J", true)
  | 5 => ("TwoTowns$Claim", "length", "I", false)
  | 6 => ("TwoTowns$Claim", "depth", "I", false)
  | 7 => ("TwoTowns$Claim", "names", "I", false)
  | 8 => ("TwoTowns$Claim", "looked", "Z", false)
  | 9 => ("TwoTowns$Claim", "ofThree", "J", false)
  | _ => ("TwoTowns$Claim", "ofFewer", "I", false)
def tyX2 : Nat → FieldType := fun k => match k with
  | 0 => .array .int
  | 1 => .array .int
  | 2 => .array .int
  | 3 => .array .int
  | 4 => .array .long
  | 5 => .int
  | 6 => .int
  | 7 => .int
  | 8 => .boolean
  | 9 => .long
  | _ => .int
theorem nmX2 : ∀ a, a < 11 → ∀ b, b < 11 → a ≠ b → (TX2 a).2.1 ≠ (TX2 b).2.1 := by decide +kernel
theorem tyX2_ok : ∀ k, k < 11 → parseFieldDescriptor (TX2 k).2.2.1 = some (tyX2 k) := by decide +kernel
def RX3 : String := "TwoTowns$ClaimReader"
def TX3 : u_T := fun k => match k with
  | _ => ("", "", "", false)
def tyX3 : Nat → FieldType := fun k => match k with
  | _ => .int
theorem nmX3 : ∀ a, a < 0 → ∀ b, b < 0 → a ≠ b → (TX3 a).2.1 ≠ (TX3 b).2.1 := by decide +kernel
theorem tyX3_ok : ∀ k, k < 0 → parseFieldDescriptor (TX3 k).2.2.1 = some (tyX3 k) := by decide +kernel
def RX4 : String := "TwoTowns$Colours"
def TX4 : u_T := fun k => match k with
  | 0 => ("TwoTowns$Colours", "colour", "[I", true)
  | 1 => ("TwoTowns$Colours", "next", "[I", true)
  | 2 => ("TwoTowns$Colours", "members", "[I", true)
  | 3 => ("TwoTowns$Colours", "first", "LTwoTowns$Town;", false)
  | 4 => ("TwoTowns$Colours", "second", "LTwoTowns$Town;", false)
  | 5 => ("TwoTowns$Colours", "many", "I", false)
  | _ => ("TwoTowns$Colours", "anew", "I", false)
def tyX4 : Nat → FieldType := fun k => match k with
  | 0 => .array .int
  | 1 => .array .int
  | 2 => .array .int
  | 3 => .object "TwoTowns$Town"
  | 4 => .object "TwoTowns$Town"
  | 5 => .int
  | _ => .int
theorem nmX4 : ∀ a, a < 7 → ∀ b, b < 7 → a ≠ b → (TX4 a).2.1 ≠ (TX4 b).2.1 := by decide +kernel
theorem tyX4_ok : ∀ k, k < 7 → parseFieldDescriptor (TX4 k).2.2.1 = some (tyX4 k) := by decide +kernel
def RX5 : String := "TwoTowns$Hands"
def TX5 : u_T := fun k => match k with
  | 0 => ("TwoTowns$Hands", "positions", "[I", true)
  | 1 => ("TwoTowns$Hands", "foundIn", "[I", true)
  | _ => ("TwoTowns$Hands", "many", "I", false)
def tyX5 : Nat → FieldType := fun k => match k with
  | 0 => .array .int
  | 1 => .array .int
  | _ => .int
theorem nmX5 : ∀ a, a < 3 → ∀ b, b < 3 → a ≠ b → (TX5 a).2.1 ≠ (TX5 b).2.1 := by decide +kernel
theorem tyX5_ok : ∀ k, k < 3 → parseFieldDescriptor (TX5 k).2.2.1 = some (tyX5 k) := by decide +kernel
def RX6 : String := "TwoTowns$State"
def TX6 : u_T := fun k => match k with
  | 0 => ("TwoTowns$State", "first", "LTwoTowns$Town;", true)
  | 1 => ("TwoTowns$State", "second", "LTwoTowns$Town;", true)
  | 2 => ("TwoTowns$State", "partner", "[I", true)
  | 3 => ("TwoTowns$State", "nobodyLeft", "Z", false)
  | 4 => ("TwoTowns$State", "reports", "I", false)
  | 5 => ("TwoTowns$State", "lostOfThree", "J", false)
  | _ => ("TwoTowns$State", "lostOfFewer", "I", false)
def tyX6 : Nat → FieldType := fun k => match k with
  | 0 => .object "TwoTowns$Town"
  | 1 => .object "TwoTowns$Town"
  | 2 => .array .int
  | 3 => .boolean
  | 4 => .int
  | 5 => .long
  | _ => .int
theorem nmX6 : ∀ a, a < 7 → ∀ b, b < 7 → a ≠ b → (TX6 a).2.1 ≠ (TX6 b).2.1 := by decide +kernel
theorem tyX6_ok : ∀ k, k < 7 → parseFieldDescriptor (TX6 k).2.2.1 = some (tyX6 k) := by decide +kernel
def RX7 : String := "TwoTowns$Tape"
def TX7 : u_T := fun k => match k with
  | 0 => ("TwoTowns$Tape", "signs", "[C", true)
  | 1 => ("TwoTowns$Tape", "size", "I", false)
  | 2 => ("TwoTowns$Tape", "place", "I", false)
  | 3 => ("TwoTowns$Tape", "end", "I", false)
  | 4 => ("TwoTowns$Tape", "kind", "I", false)
  | 5 => ("TwoTowns$Tape", "word", "I", false)
  | 6 => ("TwoTowns$Tape", "number", "I", false)
  | _ => ("TwoTowns$Tape", "fault", "I", false)
def tyX7 : Nat → FieldType := fun k => match k with
  | 0 => .array .char
  | 1 => .int
  | 2 => .int
  | 3 => .int
  | 4 => .int
  | 5 => .int
  | 6 => .int
  | _ => .int
theorem nmX7 : ∀ a, a < 8 → ∀ b, b < 8 → a ≠ b → (TX7 a).2.1 ≠ (TX7 b).2.1 := by decide +kernel
theorem tyX7_ok : ∀ k, k < 8 → parseFieldDescriptor (TX7 k).2.2.1 = some (tyX7 k) := by decide +kernel
def RX8 : String := "TwoTowns$Town"
def TX8 : u_T := fun k => match k with
  | 0 => ("TwoTowns$Town", "folk", "I", false)
  | 1 => ("TwoTowns$Town", "bakers", "I", false)
  | 2 => ("TwoTowns$Town", "widows", "I", false)
  | 3 => ("TwoTowns$Town", "near", "[I", true)
  | _ => ("TwoTowns$Town", "owes", "[I", true)
def tyX8 : Nat → FieldType := fun k => match k with
  | 0 => .int
  | 1 => .int
  | 2 => .int
  | 3 => .array .int
  | _ => .array .int
theorem nmX8 : ∀ a, a < 5 → ∀ b, b < 5 → a ≠ b → (TX8 a).2.1 ≠ (TX8 b).2.1 := by decide +kernel
theorem tyX8_ok : ∀ k, k < 5 → parseFieldDescriptor (TX8 k).2.2.1 = some (tyX8 k) := by decide +kernel
def RX9 : String := "TwoTowns$TownsReader"
def TX9 : u_T := fun k => match k with
  | 0 => ("TwoTowns$TownsReader", "nameFrom", "[I", true)
  | _ => ("TwoTowns$TownsReader", "nameTo", "[I", true)
def tyX9 : Nat → FieldType := fun k => match k with
  | 0 => .array .int
  | _ => .array .int
theorem nmX9 : ∀ a, a < 2 → ∀ b, b < 2 → a ≠ b → (TX9 a).2.1 ≠ (TX9 b).2.1 := by decide +kernel
theorem tyX9_ok : ∀ k, k < 2 → parseFieldDescriptor (TX9 k).2.2.1 = some (tyX9 k) := by decide +kernel
def RX10 : String := "TwoTowns"
def TX10 : u_T := fun k => match k with
  | 0 => ("TwoTowns", "tape", "LTwoTowns$Tape;", true)
  | 1 => ("TwoTowns", "now", "LTwoTowns$State;", true)
  | 2 => ("TwoTowns", "draft", "LTwoTowns$State;", true)
  | 3 => ("TwoTowns", "marks", "[LTwoTowns$State;", true)
  | 4 => ("TwoTowns", "laid", "[Z", true)
  | 5 => ("TwoTowns", "done", "[I", true)
  | 6 => ("TwoTowns", "doneMany", "I", false)
  | 7 => ("TwoTowns", "told", "LTwoTowns$Claim;", false)
  | 8 => ("TwoTowns", "spare", "LTwoTowns$Claim;", false)
  | 9 => ("TwoTowns", "hasClaim", "Z", false)
  | 10 => ("TwoTowns", "townsReader", "LTwoTowns$TownsReader;", true)
  | 11 => ("TwoTowns", "claimReader", "LTwoTowns$ClaimReader;", true)
  | 12 => ("TwoTowns", "board", "LTwoTowns$Board;", true)
  | 13 => ("TwoTowns", "handGame", "LTwoTowns$Hands;", true)
  | 14 => ("TwoTowns", "tints", "LTwoTowns$Colours;", true)
  | 15 => ("TwoTowns", "chance", "LTwoTowns$Chance;", true)
  | _ => ("TwoTowns", "trial", "LTwoTowns$Town;", true)
def tyX10 : Nat → FieldType := fun k => match k with
  | 0 => .object "TwoTowns$Tape"
  | 1 => .object "TwoTowns$State"
  | 2 => .object "TwoTowns$State"
  | 3 => .array (.object "TwoTowns$State")
  | 4 => .array .boolean
  | 5 => .array .int
  | 6 => .int
  | 7 => .object "TwoTowns$Claim"
  | 8 => .object "TwoTowns$Claim"
  | 9 => .boolean
  | 10 => .object "TwoTowns$TownsReader"
  | 11 => .object "TwoTowns$ClaimReader"
  | 12 => .object "TwoTowns$Board"
  | 13 => .object "TwoTowns$Hands"
  | 14 => .object "TwoTowns$Colours"
  | 15 => .object "TwoTowns$Chance"
  | _ => .object "TwoTowns$Town"
theorem nmX10 : ∀ a, a < 17 → ∀ b, b < 17 → a ≠ b → (TX10 a).2.1 ≠ (TX10 b).2.1 := by decide +kernel
theorem tyX10_ok : ∀ k, k < 17 → parseFieldDescriptor (TX10 k).2.2.1 = some (tyX10 k) := by decide +kernel
def RX11 : String := "TwoTownsModel"
def TX11 : u_T := fun k => match k with
  | 0 => ("TwoTownsModel", "thrown", "I", false)
  | 1 => ("TwoTownsModel", "tape", "[I", true)
  | 2 => ("TwoTownsModel", "taped", "I", false)
  | 3 => ("TwoTownsModel", "size", "I", false)
  | 4 => ("TwoTownsModel", "sort", "[I", true)
  | 5 => ("TwoTownsModel", "place", "[I", true)
  | 6 => ("TwoTownsModel", "value", "[J", true)
  | 7 => ("TwoTownsModel", "at", "I", false)
  | 8 => ("TwoTownsModel", "fault", "I", false)
  | 9 => ("TwoTownsModel", "words", "[J", true)
  | 10 => ("TwoTownsModel", "towns", "[I", true)
  | 11 => ("TwoTownsModel", "names", "[J", true)
  | 12 => ("TwoTownsModel", "nameOf", "[I", true)
  | 13 => ("TwoTownsModel", "namesMany", "I", false)
  | 14 => ("TwoTownsModel", "op", "[I", true)
  | 15 => ("TwoTownsModel", "first", "[I", true)
  | 16 => ("TwoTownsModel", "second", "[I", true)
  | 17 => ("TwoTownsModel", "behind", "[I", true)
  | 18 => ("TwoTownsModel", "length", "I", false)
  | 19 => ("TwoTownsModel", "readLength", "I", false)
  | 20 => ("TwoTownsModel", "bound", "[I", true)
  | 21 => ("TwoTownsModel", "sceneFolk", "I", false)
  | 22 => ("TwoTownsModel", "sceneBakers", "I", false)
  | 23 => ("TwoTownsModel", "sceneWidows", "I", false)
  | 24 => ("TwoTownsModel", "sceneNear", "[I", true)
  | 25 => ("TwoTownsModel", "sceneOwes", "[I", true)
  | 26 => ("TwoTownsModel", "means", "[I", true)
  | 27 => ("TwoTownsModel", "state", "[I", true)
  | 28 => ("TwoTownsModel", "undos", "I", false)
  | 29 => ("TwoTownsModel", "isMarked", "[Z", true)
  | 30 => ("TwoTownsModel", "base", "I", false)
  | 31 => ("TwoTownsModel", "pair", "[I", true)
  | 32 => ("TwoTownsModel", "found", "[I", true)
  | 33 => ("TwoTownsModel", "hand", "[I", true)
  | 34 => ("TwoTownsModel", "colour", "[I", true)
  | 35 => ("TwoTownsModel", "anew", "[I", true)
  | 36 => ("TwoTownsModel", "goes", "[I", true)
  | 37 => ("TwoTownsModel", "went", "[I", true)
  | _ => ("TwoTownsModel", "g", "J", false)
def tyX11 : Nat → FieldType := fun k => match k with
  | 0 => .int
  | 1 => .array .int
  | 2 => .int
  | 3 => .int
  | 4 => .array .int
  | 5 => .array .int
  | 6 => .array .long
  | 7 => .int
  | 8 => .int
  | 9 => .array .long
  | 10 => .array .int
  | 11 => .array .long
  | 12 => .array .int
  | 13 => .int
  | 14 => .array .int
  | 15 => .array .int
  | 16 => .array .int
  | 17 => .array .int
  | 18 => .int
  | 19 => .int
  | 20 => .array .int
  | 21 => .int
  | 22 => .int
  | 23 => .int
  | 24 => .array .int
  | 25 => .array .int
  | 26 => .array .int
  | 27 => .array .int
  | 28 => .int
  | 29 => .array .boolean
  | 30 => .int
  | 31 => .array .int
  | 32 => .array .int
  | 33 => .array .int
  | 34 => .array .int
  | 35 => .array .int
  | 36 => .array .int
  | 37 => .array .int
  | _ => .long
theorem nmX11 : ∀ a, a < 39 → ∀ b, b < 39 → a ≠ b → (TX11 a).2.1 ≠ (TX11 b).2.1 := by decide +kernel
theorem tyX11_ok : ∀ k, k < 39 → parseFieldDescriptor (TX11 k).2.2.1 = some (tyX11 k) := by decide +kernel
abbrev vwCl : List vw_C := [(RX0, TX0, 11), (RX1, TX1, 3), (RX2, TX2, 11), (RX3, TX3, 0), (RX4, TX4, 7), (RX5, TX5, 3), (RX6, TX6, 7), (RX7, TX7, 8), (RX8, TX8, 5), (RX9, TX9, 2), (RX10, TX10, 17), (RX11, TX11, 39)]
def jTy (c k : Nat) : FieldType := match c with
  | 0 => tyX0 k
  | 1 => tyX1 k
  | 2 => tyX2 k
  | 3 => tyX3 k
  | 4 => tyX4 k
  | 5 => tyX5 k
  | 6 => tyX6 k
  | 7 => tyX7 k
  | 8 => tyX8 k
  | 9 => tyX9 k
  | 10 => tyX10 k
  | _ => tyX11 k
def jNf (c : Nat) : Nat := ([11, 3, 11, 0, 7, 3, 7, 8, 5, 2, 17, 39] : List Nat).getD c 0
/-- kinds of fields: 0 int, 1 long, 2 boolean, 3 reference -/
def jTk : List (List Nat) := [[3, 3, 3, 3, 0, 2, 0, 3, 3, 3, 0], [1, 0, 0], [3, 3, 3, 3, 3, 0, 0, 0, 2, 1, 0], [], [3, 3, 3, 3, 3, 0, 0], [3, 3, 0], [3, 3, 3, 2, 0, 1, 0], [3, 0, 0, 0, 0, 0, 0, 0], [0, 0, 0, 3, 3], [3, 3], [3, 3, 3, 3, 3, 3, 0, 3, 3, 2, 3, 3, 3, 3, 3, 3, 3], [0, 3, 0, 0, 3, 3, 3, 0, 0, 3, 3, 3, 3, 0, 3, 3, 3, 3, 0, 0, 3, 0, 0, 0, 3, 3, 3, 3, 0, 3, 0, 3, 3, 3, 3, 3, 3, 3, 1]]
def jT (c k : Nat) : Nat := (jTk.getD c []).getD k 0
def jOwnL : List String := ["TwoTowns$Board", "TwoTowns$Chance", "TwoTowns$Claim", "TwoTowns$ClaimReader", "TwoTowns$Colours", "TwoTowns$Hands", "TwoTowns$State", "TwoTowns$Tape", "TwoTowns$Town", "TwoTowns$TownsReader", "TwoTowns", "TwoTownsModel", "TwoTownsLaw", "java/util/Arrays", "java/lang/Integer", "java/lang/Long"]
def jOwnS (k : Nat) : String := jOwnL.getD k ""
def jYL : List MethodName := [⟨"TwoTowns$Board", "<init>", "()V"⟩, ⟨"TwoTowns$Board", "lay", "(LTwoTowns$Town;LTwoTowns$Town;)V"⟩, ⟨"TwoTowns$Board", "load", "(LTwoTowns$State;)V"⟩, ⟨"TwoTowns$Board", "clearPairs", "()V"⟩, ⟨"TwoTowns$Board", "show", "(I)V"⟩, ⟨"TwoTowns$Board", "folkOf", "(I)I"⟩, ⟨"TwoTowns$Board", "isFree", "(II)Z"⟩, ⟨"TwoTowns$Board", "freeMany", "(I)I"⟩, ⟨"TwoTowns$Board", "freeAt", "(II)I"⟩, ⟨"TwoTowns$Board", "fits", "(II)Z"⟩, ⟨"TwoTowns$Board", "codeWith", "(II)I"⟩, ⟨"TwoTowns$Board", "place", "(II)V"⟩, ⟨"TwoTowns$Board", "take", "(I)V"⟩, ⟨"TwoTowns$Board", "lasting", "(I)I"⟩, ⟨"TwoTowns$Board", "lastingHere", "()I"⟩, ⟨"TwoTowns$Board", "lastsFor", "(I)Z"⟩, ⟨"TwoTowns$Board", "runsOut", "(I)Z"⟩, ⟨"TwoTowns$Board", "holds", "(I)Z"⟩, ⟨"TwoTowns$Board", "isAnswered", "(II)Z"⟩, ⟨"TwoTowns$Board", "hasAnswer", "(III)Z"⟩, ⟨"TwoTowns$Board", "holdsWith", "(III)Z"⟩, ⟨"TwoTowns$Board", "soonestPointing", "()I"⟩, ⟨"TwoTowns$Board", "longestReply", "(II)I"⟩, ⟨"TwoTowns$Board", "lastingWith", "(II)I"⟩, ⟨"TwoTowns$Board", "keepers", "(III)I"⟩, ⟨"TwoTowns$Board", "pairings", "()I"⟩, ⟨"TwoTowns$Board", "pairingsFrom", "(I)I"⟩, ⟨"TwoTowns$Board", "goesTo", "(I)I"⟩, ⟨"TwoTowns$Chance", "<init>", "()V"⟩, ⟨"TwoTowns$Chance", "begin", "(I)V"⟩, ⟨"TwoTowns$Chance", "below", "(I)I"⟩, ⟨"TwoTowns$Chance", "playOn", "(LTwoTowns$Board;)V"⟩, ⟨"TwoTowns$Chance", "isRoundKept", "(LTwoTowns$Board;)Z"⟩, ⟨"TwoTowns$Claim", "<init>", "()V"⟩, ⟨"TwoTowns$Claim", "empty", "()V"⟩, ⟨"TwoTowns$Claim", "add", "(I)I"⟩, ⟨"TwoTowns$Claim", "bind", "(III)V"⟩, ⟨"TwoTowns$Claim", "isSo", "(LTwoTowns$Town;)Z"⟩, ⟨"TwoTowns$Claim", "truthOf", "(IILTwoTowns$Town;)J"⟩, ⟨"TwoTowns$Claim", "known", "(II)J"⟩, ⟨"TwoTowns$Claim", "truthOfMany", "(IILTwoTowns$Town;)J"⟩, ⟨"TwoTowns$Claim", "knownFor", "(IIII)J"⟩, ⟨"TwoTowns$Claim", "truthOfTwo", "(IILTwoTowns$Town;)J"⟩, ⟨"TwoTowns$Claim", "where", "(III)J"⟩, ⟨"TwoTowns$Claim", "whereOne", "(III)J"⟩, ⟨"TwoTowns$Claim", "lookAtModels", "(LTwoTowns$Town;)V"⟩, ⟨"TwoTowns$ClaimReader", "<init>", "()V"⟩, ⟨"TwoTowns$ClaimReader", "read", "(LTwoTowns$Tape;LTwoTowns$Claim;)I"⟩, ⟨"TwoTowns$ClaimReader", "readSentence", "(LTwoTowns$Tape;LTwoTowns$Claim;III)Z"⟩, ⟨"TwoTowns$ClaimReader", "readAtom", "(LTwoTowns$Tape;LTwoTowns$Claim;II)Z"⟩, ⟨"TwoTowns$Colours", "<init>", "()V"⟩, ⟨"TwoTowns$Colours", "refine", "(LTwoTowns$Town;LTwoTowns$Town;)V"⟩, ⟨"TwoTowns$Colours", "unlike", "()I"⟩, ⟨"TwoTowns$Colours", "home", "(I)LTwoTowns$Town;"⟩, ⟨"TwoTowns$Colours", "exists", "(I)Z"⟩, ⟨"TwoTowns$Colours", "divide", "(Z)I"⟩, ⟨"TwoTowns$Colours", "firstLike", "(IZ)I"⟩, ⟨"TwoTowns$Colours", "isMarkedLike", "(II)Z"⟩, ⟨"TwoTowns$Colours", "isSurroundedLike", "(II)Z"⟩, ⟨"TwoTowns$Colours", "areLike", "(IIII)Z"⟩, ⟨"TwoTowns$Hands", "<init>", "()V"⟩, ⟨"TwoTowns$Hands", "lasting", "(LTwoTowns$Board;I)I"⟩, ⟨"TwoTowns$Hands", "gather", "(LTwoTowns$Board;II)V"⟩, ⟨"TwoTowns$Hands", "partLoose", "(LTwoTowns$Board;II)Z"⟩, ⟨"TwoTowns$Hands", "partFull", "(LTwoTowns$Board;II)V"⟩, ⟨"TwoTowns$Hands", "isPartedByLess", "(LTwoTowns$Board;I)Z"⟩, ⟨"TwoTowns$Hands", "isParted", "(LTwoTowns$Board;I)Z"⟩, ⟨"TwoTowns$Hands", "hasAnswer", "(LTwoTowns$Board;III)Z"⟩, ⟨"TwoTowns$Hands", "foundOutIn", "(I)I"⟩, ⟨"TwoTowns$State", "<init>", "()V"⟩, ⟨"TwoTowns$State", "empty", "()V"⟩, ⟨"TwoTowns$State", "become", "(LTwoTowns$State;)V"⟩, ⟨"TwoTowns$State", "town", "(I)LTwoTowns$Town;"⟩, ⟨"TwoTowns$State", "pair", "(II)V"⟩, ⟨"TwoTowns$State", "partnerOf", "(II)I"⟩, ⟨"TwoTowns$State", "pairsMany", "()I"⟩, ⟨"TwoTowns$State", "fewestLost", "()I"⟩, ⟨"TwoTowns$State", "mostLost", "()I"⟩, ⟨"TwoTowns$State", "isLostOf", "(I)Z"⟩, ⟨"TwoTowns$Tape", "<init>", "()V"⟩, ⟨"TwoTowns$Tape", "takeBytes", "(J)V"⟩, ⟨"TwoTowns$Tape", "wipe", "()V"⟩, ⟨"TwoTowns$Tape", "rewind", "()V"⟩, ⟨"TwoTowns$Tape", "next", "()V"⟩, ⟨"TwoTowns$Tape", "readWord", "()V"⟩, ⟨"TwoTowns$Tape", "readNumber", "()V"⟩, ⟨"TwoTowns$Tape", "reservedWord", "()I"⟩, ⟨"TwoTowns$Tape", "repeats", "(II)Z"⟩, ⟨"TwoTowns$Tape", "isName", "()Z"⟩, ⟨"TwoTowns$Tape", "wrong", "(I)Z"⟩, ⟨"TwoTowns$Tape", "isBlank", "(C)Z"⟩, ⟨"TwoTowns$Tape", "isLetter", "(C)Z"⟩, ⟨"TwoTowns$Tape", "isFigure", "(C)Z"⟩, ⟨"TwoTowns$Town", "<init>", "()V"⟩, ⟨"TwoTowns$Town", "empty", "()V"⟩, ⟨"TwoTowns$Town", "become", "(LTwoTowns$Town;)V"⟩, ⟨"TwoTowns$Town", "becomeModel", "(III)V"⟩, ⟨"TwoTowns$Town", "has", "(I)Z"⟩, ⟨"TwoTowns$Town", "nearTo", "(I)I"⟩, ⟨"TwoTowns$Town", "owedBy", "(I)I"⟩, ⟨"TwoTowns$Town", "owingTo", "(I)I"⟩, ⟨"TwoTowns$Town", "paintNumber", "(II)I"⟩, ⟨"TwoTowns$Town", "linkNumber", "(III)I"⟩, ⟨"TwoTowns$Town", "linkFrom", "(I)I"⟩, ⟨"TwoTowns$Town", "linkTo", "(I)I"⟩, ⟨"TwoTowns$Town", "isOwing", "(I)Z"⟩, ⟨"TwoTowns$Town", "mayChange", "(I)Z"⟩, ⟨"TwoTowns$Town", "change", "(I)V"⟩, ⟨"TwoTowns$Town", "isChanged", "(I)Z"⟩, ⟨"TwoTowns$Town", "around", "(I)I"⟩, ⟨"TwoTowns$Town", "steps", "(II)I"⟩, ⟨"TwoTowns$Town", "groupsMany", "()I"⟩, ⟨"TwoTowns$Town", "lonely", "()I"⟩, ⟨"TwoTowns$Town", "nearest", "()I"⟩, ⟨"TwoTowns$TownsReader", "<init>", "()V"⟩, ⟨"TwoTowns$TownsReader", "read", "(LTwoTowns$Tape;LTwoTowns$State;)I"⟩, ⟨"TwoTowns$TownsReader", "readStatement", "(LTwoTowns$Tape;LTwoTowns$State;)Z"⟩, ⟨"TwoTowns$TownsReader", "readFolk", "(LTwoTowns$Tape;LTwoTowns$State;)Z"⟩, ⟨"TwoTowns$TownsReader", "settle", "(LTwoTowns$Tape;LTwoTowns$State;II)Z"⟩, ⟨"TwoTowns$TownsReader", "readPaint", "(LTwoTowns$Tape;LTwoTowns$State;I)Z"⟩, ⟨"TwoTowns$TownsReader", "readLink", "(LTwoTowns$Tape;LTwoTowns$State;I)Z"⟩, ⟨"TwoTowns$TownsReader", "makeOnce", "(LTwoTowns$Tape;LTwoTowns$Town;I)Z"⟩, ⟨"TwoTowns$TownsReader", "readOne", "(LTwoTowns$Tape;LTwoTowns$State;)I"⟩, ⟨"TwoTowns$TownsReader", "whoIsNamed", "(LTwoTowns$Tape;LTwoTowns$State;)I"⟩, ⟨"TwoTowns", "<init>", "()V"⟩, ⟨"TwoTowns", "feed", "(JJJ)I"⟩, ⟨"TwoTowns", "towns", "()I"⟩, ⟨"TwoTowns", "claim", "()I"⟩, ⟨"TwoTowns", "folk", "(III)I"⟩, ⟨"TwoTowns", "count", "(I)I"⟩, ⟨"TwoTowns", "point", "(III)I"⟩, ⟨"TwoTowns", "paint", "(III)Z"⟩, ⟨"TwoTowns", "link", "(IIII)Z"⟩, ⟨"TwoTowns", "undo", "()Z"⟩, ⟨"TwoTowns", "mark", "(IZ)Z"⟩, ⟨"TwoTowns", "left", "()I"⟩, ⟨"TwoTowns", "hint", "()I"⟩, ⟨"TwoTowns", "reply", "(II)I"⟩, ⟨"TwoTowns", "rounds", "()I"⟩, ⟨"TwoTowns", "sided", "(I)I"⟩, ⟨"TwoTowns", "keeps", "(III)I"⟩, ⟨"TwoTowns", "hands", "(I)I"⟩, ⟨"TwoTowns", "mend", "(I)I"⟩, ⟨"TwoTowns", "elders", "(II)I"⟩, ⟨"TwoTowns", "colours", "(I)I"⟩, ⟨"TwoTowns", "ways", "()I"⟩, ⟨"TwoTowns", "selves", "(I)I"⟩, ⟨"TwoTowns", "orbit", "(II)I"⟩, ⟨"TwoTowns", "far", "(III)I"⟩, ⟨"TwoTowns", "groups", "(I)I"⟩, ⟨"TwoTowns", "loner", "(I)I"⟩, ⟨"TwoTowns", "most", "(I)I"⟩, ⟨"TwoTowns", "measure", "(I)I"⟩, ⟨"TwoTowns", "so", "(I)I"⟩, ⟨"TwoTowns", "parts", "()Z"⟩, ⟨"TwoTowns", "models", "()I"⟩, ⟨"TwoTowns", "report", "(Z)Z"⟩, ⟨"TwoTowns", "lost", "(I)I"⟩, ⟨"TwoTowns", "sure", "()I"⟩, ⟨"TwoTowns", "plays", "(III)I"⟩, ⟨"TwoTowns", "isTown", "(I)Z"⟩, ⟨"TwoTowns", "isOne", "(II)Z"⟩, ⟨"TwoTowns", "isFoundOut", "()Z"⟩, ⟨"TwoTowns", "orNone", "(I)I"⟩, ⟨"TwoTowns", "makeChange", "(II)V"⟩, ⟨"TwoTowns", "note", "(I)V"⟩, ⟨"TwoTowns", "isMended", "(III)Z"⟩, ⟨"TwoTowns", "isDigit", "(I)Z"⟩, ⟨"TwoTowns", "isAtRest", "(IIII)Z"⟩, ⟨"TwoTowns", "isContent", "(ZZIII)Z"⟩, ⟨"TwoTownsModel", "thrown", "()I"⟩, ⟨"TwoTownsModel", "feed", "(JJJ)I"⟩, ⟨"TwoTownsModel", "lay", "(J)V"⟩, ⟨"TwoTownsModel", "<init>", "()V"⟩, ⟨"TwoTownsModel", "isLetter", "(I)Z"⟩, ⟨"TwoTownsModel", "isDigit", "(I)Z"⟩, ⟨"TwoTownsModel", "rank", "(I)I"⟩, ⟨"TwoTownsModel", "isSignOf", "(I)Z"⟩, ⟨"TwoTownsModel", "cutAll", "()V"⟩, ⟨"TwoTownsModel", "wrong", "(I)V"⟩, ⟨"TwoTownsModel", "isSign", "(I)Z"⟩, ⟨"TwoTownsModel", "isWord", "(I)Z"⟩, ⟨"TwoTownsModel", "takeSign", "(I)V"⟩, ⟨"TwoTownsModel", "hasWord", "(I)Z"⟩, ⟨"TwoTownsModel", "takeWord", "(I)V"⟩, ⟨"TwoTownsModel", "within", "(III)Z"⟩, ⟨"TwoTownsModel", "bits", "(I)I"⟩, ⟨"TwoTownsModel", "wordHere", "(II)I"⟩, ⟨"TwoTownsModel", "isName", "()Z"⟩, ⟨"TwoTownsModel", "nameAt", "()I"⟩, ⟨"TwoTownsModel", "toldHere", "()I"⟩, ⟨"TwoTownsModel", "towns", "()I"⟩, ⟨"TwoTownsModel", "readLine", "()V"⟩, ⟨"TwoTownsModel", "readTwo", "(I)V"⟩, ⟨"TwoTownsModel", "readFolk", "()V"⟩, ⟨"TwoTownsModel", "claim", "()I"⟩, ⟨"TwoTownsModel", "readClaim", "(I)V"⟩, ⟨"TwoTownsModel", "takeAny", "()I"⟩, ⟨"TwoTownsModel", "takeName", "()I"⟩, ⟨"TwoTownsModel", "isSo", "(I)Z"⟩, ⟨"TwoTownsModel", "isSoOf", "(I)Z"⟩, ⟨"TwoTownsModel", "isSoInTown", "(I)Z"⟩, ⟨"TwoTownsModel", "worldFolk", "(I)I"⟩, ⟨"TwoTownsModel", "isSoInWorld", "(I)Z"⟩, ⟨"TwoTownsModel", "copies", "(III)V"⟩, ⟨"TwoTownsModel", "begins", "()V"⟩, ⟨"TwoTownsModel", "keeps", "()V"⟩, ⟨"TwoTownsModel", "folkOf", "(I)I"⟩, ⟨"TwoTownsModel", "isFolk", "(II)Z"⟩, ⟨"TwoTownsModel", "nearOf", "(III)I"⟩, ⟨"TwoTownsModel", "owesOf", "(III)I"⟩, ⟨"TwoTownsModel", "isAmong", "(II)Z"⟩, ⟨"TwoTownsModel", "isAlike", "(IIIII)Z"⟩, ⟨"TwoTownsModel", "areAlike", "(IIIIIII)Z"⟩, ⟨"TwoTownsModel", "isPaired", "(II)Z"⟩, ⟨"TwoTownsModel", "pairs", "()I"⟩, ⟨"TwoTownsModel", "isPosition", "()Z"⟩, ⟨"TwoTownsModel", "pairsNow", "()V"⟩, ⟨"TwoTownsModel", "noPairs", "(I)V"⟩, ⟨"TwoTownsModel", "lays", "(IIIZ)V"⟩, ⟨"TwoTownsModel", "leftIn", "(I)I"⟩, ⟨"TwoTownsModel", "isFoundBy", "(IIIII)Z"⟩, ⟨"TwoTownsModel", "isFoundAt", "(IIII)Z"⟩, ⟨"TwoTownsModel", "isFoundIn", "(II)Z"⟩, ⟨"TwoTownsModel", "foundIn", "(I)I"⟩, ⟨"TwoTownsModel", "isFound", "()Z"⟩, ⟨"TwoTownsModel", "folk", "(III)I"⟩, ⟨"TwoTownsModel", "point", "(III)I"⟩, ⟨"TwoTownsModel", "paint", "(III)Z"⟩, ⟨"TwoTownsModel", "links", "(IIIII)V"⟩, ⟨"TwoTownsModel", "link", "(IIII)Z"⟩, ⟨"TwoTownsModel", "undo", "()Z"⟩, ⟨"TwoTownsModel", "left0", "()I"⟩, ⟨"TwoTownsModel", "left", "()I"⟩, ⟨"TwoTownsModel", "hint", "()I"⟩, ⟨"TwoTownsModel", "reply", "(II)I"⟩, ⟨"TwoTownsModel", "rounds", "()I"⟩, ⟨"TwoTownsModel", "sided", "(I)I"⟩, ⟨"TwoTownsModel", "keeps", "(III)I"⟩, ⟨"TwoTownsModel", "areHands", "(I)Z"⟩, ⟨"TwoTownsModel", "handsAt", "(I)I"⟩, ⟨"TwoTownsModel", "isHandAt", "(IIIII)Z"⟩, ⟨"TwoTownsModel", "isHandIn", "(II)Z"⟩, ⟨"TwoTownsModel", "laysHands", "(II)Z"⟩, ⟨"TwoTownsModel", "handsGoOn", "(III)Z"⟩, ⟨"TwoTownsModel", "hands", "(I)I"⟩, ⟨"TwoTownsModel", "ofColour", "(III)I"⟩, ⟨"TwoTownsModel", "isThere", "(I)Z"⟩, ⟨"TwoTownsModel", "areOneColour", "(III)Z"⟩, ⟨"TwoTownsModel", "colours0", "(I)I"⟩, ⟨"TwoTownsModel", "colours", "(I)I"⟩, ⟨"TwoTownsModel", "waysFrom", "(IIII)I"⟩, ⟨"TwoTownsModel", "waysOf", "(II)I"⟩, ⟨"TwoTownsModel", "ways", "()I"⟩, ⟨"TwoTownsModel", "selves", "(I)I"⟩, ⟨"TwoTownsModel", "orbit", "(II)I"⟩, ⟨"TwoTownsModel", "changes", "(II)Z"⟩, ⟨"TwoTownsModel", "isMended", "(III)Z"⟩, ⟨"TwoTownsModel", "mend", "(I)I"⟩, ⟨"TwoTownsModel", "elders", "(II)I"⟩, ⟨"TwoTownsModel", "around", "(III)I"⟩, ⟨"TwoTownsModel", "far", "(III)I"⟩, ⟨"TwoTownsModel", "groups", "(I)I"⟩, ⟨"TwoTownsModel", "loner", "(I)I"⟩, ⟨"TwoTownsModel", "most", "(I)I"⟩, ⟨"TwoTownsModel", "depthOf", "(I)I"⟩, ⟨"TwoTownsModel", "measure", "(I)I"⟩, ⟨"TwoTownsModel", "so", "(I)I"⟩, ⟨"TwoTownsModel", "parts", "()Z"⟩, ⟨"TwoTownsModel", "models", "()I"⟩, ⟨"TwoTownsModel", "doesFit", "(I)Z"⟩, ⟨"TwoTownsModel", "report", "(Z)Z"⟩, ⟨"TwoTownsModel", "lost", "(I)I"⟩, ⟨"TwoTownsModel", "sure", "()I"⟩, ⟨"TwoTownsModel", "getsBy", "(IIIII)I"⟩, ⟨"TwoTownsModel", "rests", "(IIII)I"⟩, ⟨"TwoTownsModel", "draw", "(I)I"⟩, ⟨"TwoTownsModel", "leftAt", "(III)I"⟩, ⟨"TwoTownsModel", "drawsRound", "()Z"⟩, ⟨"TwoTownsModel", "plays", "(III)I"⟩, ⟨"TwoTownsModel", "mark", "(IZ)Z"⟩, ⟨"TwoTownsModel", "count", "(I)I"⟩, ⟨"TwoTownsLaw", "law", "([I)Z"⟩, ⟨"java/lang/Integer", "bitCount", "(I)I"⟩, ⟨"java/lang/Long", "bitCount", "(J)I"⟩, ⟨"java/util/Arrays", "fill", "([II)V"⟩]
def jY (m : Nat) : MethodName := jYL.getD m ⟨"", "", ""⟩
def jRtL : List (Option FieldType) := [none, none, none, none, none, some .int, some .boolean, some .int, some .int, some .boolean, some .int, none, none, some .int, some .int, some .boolean, some .boolean, some .boolean, some .boolean, some .boolean, some .boolean, some .int, some .int, some .int, some .int, some .int, some .int, some .int, none, none, some .int, none, some .boolean, none, none, some .int, none, some .boolean, some .long, some .long, some .long, some .long, some .long, some .long, some .long, none, none, some .int, some .boolean, some .boolean, none, none, some .int, some (.object "TwoTowns$Town"), some .boolean, some .int, some .int, some .boolean, some .boolean, some .boolean, none, some .int, none, some .boolean, none, some .boolean, some .boolean, some .boolean, some .int, none, none, none, some (.object "TwoTowns$Town"), none, some .int, some .int, some .int, some .int, some .boolean, none, none, none, none, none, none, none, some .int, some .boolean, some .boolean, some .boolean, some .boolean, some .boolean, some .boolean, none, none, none, none, some .boolean, some .int, some .int, some .int, some .int, some .int, some .int, some .int, some .boolean, some .boolean, none, some .boolean, some .int, some .int, some .int, some .int, some .int, none, some .int, some .boolean, some .boolean, some .boolean, some .boolean, some .boolean, some .boolean, some .int, some .int, none, some .int, some .int, some .int, some .int, some .int, some .int, some .boolean, some .boolean, some .boolean, some .boolean, some .int, some .int, some .int, some .int, some .int, some .int, some .int, some .int, some .int, some .int, some .int, some .int, some .int, some .int, some .int, some .int, some .int, some .int, some .int, some .boolean, some .int, some .boolean, some .int, some .int, some .int, some .boolean, some .boolean, some .boolean, some .int, none, none, some .boolean, some .boolean, some .boolean, some .boolean, some .int, some .int, none, none, some .boolean, some .boolean, some .int, some .boolean, none, none, some .boolean, some .boolean, none, some .boolean, none, some .boolean, some .int, some .int, some .boolean, some .int, some .int, some .int, none, none, none, some .int, none, some .int, some .int, some .boolean, some .boolean, some .boolean, some .int, some .boolean, none, none, none, some .int, some .boolean, some .int, some .int, some .boolean, some .boolean, some .boolean, some .boolean, some .int, some .boolean, none, none, none, some .int, some .boolean, some .boolean, some .boolean, some .int, some .boolean, some .int, some .int, some .boolean, none, some .boolean, some .boolean, some .int, some .int, some .int, some .int, some .int, some .int, some .int, some .boolean, some .int, some .boolean, some .boolean, some .boolean, some .boolean, some .int, some .int, some .boolean, some .boolean, some .int, some .int, some .int, some .int, some .int, some .int, some .int, some .boolean, some .boolean, some .int, some .int, some .int, some .int, some .int, some .int, some .int, some .int, some .int, some .int, some .boolean, some .int, some .boolean, some .boolean, some .int, some .int, some .int, some .int, some .int, some .int, some .boolean, some .int, some .boolean, some .int, some .boolean, some .int, some .int, none]
def jRt (m : Nat) : Option FieldType := jRtL.getD m none
def jOnL : List Nat := [0, 0, 0, 0, 0, 0, 0, 0, 0, 0, 0, 0, 0, 0, 0, 0, 0, 0, 0, 0, 0, 0, 0, 0, 0, 0, 0, 0, 1, 1, 1, 1, 1, 2, 2, 2, 2, 2, 2, 2, 2, 2, 2, 2, 2, 2, 3, 3, 3, 3, 4, 4, 4, 4, 4, 4, 4, 4, 4, 4, 5, 5, 5, 5, 5, 5, 5, 5, 5, 6, 6, 6, 6, 6, 6, 6, 6, 6, 6, 7, 7, 7, 7, 7, 7, 7, 7, 7, 7, 7, 7, 7, 7, 8, 8, 8, 8, 8, 8, 8, 8, 8, 8, 8, 8, 8, 8, 8, 8, 8, 8, 8, 8, 8, 9, 9, 9, 9, 9, 9, 9, 9, 9, 9, 10, 10, 10, 10, 10, 10, 10, 10, 10, 10, 10, 10, 10, 10, 10, 10, 10, 10, 10, 10, 10, 10, 10, 10, 10, 10, 10, 10, 10, 10, 10, 10, 10, 10, 10, 10, 10, 10, 10, 10, 10, 10, 10, 10, 10, 10, 11, 11, 11, 11, 11, 11, 11, 11, 11, 11, 11, 11, 11, 11, 11, 11, 11, 11, 11, 11, 11, 11, 11, 11, 11, 11, 11, 11, 11, 11, 11, 11, 11, 11, 11, 11, 11, 11, 11, 11, 11, 11, 11, 11, 11, 11, 11, 11, 11, 11, 11, 11, 11, 11, 11, 11, 11, 11, 11, 11, 11, 11, 11, 11, 11, 11, 11, 11, 11, 11, 11, 11, 11, 11, 11, 11, 11, 11, 11, 11, 11, 11, 11, 11, 11, 11, 11, 11, 11, 11, 11, 11, 11, 11, 11, 11, 11, 11, 11, 11, 11, 11, 11, 11, 11, 11, 11, 11, 11, 11, 11, 11, 12, 14, 15, 13]
def jOn (m : Nat) : Nat := jOnL.getD m 0
/-- a row: who links, by which number, the class, its field, 1 if as a nest mate; where it stands in the tables -/
def jFL : List (Nat × Nat × Nat × Nat × Nat × Nat) := [(10, 10, 10, 0, 0, 340), (10, 19, 10, 1, 0, 341), (10, 23, 10, 2, 0, 342), (10, 26, 10, 3, 0, 343), (10, 30, 10, 4, 0, 344), (10, 34, 10, 5, 0, 345), (10, 38, 10, 6, 0, 346), (10, 45, 10, 7, 0, 347), (10, 49, 10, 8, 0, 348), (10, 52, 10, 9, 0, 349), (10, 59, 10, 10, 0, 350), (10, 66, 10, 11, 0, 351), (10, 73, 10, 12, 0, 352), (10, 80, 10, 13, 0, 353), (10, 87, 10, 14, 0, 354), (10, 94, 10, 15, 0, 355), (10, 101, 10, 16, 0, 356), (10, 109, 7, 1, 1, 42), (10, 134, 8, 1, 1, 95), (10, 137, 8, 2, 1, 100), (10, 154, 6, 0, 1, 123), (10, 157, 8, 0, 1, 93), (10, 160, 6, 1, 1, 126), (10, 171, 6, 4, 1, 131), (10, 180, 6, 3, 1, 129), (10, 251, 4, 6, 1, 304), (10, 254, 4, 5, 1, 302), (10, 278, 2, 6, 1, 171), (10, 281, 2, 7, 1, 173), (10, 289, 2, 5, 1, 169), (10, 299, 2, 9, 1, 176), (10, 308, 2, 10, 1, 178), (10, 311, 6, 5, 1, 133), (10, 316, 6, 6, 1, 135), (10, 345, 1, 1, 1, 328), (10, 348, 1, 2, 1, 330), (10, 354, 0, 5, 1, 243), (0, 12, 0, 0, 0, 232), (0, 18, 0, 1, 0, 234), (0, 21, 0, 2, 0, 236), (0, 25, 0, 3, 0, 238), (0, 28, 0, 4, 0, 240), (0, 32, 0, 5, 0, 242), (0, 36, 0, 6, 0, 244), (0, 39, 0, 7, 0, 245), (0, 42, 0, 8, 0, 246), (0, 45, 0, 9, 0, 247), (0, 48, 0, 10, 0, 248), (0, 54, 6, 0, 1, 122), (0, 57, 6, 1, 1, 125), (0, 62, 8, 0, 1, 90), (0, 98, 8, 1, 1, 98), (0, 101, 8, 2, 1, 103), (0, 104, 8, 3, 1, 105), (0, 107, 8, 4, 1, 107), (1, 9, 1, 0, 0, 326), (1, 15, 1, 1, 0, 327), (1, 19, 1, 2, 0, 329), (2, 9, 2, 0, 0, 158), (2, 15, 2, 1, 0, 160), (2, 18, 2, 2, 0, 162), (2, 21, 2, 3, 0, 164), (2, 24, 2, 4, 0, 166), (2, 28, 2, 5, 0, 167), (2, 32, 2, 6, 0, 170), (2, 35, 2, 7, 0, 172), (2, 38, 2, 8, 0, 174), (2, 42, 2, 9, 0, 175), (2, 46, 2, 10, 0, 177), (2, 55, 8, 0, 1, 91), (2, 76, 8, 1, 1, 96), (2, 79, 8, 2, 1, 101), (3, 25, 7, 7, 1, 56), (3, 32, 7, 4, 1, 49), (3, 39, 7, 5, 1, 52), (3, 42, 2, 5, 1, 168), (3, 53, 2, 3, 1, 165), (3, 61, 2, 0, 1, 159), (3, 64, 2, 1, 1, 161), (3, 67, 2, 2, 1, 163), (4, 9, 4, 0, 0, 296), (4, 15, 4, 1, 0, 297), (4, 18, 4, 2, 0, 298), (4, 24, 4, 3, 0, 299), (4, 28, 4, 4, 0, 300), (4, 31, 4, 5, 0, 301), (4, 35, 4, 6, 0, 303), (4, 82, 8, 1, 1, 97), (4, 85, 8, 2, 1, 102), (5, 9, 5, 0, 0, 278), (5, 15, 5, 1, 0, 279), (5, 18, 5, 2, 0, 280), (5, 39, 0, 0, 1, 233), (5, 45, 8, 0, 1, 89), (5, 50, 0, 4, 1, 241), (5, 53, 0, 1, 1, 235), (5, 74, 0, 3, 1, 239), (5, 93, 0, 2, 1, 237), (6, 12, 6, 0, 0, 121), (6, 18, 6, 1, 0, 124), (6, 21, 6, 2, 0, 127), (6, 25, 6, 3, 0, 128), (6, 29, 6, 4, 0, 130), (6, 35, 6, 5, 0, 132), (6, 39, 6, 6, 0, 134), (7, 9, 7, 0, 0, 40), (7, 15, 7, 1, 0, 41), (7, 19, 7, 2, 0, 43), (7, 22, 7, 3, 0, 45), (7, 25, 7, 4, 0, 47), (7, 28, 7, 5, 0, 50), (7, 31, 7, 6, 0, 53), (7, 34, 7, 7, 0, 55), (8, 9, 8, 0, 0, 88), (8, 15, 8, 1, 0, 94), (8, 18, 8, 2, 0, 99), (8, 21, 8, 3, 0, 104), (8, 25, 8, 4, 0, 106), (9, 9, 9, 0, 0, 210), (9, 15, 9, 1, 0, 211), (9, 31, 7, 4, 1, 48), (9, 39, 7, 7, 1, 57), (9, 42, 7, 5, 1, 51), (9, 67, 7, 2, 1, 44), (9, 70, 7, 3, 1, 46), (9, 73, 7, 6, 1, 54), (9, 84, 8, 0, 1, 92), (11, 1, 11, 0, 0, 1265), (11, 11, 11, 2, 0, 1267), (11, 14, 11, 1, 0, 1266), (11, 24, 11, 4, 0, 1269), (11, 27, 11, 5, 0, 1270), (11, 30, 11, 6, 0, 1271), (11, 68, 11, 9, 0, 1274), (11, 71, 11, 10, 0, 1275), (11, 74, 11, 11, 0, 1276), (11, 77, 11, 12, 0, 1277), (11, 80, 11, 14, 0, 1279), (11, 83, 11, 15, 0, 1280), (11, 86, 11, 16, 0, 1281), (11, 89, 11, 17, 0, 1282), (11, 92, 11, 20, 0, 1285), (11, 95, 11, 24, 0, 1289), (11, 98, 11, 25, 0, 1290), (11, 101, 11, 26, 0, 1291), (11, 104, 11, 27, 0, 1292), (11, 107, 11, 29, 0, 1294), (11, 111, 11, 31, 0, 1296), (11, 114, 11, 32, 0, 1297), (11, 117, 11, 33, 0, 1298), (11, 120, 11, 34, 0, 1299), (11, 123, 11, 35, 0, 1300), (11, 126, 11, 36, 0, 1301), (11, 129, 11, 37, 0, 1302), (11, 139, 11, 3, 0, 1268), (11, 158, 11, 7, 0, 1272), (11, 161, 11, 8, 0, 1273), (11, 181, 11, 13, 0, 1278), (11, 217, 11, 19, 0, 1284), (11, 223, 11, 18, 0, 1283), (11, 232, 11, 22, 0, 1287), (11, 235, 11, 23, 0, 1288), (11, 244, 11, 21, 0, 1286), (11, 261, 11, 28, 0, 1293), (11, 272, 11, 30, 0, 1295), (11, 396, 11, 38, 0, 1303)]
def jZL : List (Nat × Nat × Nat × Nat) := [(0, 83, 1, 690), (5, 96, 1, 872)]
/-- a row: who links, by which number, 0 virtual 1 static 2 special, which method, 1 if as a nest mate; where -/
def jMLk : List (Nat × Nat × Nat × Nat × Nat × Nat) := [(10, 1, 2, 1000, 0, 31), (10, 9, 2, 79, 1, 36), (10, 18, 2, 69, 1, 78), (10, 44, 2, 33, 1, 154), (10, 58, 2, 114, 1, 206), (10, 65, 2, 46, 1, 219), (10, 72, 2, 0, 1, 226), (10, 79, 2, 60, 1, 274), (10, 86, 2, 50, 1, 290), (10, 93, 2, 28, 1, 322), (10, 100, 2, 93, 1, 339), (10, 105, 0, 80, 0, 396), (10, 112, 0, 115, 0, 405), (10, 116, 0, 81, 0, 574), (10, 119, 0, 71, 0, 578), (10, 123, 0, 47, 0, 595), (10, 126, 0, 161, 0, 629), (10, 130, 0, 72, 0, 637), (10, 140, 0, 98, 0, 639), (10, 144, 0, 99, 0, 644), (10, 147, 0, 100, 0, 648), (10, 150, 0, 74, 0, 652), (10, 163, 0, 75, 0, 660), (10, 167, 0, 162, 0, 664), (10, 174, 0, 6, 0, 696), (10, 177, 0, 7, 0, 700), (10, 183, 0, 165, 0, 714), (10, 187, 0, 9, 0, 719), (10, 190, 0, 73, 0, 720), (10, 194, 1, 101, 0, 728), (10, 197, 0, 164, 0, 729), (10, 200, 1, 102, 0, 738), (10, 204, 0, 107, 0, 733), (10, 207, 0, 13, 0, 751), (10, 210, 0, 163, 0, 780), (10, 213, 0, 21, 0, 788), (10, 216, 0, 22, 0, 797), (10, 219, 0, 1, 0, 809), (10, 223, 0, 160, 0, 633), (10, 227, 0, 24, 0, 818), (10, 230, 0, 61, 0, 826), (10, 233, 0, 95, 0, 877), (10, 236, 0, 16, 0, 878), (10, 239, 0, 166, 0, 886), (10, 243, 1, 1006, 0, 902), (10, 248, 0, 51, 0, 907), (10, 257, 0, 52, 0, 946), (10, 260, 0, 25, 0, 954), (10, 263, 0, 27, 0, 970), (10, 266, 0, 110, 0, 979), (10, 269, 0, 111, 0, 991), (10, 272, 0, 112, 0, 999), (10, 275, 0, 113, 0, 1010), (10, 284, 1, 283, 0, 1019), (10, 292, 0, 37, 0, 1024), (10, 296, 0, 45, 0, 1073), (10, 303, 1, 284, 0, 1085), (10, 319, 0, 76, 0, 1100), (10, 322, 0, 77, 0, 1108), (10, 335, 0, 29, 0, 1120), (10, 338, 0, 2, 0, 668), (10, 341, 0, 31, 0, 1124), (10, 351, 0, 97, 0, 638), (10, 357, 1, 1001, 0, 718), (10, 363, 0, 15, 0, 890), (10, 366, 0, 106, 0, 894), (10, 369, 1, 169, 0, 1222), (0, 3, 2, 1000, 0, 229), (0, 11, 2, 93, 1, 231), (0, 51, 0, 3, 0, 676), (0, 58, 0, 1, 0, 672), (0, 65, 0, 74, 0, 681), (0, 69, 0, 9, 0, 682), (0, 73, 0, 11, 0, 686), (0, 77, 1, 285, 0, 680), (0, 86, 0, 5, 0, 704), (0, 90, 1, 283, 0, 708), (0, 95, 0, 6, 0, 767), (0, 110, 0, 14, 0, 755), (0, 114, 0, 17, 0, 759), (0, 118, 0, 7, 0, 882), (0, 121, 1, 1006, 0, 883), (0, 126, 0, 18, 0, 763), (0, 129, 0, 19, 0, 768), (0, 133, 0, 20, 0, 772), (0, 136, 0, 12, 0, 776), (0, 140, 0, 13, 0, 792), (0, 143, 0, 23, 0, 801), (0, 146, 0, 26, 0, 958), (0, 149, 0, 25, 0, 974), (1, 3, 2, 1000, 0, 325), (1, 30, 0, 7, 0, 1128), (1, 36, 0, 32, 0, 1129), (1, 40, 0, 30, 0, 1133), (1, 43, 0, 8, 0, 1141), (1, 47, 0, 9, 0, 1145), (1, 51, 0, 11, 0, 1146), (2, 3, 2, 1000, 0, 157), (2, 49, 1, 1005, 0, 622), (2, 60, 0, 38, 0, 1028), (2, 64, 0, 39, 0, 1032), (2, 70, 0, 40, 0, 1037), (2, 73, 0, 42, 0, 1051), (2, 82, 0, 43, 0, 1057), (2, 86, 0, 41, 0, 1041), (2, 102, 0, 98, 0, 1055), (2, 106, 0, 99, 0, 1056), (2, 109, 0, 44, 0, 1061), (2, 112, 0, 96, 0, 1077), (2, 116, 0, 37, 0, 1084), (3, 3, 2, 1000, 0, 222), (3, 9, 0, 34, 0, 599), (3, 14, 0, 82, 0, 603), (3, 19, 0, 48, 0, 604), (3, 29, 0, 83, 0, 608), (3, 35, 0, 89, 0, 609), (3, 45, 0, 35, 0, 610), (3, 49, 0, 49, 0, 614), (3, 57, 0, 36, 0, 618), (4, 3, 2, 1000, 0, 293), (4, 23, 2, 93, 1, 295), (4, 38, 0, 55, 0, 911), (4, 42, 1, 283, 0, 941), (4, 48, 0, 53, 0, 919), (4, 52, 0, 97, 0, 923), (4, 56, 0, 54, 0, 915), (4, 59, 0, 56, 0, 924), (4, 63, 1, 1005, 0, 944), (4, 69, 1, 285, 0, 945), (4, 75, 0, 57, 0, 928), (4, 79, 0, 58, 0, 932), (4, 88, 0, 98, 0, 936), (4, 91, 0, 59, 0, 937), (4, 95, 0, 99, 0, 942), (4, 98, 0, 100, 0, 943), (5, 3, 2, 1000, 0, 277), (5, 22, 1, 285, 0, 830), (5, 28, 0, 62, 0, 831), (5, 32, 0, 63, 0, 839), (5, 36, 0, 64, 0, 864), (5, 56, 0, 6, 0, 835), (5, 60, 0, 9, 0, 836), (5, 63, 0, 11, 0, 837), (5, 67, 0, 12, 0, 838), (5, 71, 0, 4, 0, 843), (5, 77, 1, 283, 0, 847), (5, 83, 0, 68, 0, 848), (5, 86, 0, 66, 0, 852), (5, 90, 0, 65, 0, 868), (5, 99, 0, 67, 0, 856), (5, 103, 0, 10, 0, 860), (6, 3, 2, 1000, 0, 81), (6, 11, 2, 93, 1, 84), (6, 42, 0, 94, 0, 413), (6, 45, 1, 285, 0, 420), (6, 51, 0, 95, 0, 582), (6, 55, 1, 1001, 0, 589), (6, 61, 0, 78, 0, 1104), (7, 3, 2, 1000, 0, 39), (7, 39, 1, 90, 0, 429), (7, 43, 1, 91, 0, 432), (7, 46, 0, 84, 0, 435), (7, 49, 1, 92, 0, 492), (7, 52, 0, 85, 0, 495), (7, 55, 0, 86, 0, 439), (7, 61, 0, 1002, 0, 444), (7, 66, 0, 1003, 0, 454), (8, 3, 2, 1000, 0, 87), (8, 28, 1, 285, 0, 417), (8, 34, 1, 1001, 0, 586), (8, 40, 0, 94, 0, 1081), (8, 43, 1, 102, 0, 1082), (8, 47, 0, 107, 0, 1083), (8, 51, 0, 97, 0, 643), (8, 55, 1, 103, 0, 557), (8, 59, 1, 104, 0, 560), (8, 62, 1, 105, 0, 554), (8, 65, 0, 109, 0, 983), (8, 68, 0, 98, 0, 1003), (8, 71, 0, 99, 0, 1004), (8, 74, 0, 100, 0, 1005), (8, 77, 1, 283, 0, 1014), (9, 3, 2, 1000, 0, 209), (9, 18, 0, 70, 0, 409), (9, 23, 0, 82, 0, 421), (9, 28, 0, 83, 0, 425), (9, 35, 0, 116, 0, 499), (9, 45, 0, 117, 0, 503), (9, 48, 0, 120, 0, 535), (9, 52, 0, 119, 0, 567), (9, 55, 0, 89, 0, 511), (9, 59, 0, 88, 0, 507), (9, 63, 0, 123, 0, 515), (9, 76, 0, 118, 0, 531), (9, 80, 0, 72, 0, 519), (9, 89, 0, 122, 0, 539), (9, 92, 1, 101, 0, 571), (9, 96, 0, 121, 0, 546), (9, 100, 1, 102, 0, 543), (9, 104, 0, 108, 0, 550), (9, 107, 0, 107, 0, 563), (9, 111, 0, 97, 0, 523), (9, 114, 0, 87, 0, 527), (12, 15, 2, 124, 0, 28), (12, 18, 2, 173, 0, 1239), (12, 21, 0, 125, 0, 392), (12, 25, 0, 171, 0, 1229), (12, 26, 0, 126, 0, 401), (12, 30, 0, 191, 0, 1383), (12, 31, 0, 127, 0, 591), (12, 34, 0, 195, 0, 1461), (12, 35, 0, 128, 0, 625), (12, 39, 0, 226, 0, 1477), (12, 40, 0, 130, 0, 692), (12, 43, 0, 227, 0, 1501), (12, 44, 0, 131, 0, 724), (12, 48, 0, 228, 0, 1541), (12, 49, 0, 132, 0, 734), (12, 53, 0, 230, 0, 1545), (12, 54, 0, 133, 0, 739), (12, 58, 0, 231, 0, 1553), (12, 59, 0, 135, 0, 747), (12, 62, 0, 233, 0, 1557), (12, 63, 0, 136, 0, 784), (12, 66, 0, 234, 0, 1585), (12, 67, 0, 137, 0, 793), (12, 71, 0, 235, 0, 1589), (12, 72, 0, 138, 0, 805), (12, 75, 0, 236, 0, 1593), (12, 76, 0, 139, 0, 810), (12, 80, 0, 237, 0, 1601), (12, 81, 0, 140, 0, 814), (12, 84, 0, 238, 0, 1605), (12, 85, 0, 141, 0, 822), (12, 88, 0, 245, 0, 1609), (12, 89, 0, 144, 0, 903), (12, 92, 0, 250, 0, 1637), (12, 93, 0, 145, 0, 950), (12, 96, 0, 253, 0, 1657), (12, 97, 0, 146, 0, 962), (12, 100, 0, 254, 0, 1669), (12, 101, 0, 147, 0, 966), (12, 104, 0, 255, 0, 1673), (12, 105, 0, 142, 0, 873), (12, 108, 0, 258, 0, 1677), (12, 109, 0, 143, 0, 898), (12, 112, 0, 259, 0, 1689), (12, 113, 0, 148, 0, 975), (12, 116, 0, 261, 0, 1693), (12, 117, 0, 149, 0, 987), (12, 120, 0, 262, 0, 1701), (12, 121, 0, 150, 0, 995), (12, 124, 0, 263, 0, 1705), (12, 125, 0, 151, 0, 1006), (12, 128, 0, 264, 0, 1709), (12, 129, 0, 152, 0, 1015), (12, 132, 0, 266, 0, 1716), (12, 133, 0, 153, 0, 1020), (12, 136, 0, 267, 0, 1724), (12, 137, 0, 154, 0, 1065), (12, 140, 0, 268, 0, 1740), (12, 141, 0, 155, 0, 1069), (12, 144, 0, 269, 0, 1744), (12, 145, 0, 156, 0, 1091), (12, 149, 0, 271, 0, 1755), (12, 150, 0, 157, 0, 1096), (12, 153, 0, 272, 0, 1759), (12, 154, 0, 158, 0, 1112), (12, 157, 0, 273, 0, 1767), (12, 158, 1, 1004, 0, 1147), (12, 163, 0, 275, 0, 1771), (12, 164, 0, 170, 0, 1225), (12, 167, 0, 159, 0, 1116), (12, 170, 0, 279, 0, 1778), (12, 171, 0, 134, 0, 743), (12, 175, 0, 280, 0, 1798), (12, 176, 0, 129, 0, 656), (12, 179, 0, 281, 0, 1802), (11, 7, 0, 172, 0, 1233), (11, 18, 2, 1000, 0, 1242), (11, 132, 0, 205, 0, 1260), (11, 135, 1, 174, 0, 1391), (11, 144, 1, 176, 0, 1395), (11, 148, 1, 175, 0, 1398), (11, 155, 1, 177, 0, 1403), (11, 164, 0, 180, 0, 1457), (11, 167, 0, 179, 0, 1426), (11, 171, 0, 181, 0, 1414), (11, 174, 0, 183, 0, 1438), (11, 177, 0, 187, 0, 1410), (11, 184, 0, 188, 0, 1422), (11, 188, 0, 189, 0, 1430), (11, 192, 0, 178, 0, 1387), (11, 195, 0, 192, 0, 1406), (11, 198, 0, 182, 0, 1453), (11, 201, 0, 194, 0, 1418), (11, 204, 0, 190, 0, 1445), (11, 207, 0, 193, 0, 1449), (11, 210, 0, 184, 0, 1434), (11, 213, 1, 185, 0, 1442), (11, 220, 0, 196, 0, 1465), (11, 226, 0, 198, 0, 1469), (11, 229, 0, 197, 0, 1473), (11, 238, 0, 199, 0, 1732), (11, 241, 0, 200, 0, 1736), (11, 247, 0, 207, 0, 1485), (11, 250, 0, 209, 0, 1497), (11, 254, 0, 210, 0, 1489), (11, 257, 1, 202, 0, 1752), (11, 264, 0, 204, 0, 1537), (11, 268, 0, 211, 0, 1493), (11, 275, 0, 212, 0, 1517), (11, 279, 0, 213, 0, 1521), (11, 283, 0, 214, 0, 1529), (11, 286, 0, 219, 0, 1581), (11, 290, 0, 216, 0, 1513), (11, 293, 0, 223, 0, 1569), (11, 296, 0, 221, 0, 1577), (11, 299, 0, 222, 0, 1573), (11, 303, 0, 217, 0, 1509), (11, 306, 0, 208, 0, 1481), (11, 309, 0, 225, 0, 1505), (11, 312, 0, 220, 0, 1525), (11, 315, 0, 206, 0, 1533), (11, 318, 0, 229, 0, 1549), (11, 322, 0, 224, 0, 1565), (11, 325, 0, 232, 0, 1561), (11, 328, 0, 218, 0, 1597), (11, 331, 0, 240, 0, 1633), (11, 334, 0, 241, 0, 1629), (11, 337, 0, 243, 0, 1613), (11, 340, 0, 242, 0, 1625), (11, 343, 0, 239, 0, 1617), (11, 346, 0, 244, 0, 1621), (11, 349, 0, 246, 0, 1653), (11, 352, 0, 247, 0, 1645), (11, 355, 0, 248, 0, 1649), (11, 358, 0, 249, 0, 1641), (11, 361, 0, 251, 0, 1665), (11, 365, 0, 252, 0, 1661), (11, 368, 0, 256, 0, 1685), (11, 371, 0, 257, 0, 1681), (11, 374, 0, 260, 0, 1697), (11, 377, 1, 186, 0, 1713), (11, 380, 0, 265, 0, 1720), (11, 383, 0, 201, 0, 1728), (11, 386, 0, 203, 0, 1748), (11, 389, 0, 270, 0, 1763), (11, 392, 1, 274, 0, 1775), (11, 408, 0, 276, 0, 1786), (11, 411, 0, 277, 0, 1794), (11, 414, 0, 278, 0, 1782), (11, 417, 0, 215, 0, 1806)]
def jCLk : List (Nat × Nat × Nat × Nat) := [(10, 7, 7, 34), (10, 16, 6, 76), (10, 42, 2, 152), (10, 56, 9, 204), (10, 63, 3, 217), (10, 70, 0, 224), (10, 77, 5, 272), (10, 84, 4, 288), (10, 91, 1, 320), (10, 98, 8, 338), (0, 9, 8, 230), (4, 21, 8, 294), (6, 9, 8, 82), (12, 8, 10, 26), (12, 16, 11, 1238)]
def jKL : List (Nat × Nat × Nat × Nat) := [(10, 314, 4, 1095), (1, 22, 0, 1137), (1, 24, 1, 1138), (1, 26, 2, 1139), (1, 28, 3, 1140), (2, 68, 4, 1036), (2, 90, 5, 1045), (2, 92, 6, 1046), (2, 94, 7, 1047), (2, 96, 8, 1048), (2, 98, 9, 1049), (2, 100, 10, 1050), (6, 33, 4, 120), (7, 37, 11, 400), (12, 19, 32, 1810), (11, 34, 12, 1243), (11, 36, 13, 1244), (11, 38, 14, 1245), (11, 40, 15, 1246), (11, 42, 16, 1247), (11, 44, 17, 1248), (11, 46, 18, 1249), (11, 48, 19, 1250), (11, 50, 20, 1251), (11, 52, 21, 1252), (11, 54, 22, 1253), (11, 56, 23, 1254), (11, 58, 24, 1255), (11, 60, 25, 1256), (11, 62, 26, 1257), (11, 64, 27, 1258), (11, 66, 28, 1259), (11, 142, 29, 1394), (11, 151, 30, 1401), (11, 153, 31, 1402), (11, 400, 0, 1790), (11, 402, 1, 1791), (11, 404, 2, 1792), (11, 406, 3, 1793), (15, 314, 33, 1088), (15, 316, 34, 1089), (15, 318, 35, 1090)]
def jKI : List (Nat × Nat × Nat × Nat) := [(11, 260, 0, 1264), (14, 265, 1, 711), (14, 266, 2, 712), (14, 267, 3, 713)]
/-- of a method: where its code, its static or instanceMethod, its selects, its class's initialized stand in lw_tbl -/
def jPosL : List (Nat × Nat × Nat × Nat) := [(349, 348, 99999, 129), (796, 794, 795, 129), (792, 790, 791, 129), (800, 799, 16, 129), (967, 965, 966, 129), (828, 827, 17, 129), (820, 818, 819, 129), (824, 822, 823, 129), (1265, 1263, 1264, 129), (806, 804, 805, 129), (984, 982, 983, 129), (810, 808, 809, 129), (900, 898, 899, 129), (875, 873, 874, 129), (879, 878, 20, 129), (1014, 1012, 1013, 129), (1002, 1000, 1001, 129), (883, 882, 21, 129), (887, 886, 22, 129), (892, 891, 23, 129), (896, 895, 24, 129), (912, 910, 911, 129), (921, 919, 920, 129), (925, 924, 26, 129), (942, 940, 941, 129), (1078, 1076, 1077, 129), (1082, 1081, 42, 129), (1094, 1092, 1093, 129), (445, 444, 99999, 132), (1244, 1242, 1243, 132), (1257, 1256, 53, 132), (1248, 1246, 1247, 132), (1253, 1252, 52, 132), (277, 276, 99999, 126), (723, 721, 722, 126), (734, 732, 733, 126), (742, 740, 741, 126), (1148, 1146, 1147, 126), (1152, 1151, 44, 126), (1156, 1155, 45, 126), (1161, 1160, 46, 126), (1165, 1164, 47, 126), (1175, 1174, 48, 126), (1181, 1180, 49, 126), (1185, 1184, 50, 126), (1197, 1195, 1196, 126), (342, 341, 99999, 128), (719, 717, 718, 128), (728, 727, 11, 128), (738, 737, 12, 128), (413, 412, 99999, 131), (1031, 1029, 1030, 131), (1070, 1068, 1069, 131), (1043, 1042, 37, 131), (1039, 1038, 36, 131), (1035, 1034, 35, 131), (1048, 1047, 38, 131), (1052, 1051, 39, 131), (1056, 1055, 40, 131), (1061, 1060, 41, 131), (397, 396, 99999, 130), (950, 948, 949, 130), (955, 954, 27, 130), (963, 962, 28, 130), (988, 987, 32, 130), (992, 991, 33, 130), (976, 975, 30, 130), (980, 979, 31, 130), (972, 971, 29, 130), (201, 200, 99999, 124), (533, 531, 532, 124), (702, 700, 701, 124), (643, 641, 642, 124), (844, 842, 843, 124), (776, 774, 775, 124), (784, 782, 783, 124), (1224, 1222, 1223, 124), (1232, 1230, 1231, 124), (1228, 1227, 51, 124), (159, 158, 99999, 123), (520, 518, 519, 123), (698, 696, 697, 123), (545, 543, 544, 123), (549, 547, 548, 123), (559, 558, 0, 123), (619, 618, 2, 123), (563, 562, 1, 123), (651, 649, 650, 123), (631, 629, 630, 123), (635, 633, 634, 123), (552, 551, 99999, 123), (555, 554, 99999, 123), (615, 614, 99999, 123), (207, 206, 99999, 125), (537, 535, 536, 125), (706, 704, 705, 125), (1201, 1199, 1200, 125), (647, 645, 646, 125), (763, 761, 762, 125), (768, 766, 767, 125), (772, 770, 771, 125), (694, 693, 99999, 125), (666, 665, 99999, 125), (680, 679, 99999, 125), (683, 682, 99999, 125), (677, 676, 99999, 125), (1018, 1016, 1017, 125), (687, 685, 686, 125), (674, 672, 673, 125), (1107, 1106, 43, 125), (1103, 1101, 1102, 125), (1115, 1113, 1114, 125), (1123, 1121, 1122, 125), (1134, 1132, 1133, 125), (329, 328, 99999, 127), (529, 527, 528, 127), (623, 622, 3, 127), (627, 626, 4, 127), (655, 654, 6, 127), (691, 690, 10, 127), (659, 658, 7, 127), (670, 669, 9, 127), (663, 662, 8, 127), (639, 638, 5, 127), (151, 150, 99999, 122), (516, 514, 515, 122), (525, 523, 524, 122), (715, 713, 714, 122), (749, 747, 748, 122), (780, 778, 779, 122), (816, 814, 815, 122), (848, 846, 847, 122), (858, 856, 857, 122), (863, 861, 862, 122), (867, 865, 866, 122), (871, 869, 870, 122), (908, 906, 907, 122), (917, 915, 916, 122), (929, 927, 928, 122), (934, 932, 933, 122), (938, 936, 937, 122), (946, 944, 945, 122), (997, 995, 996, 122), (1022, 1020, 1021, 122), (1027, 1025, 1026, 122), (1074, 1072, 1073, 122), (1086, 1084, 1085, 122), (1090, 1088, 1089, 122), (1099, 1097, 1098, 122), (1111, 1109, 1110, 122), (1119, 1117, 1118, 122), (1130, 1128, 1129, 122), (1139, 1137, 1138, 122), (1144, 1142, 1143, 122), (1189, 1187, 1188, 122), (1193, 1191, 1192, 122), (1215, 1213, 1214, 122), (1220, 1218, 1219, 122), (1236, 1234, 1235, 122), (1240, 1238, 1239, 122), (757, 756, 14, 122), (753, 752, 13, 122), (788, 787, 15, 122), (904, 903, 25, 122), (853, 852, 19, 122), (838, 837, 18, 122), (1010, 1009, 34, 122), (1278, 1277, 99999, 122), (1342, 1341, 99999, 122), (1345, 1344, 99999, 122), (1349, 1347, 1348, 133), (1353, 1351, 1352, 133), (1358, 1356, 55, 133), (1362, 1361, 99999, 133), (1514, 1513, 99999, 133), (1521, 1520, 99999, 133), (1518, 1517, 99999, 133), (1526, 1525, 99999, 133), (1511, 1510, 57, 133), (1550, 1549, 63, 133), (1581, 1580, 70, 133), (1538, 1537, 60, 133), (1577, 1576, 69, 133), (1562, 1561, 66, 133), (1558, 1557, 65, 133), (1565, 1564, 99999, 133), (1836, 1835, 99999, 133), (1534, 1533, 59, 133), (1546, 1545, 62, 133), (1554, 1553, 64, 133), (1569, 1568, 67, 133), (1507, 1505, 1506, 133), (1530, 1529, 58, 133), (1573, 1572, 68, 133), (1542, 1541, 61, 133), (1585, 1583, 1584, 133), (1589, 1588, 71, 133), (1597, 1596, 73, 133), (1593, 1592, 72, 133), (1856, 1855, 113, 133), (1860, 1859, 114, 133), (1852, 1851, 112, 133), (1875, 1874, 99999, 133), (1872, 1871, 115, 133), (1661, 1660, 87, 133), (1384, 1383, 56, 133), (1657, 1656, 86, 133), (1609, 1608, 75, 133), (1605, 1604, 74, 133), (1621, 1620, 78, 133), (1613, 1612, 76, 133), (1617, 1616, 77, 133), (1641, 1640, 82, 133), (1645, 1644, 83, 133), (1653, 1652, 85, 133), (1930, 1929, 120, 133), (1637, 1636, 81, 133), (1633, 1632, 80, 133), (1721, 1720, 95, 133), (1705, 1704, 94, 133), (1649, 1648, 84, 133), (1701, 1700, 93, 133), (1697, 1696, 92, 133), (1693, 1692, 91, 133), (1689, 1688, 90, 133), (1629, 1628, 79, 133), (1601, 1599, 1600, 133), (1625, 1623, 1624, 133), (1665, 1663, 1664, 133), (1673, 1672, 88, 133), (1669, 1667, 1668, 133), (1677, 1675, 1676, 133), (1685, 1684, 89, 133), (1681, 1679, 1680, 133), (1709, 1707, 1708, 133), (1713, 1711, 1712, 133), (1717, 1715, 1716, 133), (1725, 1723, 1724, 133), (1729, 1727, 1728, 133), (1741, 1740, 97, 133), (1757, 1756, 101, 133), (1753, 1752, 100, 133), (1749, 1748, 99, 133), (1737, 1736, 96, 133), (1745, 1744, 98, 133), (1733, 1731, 1732, 133), (1777, 1776, 105, 133), (1769, 1768, 103, 133), (1773, 1772, 104, 133), (1765, 1764, 102, 133), (1761, 1759, 1760, 133), (1789, 1788, 107, 133), (1785, 1784, 106, 133), (1781, 1779, 1780, 133), (1793, 1791, 1792, 133), (1797, 1795, 1796, 133), (1809, 1808, 109, 133), (1805, 1804, 108, 133), (1801, 1799, 1800, 133), (1813, 1811, 1812, 133), (1821, 1820, 110, 133), (1817, 1815, 1816, 133), (1825, 1823, 1824, 133), (1829, 1827, 1828, 133), (1833, 1831, 1832, 133), (1844, 1843, 111, 133), (1840, 1838, 1839, 133), (1848, 1846, 1847, 133), (1864, 1862, 1863, 133), (1868, 1866, 1867, 133), (1887, 1886, 116, 133), (1879, 1877, 1878, 133), (1883, 1881, 1882, 133), (1891, 1889, 1890, 133), (1898, 1897, 99999, 133), (1895, 1893, 1894, 133), (1910, 1909, 118, 133), (1918, 1917, 119, 133), (1906, 1905, 117, 133), (1902, 1900, 1901, 133), (1922, 1920, 1921, 133), (1926, 1924, 1925, 133), (0, 0, 0, 0), (831, 830, 99999, 141), (1208, 1207, 99999, 142), (540, 539, 99999, 134)]
def jPos (m : Nat) : Nat × Nat × Nat × Nat := jPosL.getD m (0, 0, 0, 0)
def jNp : Nat := 121
def jLaw : Nat := 282
def jStatL : List Nat := [0, 0, 0, 0, 0, 0, 0, 0, 0, 0, 0, 0, 0, 0, 0, 0, 0, 0, 0, 0, 0, 0, 0, 0, 0, 0, 0, 0, 0, 0, 0, 0, 0, 0, 0, 0, 0, 0, 0, 0, 0, 0, 0, 0, 0, 0, 0, 0, 0, 0, 0, 0, 0, 0, 0, 0, 0, 0, 0, 0, 0, 0, 0, 0, 0, 0, 0, 0, 0, 0, 0, 0, 0, 0, 0, 0, 0, 0, 0, 0, 0, 0, 0, 0, 0, 0, 0, 0, 0, 0, 1, 1, 1, 0, 0, 0, 0, 0, 0, 0, 0, 1, 1, 1, 1, 1, 0, 0, 0, 0, 0, 0, 0, 0, 0, 0, 0, 0, 0, 0, 0, 0, 0, 0, 0, 0, 0, 0, 0, 0, 0, 0, 0, 0, 0, 0, 0, 0, 0, 0, 0, 0, 0, 0, 0, 0, 0, 0, 0, 0, 0, 0, 0, 0, 0, 0, 0, 0, 0, 0, 0, 0, 0, 0, 0, 0, 0, 1, 1, 1, 0, 0, 0, 0, 1, 1, 1, 1, 0, 0, 0, 0, 0, 0, 0, 1, 1, 0, 0, 0, 0, 0, 0, 0, 0, 0, 0, 0, 0, 0, 0, 0, 1, 0, 0, 0, 0, 0, 0, 0, 0, 0, 0, 0, 0, 0, 0, 0, 0, 0, 0, 0, 0, 0, 0, 0, 0, 0, 0, 0, 0, 0, 0, 0, 0, 0, 0, 0, 0, 0, 0, 0, 0, 0, 0, 0, 0, 0, 0, 0, 0, 0, 0, 0, 0, 0, 0, 0, 0, 0, 0, 0, 0, 0, 0, 0, 0, 0, 0, 0, 0, 0, 0, 0, 1, 0, 0, 0, 0, 0, 0, 0, 0, 1, 1, 1]
def jIsStat (m : Nat) : Nat := jStatL.getD m 0
def jInsL : List Nat := [346, 442, 274, 339, 410, 394, 198, 156, 204, 326, 148, 1357]
def jIniL : List Nat := [129, 132, 126, 128, 131, 130, 124, 123, 125, 127, 122, 133]
def jLayL : List (List Nat) := [[370, 372, 374, 376, 378, 380, 382, 384, 386, 388, 390], [452, 454, 456], [300, 302, 304, 306, 308, 310, 312, 314, 316, 318, 320], [], [426, 428, 430, 432, 434, 436, 438], [402, 404, 406], [257, 259, 261, 263, 265, 267, 269], [179, 181, 183, 185, 187, 189, 191, 193], [229, 231, 233, 235, 237], [333, 335], [478, 480, 482, 484, 486, 488, 490, 492, 494, 496, 498, 500, 502, 504, 506, 508, 510], [1425, 1427, 1429, 1431, 1433, 1435, 1437, 1439, 1441, 1443, 1445, 1447, 1449, 1451, 1453, 1455, 1457, 1459, 1461, 1463, 1465, 1467, 1469, 1471, 1473, 1475, 1477, 1479, 1481, 1483, 1485, 1487, 1489, 1491, 1493, 1495, 1497, 1499, 1501]]
/-- the bytes of a method, as the tables have them -/
def jBy (m : Nat) : ByteArray := if m = jLaw then code else match lw_tbl[(jPos m).1]? with
  | some (.code _ b _ _) => b
  | _ => ⟨#[]⟩
