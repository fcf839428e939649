def RX10 : String := "LikenessPound"
abbrev cX10_isMan : ByteArray := prog_1_method_43_code
def yX10_isMan : MethodName := ⟨RX10, "isMan", "(I)Z"⟩
theorem t676 : Cond.code yX10_isMan cX10_isMan 2 (some .boolean) ∈ GW := gw_mem 790 (by decide +kernel) (by decide +kernel)
def RJ4 : String := "java/lang/StringBuilder"
def TJ4 : u_T := fun k => match k with
  | 0 => ("java/lang/AbstractStringBuilder", "value", "[B", false)
  | 1 => ("java/lang/AbstractStringBuilder", "coder", "B", false)
  | 2 => ("java/lang/AbstractStringBuilder", "maybeLatin1", "Z", false)
  | _ => ("java/lang/AbstractStringBuilder", "count", "I", false)
def tyJ4 : Nat → FieldType := fun k => match k with
  | 0 => .array .byte
  | 1 => .byte
  | 2 => .boolean
  | _ => .int
theorem nmJ4 : ∀ a, a < 4 → ∀ b, b < 4 → a ≠ b → (TJ4 a).2.1 ≠ (TJ4 b).2.1 := by decide +kernel
theorem tkJ4 : ∀ k, k < 4 → parseFieldDescriptor (TJ4 k).2.2.1 = some (tyJ4 k) := by decide +kernel
theorem inJ4 : ∀ w ∈ u_ws RJ4 TJ4 4, w ∈ GW := gw_sub [465, 467, 469, 471] (by decide +kernel) (by decide +kernel)
def RX0 : String := "LikenessPound$BookText"
def TX0 : u_T := fun k => match k with
  | 0 => ("LikenessPound$BookText", "who", "[I", true)
  | 1 => ("LikenessPound$BookText", "verb", "[I", true)
  | 2 => ("LikenessPound$BookText", "whom", "[I", true)
  | 3 => ("LikenessPound$BookText", "what", "[I", true)
  | 4 => ("LikenessPound$BookText", "lines", "I", false)
  | 5 => ("LikenessPound$BookText", "judged", "Z", false)
  | 6 => ("LikenessPound$BookText", "why", "I", false)
  | 7 => ("LikenessPound$BookText", "lived", "I", false)
  | 8 => ("LikenessPound$BookText", "yearThen", "I", false)
  | _ => ("LikenessPound$BookText", "seenThen", "I", false)
def tyX0 : Nat → FieldType := fun k => match k with
  | 0 => .array .int
  | 1 => .array .int
  | 2 => .array .int
  | 3 => .array .int
  | 4 => .int
  | 5 => .boolean
  | 6 => .int
  | 7 => .int
  | 8 => .int
  | _ => .int
theorem nmX0 : ∀ a, a < 10 → ∀ b, b < 10 → a ≠ b → (TX0 a).2.1 ≠ (TX0 b).2.1 := by decide +kernel
theorem tkX0 : ∀ k, k < 10 → parseFieldDescriptor (TX0 k).2.2.1 = some (tyX0 k) := by decide +kernel
theorem inX0 : ∀ w ∈ u_ws RX0 TX0 10, w ∈ GW := gw_sub [304, 306, 308, 310, 312, 314, 316, 318, 320, 322] (by decide +kernel) (by decide +kernel)
def RX1 : String := "LikenessPound$Colony"
def TX1 : u_T := fun k => match k with
  | 0 => ("LikenessPound$Colony", "manCode", "[J", true)
  | 1 => ("LikenessPound$Colony", "deedCode", "[J", true)
  | 2 => ("LikenessPound$Colony", "weight", "[I", true)
  | 3 => ("LikenessPound$Colony", "crime", "[Z", true)
  | 4 => ("LikenessPound$Colony", "kin", "[I", true)
  | 5 => ("LikenessPound$Colony", "men", "I", false)
  | 6 => ("LikenessPound$Colony", "deeds", "I", false)
  | 7 => ("LikenessPound$Colony", "room", "I", false)
  | _ => ("LikenessPound$Colony", "faint", "I", false)
def tyX1 : Nat → FieldType := fun k => match k with
  | 0 => .array .long
  | 1 => .array .long
  | 2 => .array .int
  | 3 => .array .boolean
  | 4 => .array .int
  | 5 => .int
  | 6 => .int
  | 7 => .int
  | _ => .int
theorem nmX1 : ∀ a, a < 9 → ∀ b, b < 9 → a ≠ b → (TX1 a).2.1 ≠ (TX1 b).2.1 := by decide +kernel
theorem tkX1 : ∀ k, k < 9 → parseFieldDescriptor (TX1 k).2.2.1 = some (tyX1 k) := by decide +kernel
theorem inX1 : ∀ w ∈ u_ws RX1 TX1 9, w ∈ GW := gw_sub [525, 527, 529, 531, 533, 535, 537, 539, 541] (by decide +kernel) (by decide +kernel)
def RX2 : String := "LikenessPound$ColonyText"
def TX2 : u_T := fun k => match k with
  | 0 => ("LikenessPound$ColonyText", "lines", "I", false)
  | 1 => ("LikenessPound$ColonyText", "first", "I", false)
  | 2 => ("LikenessPound$ColonyText", "second", "I", false)
  | 3 => ("LikenessPound$ColonyText", "roomTold", "Z", false)
  | _ => ("LikenessPound$ColonyText", "faintTold", "Z", false)
def tyX2 : Nat → FieldType := fun k => match k with
  | 0 => .int
  | 1 => .int
  | 2 => .int
  | 3 => .boolean
  | _ => .boolean
theorem nmX2 : ∀ a, a < 5 → ∀ b, b < 5 → a ≠ b → (TX2 a).2.1 ≠ (TX2 b).2.1 := by decide +kernel
theorem tkX2 : ∀ k, k < 5 → parseFieldDescriptor (TX2 k).2.2.1 = some (tyX2 k) := by decide +kernel
theorem inX2 : ∀ w ∈ u_ws RX2 TX2 5, w ∈ GW := gw_sub [272, 274, 276, 278, 280] (by decide +kernel) (by decide +kernel)
def RX3 : String := "LikenessPound$Lenders"
def TX3 : u_T := fun k => match k with
  | _ => ("LikenessPound$Lenders", "loan", "[I", true)
def tyX3 : Nat → FieldType := fun k => match k with
  | _ => .array .int
theorem nmX3 : ∀ a, a < 1 → ∀ b, b < 1 → a ≠ b → (TX3 a).2.1 ≠ (TX3 b).2.1 := by decide +kernel
theorem tkX3 : ∀ k, k < 1 → parseFieldDescriptor (TX3 k).2.2.1 = some (tyX3 k) := by decide +kernel
theorem inX3 : ∀ w ∈ u_ws RX3 TX3 1, w ∈ GW := gw_sub [424] (by decide +kernel) (by decide +kernel)
def RX4 : String := "LikenessPound$Life"
def TX4 : u_T := fun k => match k with
  | 0 => ("LikenessPound$Life", "age", "[I", true)
  | 1 => ("LikenessPound$Life", "did", "[I", true)
  | 2 => ("LikenessPound$Life", "owed", "[I", true)
  | 3 => ("LikenessPound$Life", "lentTo", "[I", true)
  | 4 => ("LikenessPound$Life", "lentDeed", "[I", true)
  | 5 => ("LikenessPound$Life", "sat", "[I", true)
  | 6 => ("LikenessPound$Life", "keptWhite", "[I", true)
  | 7 => ("LikenessPound$Life", "keptDark", "[I", true)
  | 8 => ("LikenessPound$Life", "keptYear", "[I", true)
  | 9 => ("LikenessPound$Life", "keptAge", "[I", true)
  | _ => ("LikenessPound$Life", "year", "I", false)
def tyX4 : Nat → FieldType := fun k => match k with
  | 0 => .array .int
  | 1 => .array .int
  | 2 => .array .int
  | 3 => .array .int
  | 4 => .array .int
  | 5 => .array .int
  | 6 => .array .int
  | 7 => .array .int
  | 8 => .array .int
  | 9 => .array .int
  | _ => .int
theorem nmX4 : ∀ a, a < 11 → ∀ b, b < 11 → a ≠ b → (TX4 a).2.1 ≠ (TX4 b).2.1 := by decide +kernel
theorem tkX4 : ∀ k, k < 11 → parseFieldDescriptor (TX4 k).2.2.1 = some (tyX4 k) := by decide +kernel
theorem inX4 : ∀ w ∈ u_ws RX4 TX4 11, w ∈ GW := gw_sub [384, 386, 388, 390, 392, 394, 396, 398, 400, 402, 404] (by decide +kernel) (by decide +kernel)
def RX5 : String := "LikenessPound$Past"
def TX5 : u_T := fun k => match k with
  | 0 => ("LikenessPound$Past", "lives", "[LLikenessPound$Life;", true)
  | 1 => ("LikenessPound$Past", "size", "I", false)
  | _ => ("LikenessPound$Past", "next", "I", false)
def tyX5 : Nat → FieldType := fun k => match k with
  | 0 => .array (.object "LikenessPound$Life")
  | 1 => .int
  | _ => .int
theorem nmX5 : ∀ a, a < 3 → ∀ b, b < 3 → a ≠ b → (TX5 a).2.1 ≠ (TX5 b).2.1 := by decide +kernel
theorem tkX5 : ∀ k, k < 3 → parseFieldDescriptor (TX5 k).2.2.1 = some (tyX5 k) := by decide +kernel
theorem inX5 : ∀ w ∈ u_ws RX5 TX5 3, w ∈ GW := gw_sub [410, 412, 414] (by decide +kernel) (by decide +kernel)
def RX6 : String := "LikenessPound$Sentence"
def TX6 : u_T := fun k => match k with
  | 0 => ("LikenessPound$Sentence", "step", "[I", true)
  | 1 => ("LikenessPound$Sentence", "sign", "[I", true)
  | 2 => ("LikenessPound$Sentence", "number", "[I", true)
  | 3 => ("LikenessPound$Sentence", "waiting", "[I", true)
  | 4 => ("LikenessPound$Sentence", "steps", "I", false)
  | _ => ("LikenessPound$Sentence", "ones", "I", false)
def tyX6 : Nat → FieldType := fun k => match k with
  | 0 => .array .int
  | 1 => .array .int
  | 2 => .array .int
  | 3 => .array .int
  | 4 => .int
  | _ => .int
theorem nmX6 : ∀ a, a < 6 → ∀ b, b < 6 → a ≠ b → (TX6 a).2.1 ≠ (TX6 b).2.1 := by decide +kernel
theorem tkX6 : ∀ k, k < 6 → parseFieldDescriptor (TX6 k).2.2.1 = some (tyX6 k) := by decide +kernel
theorem inX6 : ∀ w ∈ u_ws RX6 TX6 6, w ∈ GW := gw_sub [560, 562, 564, 566, 568, 570] (by decide +kernel) (by decide +kernel)
def RX7 : String := "LikenessPound$Sums"
def TX7 : u_T := fun k => match k with
  | 0 => ("LikenessPound$Sums", "most", "[I", true)
  | 1 => ("LikenessPound$Sums", "fewest", "[I", true)
  | _ => ("LikenessPound$Sums", "ways", "[J", true)
def tyX7 : Nat → FieldType := fun k => match k with
  | 0 => .array .int
  | 1 => .array .int
  | _ => .array .long
theorem nmX7 : ∀ a, a < 3 → ∀ b, b < 3 → a ≠ b → (TX7 a).2.1 ≠ (TX7 b).2.1 := by decide +kernel
theorem tkX7 : ∀ k, k < 3 → parseFieldDescriptor (TX7 k).2.2.1 = some (tyX7 k) := by decide +kernel
theorem inX7 : ∀ w ∈ u_ws RX7 TX7 3, w ∈ GW := gw_sub [437, 439, 441] (by decide +kernel) (by decide +kernel)
def RX8 : String := "LikenessPound$Tape"
def TX8 : u_T := fun k => match k with
  | 0 => ("LikenessPound$Tape", "bytes", "[I", true)
  | 1 => ("LikenessPound$Tape", "wordCodes", "[J", true)
  | 2 => ("LikenessPound$Tape", "length", "I", false)
  | 3 => ("LikenessPound$Tape", "limit", "I", false)
  | 4 => ("LikenessPound$Tape", "at", "I", false)
  | 5 => ("LikenessPound$Tape", "kind", "I", false)
  | 6 => ("LikenessPound$Tape", "start", "I", false)
  | 7 => ("LikenessPound$Tape", "word", "I", false)
  | 8 => ("LikenessPound$Tape", "code", "J", false)
  | 9 => ("LikenessPound$Tape", "number", "I", false)
  | 10 => ("LikenessPound$Tape", "faultKind", "I", false)
  | _ => ("LikenessPound$Tape", "faultPlace", "I", false)
def tyX8 : Nat → FieldType := fun k => match k with
  | 0 => .array .int
  | 1 => .array .long
  | 2 => .int
  | 3 => .int
  | 4 => .int
  | 5 => .int
  | 6 => .int
  | 7 => .int
  | 8 => .long
  | 9 => .int
  | 10 => .int
  | _ => .int
theorem nmX8 : ∀ a, a < 12 → ∀ b, b < 12 → a ≠ b → (TX8 a).2.1 ≠ (TX8 b).2.1 := by decide +kernel
theorem tkX8 : ∀ k, k < 12 → parseFieldDescriptor (TX8 k).2.2.1 = some (tyX8 k) := by decide +kernel
theorem inX8 : ∀ w ∈ u_ws RX8 TX8 12, w ∈ GW := gw_sub [232, 234, 236, 238, 240, 242, 244, 246, 248, 250, 252, 254] (by decide +kernel) (by decide +kernel)
def RX9 : String := "LikenessPound$World"
def TX9 : u_T := fun k => match k with
  | 0 => ("LikenessPound$World", "colony", "LLikenessPound$Colony;", true)
  | 1 => ("LikenessPound$World", "life", "LLikenessPound$Life;", true)
  | _ => ("LikenessPound$World", "sentence", "LLikenessPound$Sentence;", true)
def tyX9 : Nat → FieldType := fun k => match k with
  | 0 => .object "LikenessPound$Colony"
  | 1 => .object "LikenessPound$Life"
  | _ => .object "LikenessPound$Sentence"
theorem nmX9 : ∀ a, a < 3 → ∀ b, b < 3 → a ≠ b → (TX9 a).2.1 ≠ (TX9 b).2.1 := by decide +kernel
theorem tkX9 : ∀ k, k < 3 → parseFieldDescriptor (TX9 k).2.2.1 = some (tyX9 k) := by decide +kernel
theorem inX9 : ∀ w ∈ u_ws RX9 TX9 3, w ∈ GW := gw_sub [584, 586, 588] (by decide +kernel) (by decide +kernel)
def TX10 : u_T := fun k => match k with
  | 0 => ("LikenessPound", "tape", "LLikenessPound$Tape;", true)
  | 1 => ("LikenessPound", "colonyText", "LLikenessPound$ColonyText;", true)
  | 2 => ("LikenessPound", "bookText", "LLikenessPound$BookText;", true)
  | 3 => ("LikenessPound", "past", "LLikenessPound$Past;", true)
  | 4 => ("LikenessPound", "lenders", "LLikenessPound$Lenders;", true)
  | 5 => ("LikenessPound", "sums", "LLikenessPound$Sums;", true)
  | 6 => ("LikenessPound", "captionText", "Ljava/lang/StringBuilder;", true)
  | 7 => ("LikenessPound", "mayRow", "[I", true)
  | 8 => ("LikenessPound", "careerRow", "[I", true)
  | 9 => ("LikenessPound", "images", "[LLikenessPound$World;", true)
  | 10 => ("LikenessPound", "imageKept", "[Z", true)
  | 11 => ("LikenessPound", "world", "LLikenessPound$World;", false)
  | 12 => ("LikenessPound", "draft", "LLikenessPound$World;", false)
  | 13 => ("LikenessPound", "latestFault", "I", false)
  | 14 => ("LikenessPound", "latestHelp", "I", false)
  | 15 => ("LikenessPound", "mayDeeds", "I", false)
  | _ => ("LikenessPound", "careerDeeds", "I", false)
def tyX10 : Nat → FieldType := fun k => match k with
  | 0 => .object "LikenessPound$Tape"
  | 1 => .object "LikenessPound$ColonyText"
  | 2 => .object "LikenessPound$BookText"
  | 3 => .object "LikenessPound$Past"
  | 4 => .object "LikenessPound$Lenders"
  | 5 => .object "LikenessPound$Sums"
  | 6 => .object "java/lang/StringBuilder"
  | 7 => .array .int
  | 8 => .array .int
  | 9 => .array (.object "LikenessPound$World")
  | 10 => .array .boolean
  | 11 => .object "LikenessPound$World"
  | 12 => .object "LikenessPound$World"
  | 13 => .int
  | 14 => .int
  | 15 => .int
  | _ => .int
theorem nmX10 : ∀ a, a < 17 → ∀ b, b < 17 → a ≠ b → (TX10 a).2.1 ≠ (TX10 b).2.1 := by decide +kernel
theorem tkX10 : ∀ k, k < 17 → parseFieldDescriptor (TX10 k).2.2.1 = some (tyX10 k) := by decide +kernel
theorem inX10 : ∀ w ∈ u_ws RX10 TX10 17, w ∈ GW := gw_sub [608, 610, 612, 614, 616, 618, 620, 622, 624, 626, 628, 630, 632, 634, 636, 638, 640] (by decide +kernel) (by decide +kernel)
def RX11 : String := "LikenessPoundModel"
def TX11 : u_T := fun k => match k with
  | 0 => ("LikenessPoundModel", "thrown", "I", false)
  | 1 => ("LikenessPoundModel", "tape", "[I", true)
  | 2 => ("LikenessPoundModel", "taped", "I", false)
  | 3 => ("LikenessPoundModel", "size", "I", false)
  | 4 => ("LikenessPoundModel", "limit", "I", false)
  | 5 => ("LikenessPoundModel", "to", "I", false)
  | 6 => ("LikenessPoundModel", "from", "I", false)
  | 7 => ("LikenessPoundModel", "kind", "I", false)
  | 8 => ("LikenessPoundModel", "number", "I", false)
  | 9 => ("LikenessPoundModel", "sign", "I", false)
  | 10 => ("LikenessPoundModel", "fault", "I", false)
  | 11 => ("LikenessPoundModel", "place", "I", false)
  | 12 => ("LikenessPoundModel", "word", "J", false)
  | 13 => ("LikenessPoundModel", "told", "I", false)
  | 14 => ("LikenessPoundModel", "now", "[I", true)
  | 15 => ("LikenessPoundModel", "read", "[I", true)
  | 16 => ("LikenessPoundModel", "kept", "[I", true)
  | 17 => ("LikenessPoundModel", "snaps", "[I", true)
  | 18 => ("LikenessPoundModel", "aside", "[I", true)
  | 19 => ("LikenessPoundModel", "name", "[J", true)
  | 20 => ("LikenessPoundModel", "readName", "[J", true)
  | 21 => ("LikenessPoundModel", "keptName", "[J", true)
  | 22 => ("LikenessPoundModel", "isKept", "[Z", true)
  | 23 => ("LikenessPoundModel", "onces", "[Z", true)
  | 24 => ("LikenessPoundModel", "snapMany", "I", false)
  | 25 => ("LikenessPoundModel", "helping", "I", false)
  | 26 => ("LikenessPoundModel", "ways", "[J", true)
  | 27 => ("LikenessPoundModel", "fewest", "[I", true)
  | 28 => ("LikenessPoundModel", "maybe", "[I", true)
  | 29 => ("LikenessPoundModel", "maybeMany", "I", false)
  | 30 => ("LikenessPoundModel", "doing", "[I", true)
  | 31 => ("LikenessPoundModel", "career", "[I", true)
  | 32 => ("LikenessPoundModel", "careerMost", "I", false)
  | 33 => ("LikenessPoundModel", "careerTimes", "I", false)
  | 34 => ("LikenessPoundModel", "careerMany", "I", false)
  | 35 => ("LikenessPoundModel", "text", "[I", true)
  | 36 => ("LikenessPoundModel", "texts", "I", false)
  | 37 => ("LikenessPoundModel", "seed", "I", false)
  | 38 => ("LikenessPoundModel", "line", "[I", true)
  | 39 => ("LikenessPoundModel", "written", "[I", true)
  | 40 => ("LikenessPoundModel", "lineMany", "I", false)
  | 41 => ("LikenessPoundModel", "hasWritten", "Z", false)
  | 42 => ("LikenessPoundModel", "node", "[I", true)
  | 43 => ("LikenessPoundModel", "nodes", "I", false)
  | 44 => ("LikenessPoundModel", "onesMany", "I", false)
  | 45 => ("LikenessPoundModel", "within", "I", false)
  | _ => ("LikenessPoundModel", "top", "I", false)
def tyX11 : Nat → FieldType := fun k => match k with
  | 0 => .int
  | 1 => .array .int
  | 2 => .int
  | 3 => .int
  | 4 => .int
  | 5 => .int
  | 6 => .int
  | 7 => .int
  | 8 => .int
  | 9 => .int
  | 10 => .int
  | 11 => .int
  | 12 => .long
  | 13 => .int
  | 14 => .array .int
  | 15 => .array .int
  | 16 => .array .int
  | 17 => .array .int
  | 18 => .array .int
  | 19 => .array .long
  | 20 => .array .long
  | 21 => .array .long
  | 22 => .array .boolean
  | 23 => .array .boolean
  | 24 => .int
  | 25 => .int
  | 26 => .array .long
  | 27 => .array .int
  | 28 => .array .int
  | 29 => .int
  | 30 => .array .int
  | 31 => .array .int
  | 32 => .int
  | 33 => .int
  | 34 => .int
  | 35 => .array .int
  | 36 => .int
  | 37 => .int
  | 38 => .array .int
  | 39 => .array .int
  | 40 => .int
  | 41 => .boolean
  | 42 => .array .int
  | 43 => .int
  | 44 => .int
  | 45 => .int
  | _ => .int
theorem nmX11 : ∀ a, a < 47 → ∀ b, b < 47 → a ≠ b → (TX11 a).2.1 ≠ (TX11 b).2.1 := by decide +kernel
theorem tkX11 : ∀ k, k < 47 → parseFieldDescriptor (TX11 k).2.2.1 = some (tyX11 k) := by decide +kernel
theorem inX11 : ∀ w ∈ u_ws RX11 TX11 47, w ∈ GW := gw_sub [1607, 1609, 1611, 1613, 1615, 1617, 1619, 1621, 1623, 1625, 1627, 1629, 1631, 1633, 1635, 1637, 1639, 1641, 1643, 1645, 1647, 1649, 1651, 1653, 1655, 1657, 1659, 1661, 1663, 1665, 1667, 1669, 1671, 1673, 1675, 1677, 1679, 1681, 1683, 1685, 1687, 1689, 1691, 1693, 1695, 1697, 1699] (by decide +kernel) (by decide +kernel)
abbrev vwCl : List vw_C := [(RJ4, TJ4, 4), (RX0, TX0, 10), (RX1, TX1, 9), (RX2, TX2, 5), (RX3, TX3, 1), (RX4, TX4, 11), (RX5, TX5, 3), (RX6, TX6, 6), (RX7, TX7, 3), (RX8, TX8, 12), (RX9, TX9, 3), (RX10, TX10, 17), (RX11, TX11, 47)]
theorem dX10_isMan_0 : decode cX10_isMan 0 = .ok (.iload_n 1, 1) := by decide +kernel
theorem dX10_isMan_1 : decode cX10_isMan 1 = .ok (.ifCond .lt 21, 3) := by decide +kernel
theorem dX10_isMan_22 : decode cX10_isMan 22 = .ok (.iconst 0, 1) := by decide +kernel
theorem dX10_isMan_23 : decode cX10_isMan 23 = .ok (.ireturn, 1) := by decide +kernel
theorem dX10_isMan_4 : decode cX10_isMan 4 = .ok (.iload_n 1, 1) := by decide +kernel
theorem dX10_isMan_5 : decode cX10_isMan 5 = .ok (.aload_n 0, 1) := by decide +kernel
theorem dX10_isMan_6 : decode cX10_isMan 6 = .ok (.getfield 76, 3) := by decide +kernel
theorem t488 : Cond.fieldLink RX10 76 "LikenessPound" "world" "LLikenessPound$World;" ∈ GW := gw_mem 602 (by decide +kernel) (by decide +kernel)
theorem gf_X10_76 {p : Program} {l : Launch} {e : Env} {R : Room} {s : State} {m : MethodId} {args : Array Value} {below : List Frame} {meth : Method} {c : Code} {H : Heap} {locs : List Loc} {cells slots : Nat} {Q : State → Prop} {cc : ByteArray} {pc : Nat} {ls : Array Slot} {rest : List Value} {D : va_G} {a : Nat} {tys : List (ClassId × FieldType)} {ws : va_W} (hx : p.tables.exec = Jvm.exec) (hb : c.code = cc) (hts : ∀ w ∈ GW, w.before args s = true) (hown : s.vm.findClass RX10 = some m.cls) (hK : va_K D vwCl tys s) (hP : va_P D vwCl ws H) (q0 : Nat) {fs : List Value} (he : ws[q0]? = some (a, .inr (11, fs))) {v : Value} (hv : fs[11]? = some v) (hdg : decode cc pc = .ok (.getfield 76, 3)) (kk : W p l e R s m args below meth c H locs cells slots Q (F0 m (pc + 3) ls (v :: rest))) : W p l e R s m args below meth c H locs cells slots Q (F0 m pc ls (.ref a :: rest)) := va_get (C := RX10) (T := TX10) (N := 17) (ci := 11) hx hb hts inX10 hown hK hP q0 he rfl 11 (by decide) (hts _ t488) (fun _ h => h) hv hdg kk
theorem dX10_isMan_9 : decode cX10_isMan 9 = .ok (.getfield 94, 3) := by decide +kernel
theorem t461 : Cond.fieldLink RX10 94 "LikenessPound$World" "colony" "LLikenessPound$Colony;" ∈ GW := gw_mem 575 (by decide +kernel) (by decide +kernel)
theorem gf_X10_94 {p : Program} {l : Launch} {e : Env} {R : Room} {s : State} {m : MethodId} {args : Array Value} {below : List Frame} {meth : Method} {c : Code} {H : Heap} {locs : List Loc} {cells slots : Nat} {Q : State → Prop} {cc : ByteArray} {pc : Nat} {ls : Array Slot} {rest : List Value} {D : va_G} {a : Nat} {tys : List (ClassId × FieldType)} {ws : va_W} (hx : p.tables.exec = Jvm.exec) (hb : c.code = cc) (hts : ∀ w ∈ GW, w.before args s = true) (hown : s.vm.findClass RX10 = some m.cls) (hK : va_K D vwCl tys s) (hP : va_P D vwCl ws H) (q0 : Nat) {fs : List Value} (he : ws[q0]? = some (a, .inr (10, fs))) {v : Value} (hv : fs[0]? = some v) (hdg : decode cc pc = .ok (.getfield 94, 3)) (kk : W p l e R s m args below meth c H locs cells slots Q (F0 m (pc + 3) ls (v :: rest))) : W p l e R s m args below meth c H locs cells slots Q (F0 m pc ls (.ref a :: rest)) := va_get (C := RX9) (T := TX9) (N := 3) (ci := 10) hx hb hts inX9 hown hK hP q0 he rfl 0 (by decide) (hts _ t461) (fun _ h => h) hv hdg kk
theorem dX10_isMan_12 : decode cX10_isMan 12 = .ok (.getfield 324, 3) := by decide +kernel
theorem t395 : Cond.fieldLink RX10 324 "LikenessPound$Colony" "men" "I" ∈ GW := gw_mem 509 (by decide +kernel) (by decide +kernel)
theorem gf_X10_324 {p : Program} {l : Launch} {e : Env} {R : Room} {s : State} {m : MethodId} {args : Array Value} {below : List Frame} {meth : Method} {c : Code} {H : Heap} {locs : List Loc} {cells slots : Nat} {Q : State → Prop} {cc : ByteArray} {pc : Nat} {ls : Array Slot} {rest : List Value} {D : va_G} {a : Nat} {tys : List (ClassId × FieldType)} {ws : va_W} (hx : p.tables.exec = Jvm.exec) (hb : c.code = cc) (hts : ∀ w ∈ GW, w.before args s = true) (hown : s.vm.findClass RX10 = some m.cls) (hK : va_K D vwCl tys s) (hP : va_P D vwCl ws H) (q0 : Nat) {fs : List Value} (he : ws[q0]? = some (a, .inr (2, fs))) {v : Value} (hv : fs[5]? = some v) (hdg : decode cc pc = .ok (.getfield 324, 3)) (kk : W p l e R s m args below meth c H locs cells slots Q (F0 m (pc + 3) ls (v :: rest))) : W p l e R s m args below meth c H locs cells slots Q (F0 m pc ls (.ref a :: rest)) := va_get (C := RX1) (T := TX1) (N := 9) (ci := 2) hx hb hts inX1 hown hK hP q0 he rfl 5 (by decide) (hts _ t395) (fun _ h => h) hv hdg kk
theorem dX10_isMan_15 : decode cX10_isMan 15 = .ok (.if_icmp .ge 7, 3) := by decide +kernel
set_option maxHeartbeats 4000000 in
set_option maxRecDepth 100000 in
theorem k_isMan (l : Launch) (dC : Nat → ClassId) (dI : Nat → Nat → Nat) (cy : Nat → ClassId) (ad : Nat → Nat) (n0 : Int32)  : Met l yX10_isMan (wl yX10_isMan cX10_isMan 2 (some .boolean)) ({ frames := 0, cells := 0, slots := 0, locals := 0 }) (Pr (dC, dI) vwCl cy [(ad 0, .inr (11, [.ref (ad 1), .ref (ad 4), .ref (ad 5), .ref (ad 10), .ref (ad 23), .ref (ad 24), .ref (ad 25), .ref (ad 27), .ref (ad 28), .ref (ad 29), .ref (ad 30), .ref (ad 31), .ref (ad 54), .int 0, .int (-1), .int 0, .int 0])), (ad 31, .inr (10, [.ref (ad 32), .ref (ad 38), .ref (ad 49)])), (ad 32, .inr (2, [.ref (ad 33), .ref (ad 34), .ref (ad 35), .ref (ad 36), .ref (ad 37), .int 0, .int 0, .int 60, .int 10]))] [.ref (ad 0), .int n0]) (Ri (fun r => r = 0)) 0 0 (fun _ => False) := by
  refine mr RX10 rfl (by decide +kernel) (Nat.le_of_ble_eq_true rfl) ?_
  intro p e s m below meth c hx hb hr hlocks av9 hav hts hown hml hK hP hS Q9 hQ9 ls hl
  have hl : lv_has ls 2 [(0, .ref (ad 0)), (1, .int n0)] := hl
  refine lv_iload_n hx hb dX10_isMan_0 rfl (lv_at hl 1 rfl) ?_
  refine lv_if_lt (tgt := 22) hx hb dX10_isMan_1 (by decide) (fun c_1 => ?_) (fun c_1 => ?_)
  · skip
    refine lv_iconst (v := 0) hx hb dX10_isMan_22 (by decide) ?_
    rw [hQ9]
    exact rr_z hx hb hr hlocks (Or.inl rfl) rfl hS dX10_isMan_23
  · skip
    refine lv_iload_n hx hb dX10_isMan_4 rfl (lv_at hl 1 rfl) ?_
    refine lv_aload_n hx hb dX10_isMan_5 rfl (lv_at hl 0 rfl) ?_
    refine gf_X10_76 hx hb hts hown hK hP 0 rfl rfl dX10_isMan_6 ?_
    refine gf_X10_94 hx hb hts hown hK hP 1 rfl rfl dX10_isMan_9 ?_
    refine gf_X10_324 hx hb hts hown hK hP 2 rfl rfl dX10_isMan_12 ?_
    refine lv_icmp_ge (tgt := 22) hx hb dX10_isMan_15 (by decide) (fun _ => ?_) (fun c9 => absurd (Int32.not_lt.mp c_1) c9)
    refine lv_iconst (v := 0) hx hb dX10_isMan_22 (by decide) ?_
    rw [hQ9]
    exact rr_z hx hb hr hlocks (Or.inl rfl) rfl hS dX10_isMan_23
abbrev cX10_isDeed : ByteArray := prog_1_method_44_code
def yX10_isDeed : MethodName := ⟨RX10, "isDeed", "(I)Z"⟩
theorem t680 : Cond.code yX10_isDeed cX10_isDeed 2 (some .boolean) ∈ GW := gw_mem 794 (by decide +kernel) (by decide +kernel)
theorem dX10_isDeed_0 : decode cX10_isDeed 0 = .ok (.iload_n 1, 1) := by decide +kernel
theorem dX10_isDeed_1 : decode cX10_isDeed 1 = .ok (.ifCond .lt 21, 3) := by decide +kernel
theorem dX10_isDeed_22 : decode cX10_isDeed 22 = .ok (.iconst 0, 1) := by decide +kernel
theorem dX10_isDeed_23 : decode cX10_isDeed 23 = .ok (.ireturn, 1) := by decide +kernel
theorem dX10_isDeed_4 : decode cX10_isDeed 4 = .ok (.iload_n 1, 1) := by decide +kernel
theorem dX10_isDeed_5 : decode cX10_isDeed 5 = .ok (.aload_n 0, 1) := by decide +kernel
theorem dX10_isDeed_6 : decode cX10_isDeed 6 = .ok (.getfield 76, 3) := by decide +kernel
theorem dX10_isDeed_9 : decode cX10_isDeed 9 = .ok (.getfield 94, 3) := by decide +kernel
theorem dX10_isDeed_12 : decode cX10_isDeed 12 = .ok (.getfield 295, 3) := by decide +kernel
theorem t401 : Cond.fieldLink RX10 295 "LikenessPound$Colony" "deeds" "I" ∈ GW := gw_mem 515 (by decide +kernel) (by decide +kernel)
theorem gf_X10_295 {p : Program} {l : Launch} {e : Env} {R : Room} {s : State} {m : MethodId} {args : Array Value} {below : List Frame} {meth : Method} {c : Code} {H : Heap} {locs : List Loc} {cells slots : Nat} {Q : State → Prop} {cc : ByteArray} {pc : Nat} {ls : Array Slot} {rest : List Value} {D : va_G} {a : Nat} {tys : List (ClassId × FieldType)} {ws : va_W} (hx : p.tables.exec = Jvm.exec) (hb : c.code = cc) (hts : ∀ w ∈ GW, w.before args s = true) (hown : s.vm.findClass RX10 = some m.cls) (hK : va_K D vwCl tys s) (hP : va_P D vwCl ws H) (q0 : Nat) {fs : List Value} (he : ws[q0]? = some (a, .inr (2, fs))) {v : Value} (hv : fs[6]? = some v) (hdg : decode cc pc = .ok (.getfield 295, 3)) (kk : W p l e R s m args below meth c H locs cells slots Q (F0 m (pc + 3) ls (v :: rest))) : W p l e R s m args below meth c H locs cells slots Q (F0 m pc ls (.ref a :: rest)) := va_get (C := RX1) (T := TX1) (N := 9) (ci := 2) hx hb hts inX1 hown hK hP q0 he rfl 6 (by decide) (hts _ t401) (fun _ h => h) hv hdg kk
theorem dX10_isDeed_15 : decode cX10_isDeed 15 = .ok (.if_icmp .ge 7, 3) := by decide +kernel
set_option maxHeartbeats 4000000 in
set_option maxRecDepth 100000 in
theorem k_isDeed (l : Launch) (dC : Nat → ClassId) (dI : Nat → Nat → Nat) (cy : Nat → ClassId) (ad : Nat → Nat) (n0 : Int32)  : Met l yX10_isDeed (wl yX10_isDeed cX10_isDeed 2 (some .boolean)) ({ frames := 0, cells := 0, slots := 0, locals := 0 }) (Pr (dC, dI) vwCl cy [(ad 0, .inr (11, [.ref (ad 1), .ref (ad 4), .ref (ad 5), .ref (ad 10), .ref (ad 23), .ref (ad 24), .ref (ad 25), .ref (ad 27), .ref (ad 28), .ref (ad 29), .ref (ad 30), .ref (ad 31), .ref (ad 54), .int 0, .int (-1), .int 0, .int 0])), (ad 31, .inr (10, [.ref (ad 32), .ref (ad 38), .ref (ad 49)])), (ad 32, .inr (2, [.ref (ad 33), .ref (ad 34), .ref (ad 35), .ref (ad 36), .ref (ad 37), .int 0, .int 0, .int 60, .int 10]))] [.ref (ad 0), .int n0]) (Ri (fun r => r = 0)) 0 0 (fun _ => False) := by
  refine mr RX10 rfl (by decide +kernel) (Nat.le_of_ble_eq_true rfl) ?_
  intro p e s m below meth c hx hb hr hlocks av9 hav hts hown hml hK hP hS Q9 hQ9 ls hl
  have hl : lv_has ls 2 [(0, .ref (ad 0)), (1, .int n0)] := hl
  refine lv_iload_n hx hb dX10_isDeed_0 rfl (lv_at hl 1 rfl) ?_
  refine lv_if_lt (tgt := 22) hx hb dX10_isDeed_1 (by decide) (fun c_1 => ?_) (fun c_1 => ?_)
  · skip
    refine lv_iconst (v := 0) hx hb dX10_isDeed_22 (by decide) ?_
    rw [hQ9]
    exact rr_z hx hb hr hlocks (Or.inl rfl) rfl hS dX10_isDeed_23
  · skip
    refine lv_iload_n hx hb dX10_isDeed_4 rfl (lv_at hl 1 rfl) ?_
    refine lv_aload_n hx hb dX10_isDeed_5 rfl (lv_at hl 0 rfl) ?_
    refine gf_X10_76 hx hb hts hown hK hP 0 rfl rfl dX10_isDeed_6 ?_
    refine gf_X10_94 hx hb hts hown hK hP 1 rfl rfl dX10_isDeed_9 ?_
    refine gf_X10_295 hx hb hts hown hK hP 2 rfl rfl dX10_isDeed_12 ?_
    refine lv_icmp_ge (tgt := 22) hx hb dX10_isDeed_15 (by decide) (fun _ => ?_) (fun c9 => absurd (Int32.not_lt.mp c_1) c9)
    refine lv_iconst (v := 0) hx hb dX10_isDeed_22 (by decide) ?_
    rw [hQ9]
    exact rr_z hx hb hr hlocks (Or.inl rfl) rfl hS dX10_isDeed_23
abbrev cX10_did : ByteArray := prog_1_method_7_code
def yX10_did : MethodName := ⟨RX10, "did", "(II)I"⟩
theorem t672 : Cond.code yX10_did cX10_did 3 (some .int) ∈ GW := gw_mem 786 (by decide +kernel) (by decide +kernel)
theorem dX10_did_0 : decode cX10_did 0 = .ok (.aload_n 0, 1) := by decide +kernel
theorem dX10_did_1 : decode cX10_did 1 = .ok (.iload_n 1, 1) := by decide +kernel
theorem dX10_did_2 : decode cX10_did 2 = .ok (.invokevirtual 128, 3) := by decide +kernel
theorem t673 : Cond.methodLink RX10 128 yX10_isMan ∈ GW := gw_mem 787 (by decide +kernel) (by decide +kernel)
theorem t1 : Cond.initialized RX10 ∈ GW := gw_mem 115 (by decide +kernel) (by decide +kernel)
theorem t675 : Cond.instanceMethod yX10_isMan ∈ GW := gw_mem 789 (by decide +kernel) (by decide +kernel)
theorem s8 : Cond.selects RX10 yX10_isMan yX10_isMan ∈ GW := gw_mem 8 (by decide +kernel) (by decide +kernel)
theorem cw_X10_128 {R : Room} {s : State} {args : Array Value} {rm : Room} {mc ms : Nat} (hts : ∀ w ∈ GW, w.before args s = true) (hrc : rm.cells = mc) (hrs : rm.slots = ms) (hR : rm.frames + 1 ≤ R.frames ∧ 8 + (2 + 11) + rm.locals ≤ R.locals) : CallW R s args RX10 RX10 128 yX10_isMan cX10_isMan 2 (some .boolean) (wl yX10_isMan cX10_isMan 2 (some .boolean)) rm mc ms 1 := cwV 1 hts (gi_V t673 t675 s8 t1 t676) rfl hrc hrs (by decide +kernel) hR
theorem dX10_did_5 : decode cX10_did 5 = .ok (.ifCond .eq 31, 3) := by decide +kernel
theorem dX10_did_36 : decode cX10_did 36 = .ok (.iconst (-1), 1) := by decide +kernel
theorem dX10_did_37 : decode cX10_did 37 = .ok (.ireturn, 1) := by decide +kernel
set_option maxHeartbeats 4000000 in
set_option maxRecDepth 100000 in
theorem k_did (l : Launch) (dC : Nat → ClassId) (dI : Nat → Nat → Nat) (cy : Nat → ClassId) (ad : Nat → Nat) (n0 : Int32) (n1 : Int32)  : Met l yX10_did (wl yX10_did cX10_did 3 (some .int)) ({ frames := 1, cells := 0, slots := 0, locals := 64 }) (Pr (dC, dI) vwCl cy [(ad 0, .inr (11, [.ref (ad 1), .ref (ad 4), .ref (ad 5), .ref (ad 10), .ref (ad 23), .ref (ad 24), .ref (ad 25), .ref (ad 27), .ref (ad 28), .ref (ad 29), .ref (ad 30), .ref (ad 31), .ref (ad 54), .int 0, .int (-1), .int 0, .int 0])), (ad 31, .inr (10, [.ref (ad 32), .ref (ad 38), .ref (ad 49)])), (ad 32, .inr (2, [.ref (ad 33), .ref (ad 34), .ref (ad 35), .ref (ad 36), .ref (ad 37), .int 0, .int 0, .int 60, .int 10]))] [.ref (ad 0), .int n0, .int n1]) (Ri (fun r => r = (-1))) 0 0 (fun _ => False) := by
  refine mr RX10 rfl (by decide +kernel) (Nat.le_of_ble_eq_true rfl) ?_
  intro p e s m below meth c hx hb hr hlocks av9 hav hts hown hml hK hP hS Q9 hQ9 ls hl
  have hl : lv_has ls 3 [(0, .ref (ad 0)), (1, .int n0), (2, .int n1)] := hl
  refine lv_aload_n hx hb dX10_did_0 rfl (lv_at hl 0 rfl) ?_
  refine lv_iload_n hx hb dX10_did_1 rfl (lv_at hl 1 rfl) ?_
  refine jr_i (rVr (As := [.int n0]) (rest := []) (ci := 11) ⟨hx, hb, hml, hown, hts⟩ (k_isMan l dC dI cy ad n0 ) (cw_X10_128 hts rfl rfl ⟨Nat.le_of_ble_eq_true rfl, Nat.le_of_ble_eq_true rfl⟩) hP hK [0, 1, 2] rfl rfl rfl rfl hl.1 rfl (Nat.le_of_ble_eq_true rfl) dX10_did_2 ⟨Nat.le_of_ble_eq_true rfl, Nat.le_of_ble_eq_true rfl⟩) hP hS (fun r_1 H locs hp_2 hP hS => ?_)
  refine as_i 0 hp_2 ?_
  refine lv_if_eq (tgt := 36) hx hb dX10_did_5 (by decide) (fun _ => ?_) (fun c9 => absurd (by decide) c9)
  refine lv_iconst (v := (-1)) hx hb dX10_did_36 (by decide) ?_
  rw [hQ9]
  exact rr_i hx hb hr hlocks rfl hS dX10_did_37
abbrev cX10_deed : ByteArray := prog_1_method_8_code
def yX10_deed : MethodName := ⟨RX10, "deed", "(II)I"⟩
theorem t684 : Cond.code yX10_deed cX10_deed 3 (some .int) ∈ GW := gw_mem 798 (by decide +kernel) (by decide +kernel)
theorem dX10_deed_0 : decode cX10_deed 0 = .ok (.aload_n 0, 1) := by decide +kernel
theorem dX10_deed_1 : decode cX10_deed 1 = .ok (.iload_n 1, 1) := by decide +kernel
theorem dX10_deed_2 : decode cX10_deed 2 = .ok (.invokevirtual 162, 3) := by decide +kernel
theorem t677 : Cond.methodLink RX10 162 yX10_isDeed ∈ GW := gw_mem 791 (by decide +kernel) (by decide +kernel)
theorem t679 : Cond.instanceMethod yX10_isDeed ∈ GW := gw_mem 793 (by decide +kernel) (by decide +kernel)
theorem s9 : Cond.selects RX10 yX10_isDeed yX10_isDeed ∈ GW := gw_mem 9 (by decide +kernel) (by decide +kernel)
theorem cw_X10_162 {R : Room} {s : State} {args : Array Value} {rm : Room} {mc ms : Nat} (hts : ∀ w ∈ GW, w.before args s = true) (hrc : rm.cells = mc) (hrs : rm.slots = ms) (hR : rm.frames + 1 ≤ R.frames ∧ 8 + (2 + 11) + rm.locals ≤ R.locals) : CallW R s args RX10 RX10 162 yX10_isDeed cX10_isDeed 2 (some .boolean) (wl yX10_isDeed cX10_isDeed 2 (some .boolean)) rm mc ms 1 := cwV 1 hts (gi_V t677 t679 s9 t1 t680) rfl hrc hrs (by decide +kernel) hR
theorem dX10_deed_5 : decode cX10_deed 5 = .ok (.ifCond .ne 5, 3) := by decide +kernel
theorem dX10_deed_8 : decode cX10_deed 8 = .ok (.iconst (-1), 1) := by decide +kernel
theorem dX10_deed_9 : decode cX10_deed 9 = .ok (.ireturn, 1) := by decide +kernel
set_option maxHeartbeats 4000000 in
set_option maxRecDepth 100000 in
theorem k_deed (l : Launch) (dC : Nat → ClassId) (dI : Nat → Nat → Nat) (cy : Nat → ClassId) (ad : Nat → Nat) (n0 : Int32) (n1 : Int32)  : Met l yX10_deed (wl yX10_deed cX10_deed 3 (some .int)) ({ frames := 1, cells := 0, slots := 0, locals := 64 }) (Pr (dC, dI) vwCl cy [(ad 0, .inr (11, [.ref (ad 1), .ref (ad 4), .ref (ad 5), .ref (ad 10), .ref (ad 23), .ref (ad 24), .ref (ad 25), .ref (ad 27), .ref (ad 28), .ref (ad 29), .ref (ad 30), .ref (ad 31), .ref (ad 54), .int 0, .int (-1), .int 0, .int 0])), (ad 31, .inr (10, [.ref (ad 32), .ref (ad 38), .ref (ad 49)])), (ad 32, .inr (2, [.ref (ad 33), .ref (ad 34), .ref (ad 35), .ref (ad 36), .ref (ad 37), .int 0, .int 0, .int 60, .int 10]))] [.ref (ad 0), .int n0, .int n1]) (Ri (fun r => r = (-1))) 0 0 (fun _ => False) := by
  refine mr RX10 rfl (by decide +kernel) (Nat.le_of_ble_eq_true rfl) ?_
  intro p e s m below meth c hx hb hr hlocks av9 hav hts hown hml hK hP hS Q9 hQ9 ls hl
  have hl : lv_has ls 3 [(0, .ref (ad 0)), (1, .int n0), (2, .int n1)] := hl
  refine lv_aload_n hx hb dX10_deed_0 rfl (lv_at hl 0 rfl) ?_
  refine lv_iload_n hx hb dX10_deed_1 rfl (lv_at hl 1 rfl) ?_
  refine jr_i (rVr (As := [.int n0]) (rest := []) (ci := 11) ⟨hx, hb, hml, hown, hts⟩ (k_isDeed l dC dI cy ad n0 ) (cw_X10_162 hts rfl rfl ⟨Nat.le_of_ble_eq_true rfl, Nat.le_of_ble_eq_true rfl⟩) hP hK [0, 1, 2] rfl rfl rfl rfl hl.1 rfl (Nat.le_of_ble_eq_true rfl) dX10_deed_2 ⟨Nat.le_of_ble_eq_true rfl, Nat.le_of_ble_eq_true rfl⟩) hP hS (fun r_1 H locs hp_2 hP hS => ?_)
  refine as_i 0 hp_2 ?_
  refine lv_if_ne (tgt := 10) hx hb dX10_deed_5 (by decide) (fun c9 => absurd c9 (by decide)) (fun _ => ?_)
  refine lv_iconst (v := (-1)) hx hb dX10_deed_8 (by decide) ?_
  rw [hQ9]
  exact rr_i hx hb hr hlocks rfl hS dX10_deed_9
abbrev cX10_owes : ByteArray := prog_1_method_9_code
def yX10_owes : MethodName := ⟨RX10, "owes", "(II)I"⟩
theorem t692 : Cond.code yX10_owes cX10_owes 3 (some .int) ∈ GW := gw_mem 806 (by decide +kernel) (by decide +kernel)
theorem dX10_owes_0 : decode cX10_owes 0 = .ok (.aload_n 0, 1) := by decide +kernel
theorem dX10_owes_1 : decode cX10_owes 1 = .ok (.iload_n 1, 1) := by decide +kernel
theorem dX10_owes_2 : decode cX10_owes 2 = .ok (.invokevirtual 128, 3) := by decide +kernel
theorem dX10_owes_5 : decode cX10_owes 5 = .ok (.ifCond .eq 31, 3) := by decide +kernel
theorem dX10_owes_36 : decode cX10_owes 36 = .ok (.iconst (-1), 1) := by decide +kernel
theorem dX10_owes_37 : decode cX10_owes 37 = .ok (.ireturn, 1) := by decide +kernel
set_option maxHeartbeats 4000000 in
set_option maxRecDepth 100000 in
theorem k_owes (l : Launch) (dC : Nat → ClassId) (dI : Nat → Nat → Nat) (cy : Nat → ClassId) (ad : Nat → Nat) (n0 : Int32) (n1 : Int32)  : Met l yX10_owes (wl yX10_owes cX10_owes 3 (some .int)) ({ frames := 1, cells := 0, slots := 0, locals := 64 }) (Pr (dC, dI) vwCl cy [(ad 0, .inr (11, [.ref (ad 1), .ref (ad 4), .ref (ad 5), .ref (ad 10), .ref (ad 23), .ref (ad 24), .ref (ad 25), .ref (ad 27), .ref (ad 28), .ref (ad 29), .ref (ad 30), .ref (ad 31), .ref (ad 54), .int 0, .int (-1), .int 0, .int 0])), (ad 31, .inr (10, [.ref (ad 32), .ref (ad 38), .ref (ad 49)])), (ad 32, .inr (2, [.ref (ad 33), .ref (ad 34), .ref (ad 35), .ref (ad 36), .ref (ad 37), .int 0, .int 0, .int 60, .int 10]))] [.ref (ad 0), .int n0, .int n1]) (Ri (fun r => r = (-1))) 0 0 (fun _ => False) := by
  refine mr RX10 rfl (by decide +kernel) (Nat.le_of_ble_eq_true rfl) ?_
  intro p e s m below meth c hx hb hr hlocks av9 hav hts hown hml hK hP hS Q9 hQ9 ls hl
  have hl : lv_has ls 3 [(0, .ref (ad 0)), (1, .int n0), (2, .int n1)] := hl
  refine lv_aload_n hx hb dX10_owes_0 rfl (lv_at hl 0 rfl) ?_
  refine lv_iload_n hx hb dX10_owes_1 rfl (lv_at hl 1 rfl) ?_
  refine jr_i (rVr (As := [.int n0]) (rest := []) (ci := 11) ⟨hx, hb, hml, hown, hts⟩ (k_isMan l dC dI cy ad n0 ) (cw_X10_128 hts rfl rfl ⟨Nat.le_of_ble_eq_true rfl, Nat.le_of_ble_eq_true rfl⟩) hP hK [0, 1, 2] rfl rfl rfl rfl hl.1 rfl (Nat.le_of_ble_eq_true rfl) dX10_owes_2 ⟨Nat.le_of_ble_eq_true rfl, Nat.le_of_ble_eq_true rfl⟩) hP hS (fun r_1 H locs hp_2 hP hS => ?_)
  refine as_i 0 hp_2 ?_
  refine lv_if_eq (tgt := 36) hx hb dX10_owes_5 (by decide) (fun _ => ?_) (fun c9 => absurd (by decide) c9)
  refine lv_iconst (v := (-1)) hx hb dX10_owes_36 (by decide) ?_
  rw [hQ9]
  exact rr_i hx hb hr hlocks rfl hS dX10_owes_37
abbrev cX10_kin : ByteArray := prog_1_method_10_code
def yX10_kin : MethodName := ⟨RX10, "kin", "(I)I"⟩
theorem t696 : Cond.code yX10_kin cX10_kin 2 (some .int) ∈ GW := gw_mem 810 (by decide +kernel) (by decide +kernel)
theorem dX10_kin_0 : decode cX10_kin 0 = .ok (.aload_n 0, 1) := by decide +kernel
theorem dX10_kin_1 : decode cX10_kin 1 = .ok (.iload_n 1, 1) := by decide +kernel
theorem dX10_kin_2 : decode cX10_kin 2 = .ok (.invokevirtual 128, 3) := by decide +kernel
theorem dX10_kin_5 : decode cX10_kin 5 = .ok (.ifCond .eq 18, 3) := by decide +kernel
theorem dX10_kin_23 : decode cX10_kin 23 = .ok (.iconst (-1), 1) := by decide +kernel
theorem dX10_kin_24 : decode cX10_kin 24 = .ok (.ireturn, 1) := by decide +kernel
set_option maxHeartbeats 4000000 in
set_option maxRecDepth 100000 in
theorem k_kin (l : Launch) (dC : Nat → ClassId) (dI : Nat → Nat → Nat) (cy : Nat → ClassId) (ad : Nat → Nat) (n0 : Int32)  : Met l yX10_kin (wl yX10_kin cX10_kin 2 (some .int)) ({ frames := 1, cells := 0, slots := 0, locals := 64 }) (Pr (dC, dI) vwCl cy [(ad 0, .inr (11, [.ref (ad 1), .ref (ad 4), .ref (ad 5), .ref (ad 10), .ref (ad 23), .ref (ad 24), .ref (ad 25), .ref (ad 27), .ref (ad 28), .ref (ad 29), .ref (ad 30), .ref (ad 31), .ref (ad 54), .int 0, .int (-1), .int 0, .int 0])), (ad 31, .inr (10, [.ref (ad 32), .ref (ad 38), .ref (ad 49)])), (ad 32, .inr (2, [.ref (ad 33), .ref (ad 34), .ref (ad 35), .ref (ad 36), .ref (ad 37), .int 0, .int 0, .int 60, .int 10]))] [.ref (ad 0), .int n0]) (Ri (fun r => r = (-1))) 0 0 (fun _ => False) := by
  refine mr RX10 rfl (by decide +kernel) (Nat.le_of_ble_eq_true rfl) ?_
  intro p e s m below meth c hx hb hr hlocks av9 hav hts hown hml hK hP hS Q9 hQ9 ls hl
  have hl : lv_has ls 2 [(0, .ref (ad 0)), (1, .int n0)] := hl
  refine lv_aload_n hx hb dX10_kin_0 rfl (lv_at hl 0 rfl) ?_
  refine lv_iload_n hx hb dX10_kin_1 rfl (lv_at hl 1 rfl) ?_
  refine jr_i (rVr (As := [.int n0]) (rest := []) (ci := 11) ⟨hx, hb, hml, hown, hts⟩ (k_isMan l dC dI cy ad n0 ) (cw_X10_128 hts rfl rfl ⟨Nat.le_of_ble_eq_true rfl, Nat.le_of_ble_eq_true rfl⟩) hP hK [0, 1, 2] rfl rfl rfl rfl hl.1 rfl (Nat.le_of_ble_eq_true rfl) dX10_kin_2 ⟨Nat.le_of_ble_eq_true rfl, Nat.le_of_ble_eq_true rfl⟩) hP hS (fun r_1 H locs hp_2 hP hS => ?_)
  refine as_i 0 hp_2 ?_
  refine lv_if_eq (tgt := 23) hx hb dX10_kin_5 (by decide) (fun _ => ?_) (fun c9 => absurd (by decide) c9)
  refine lv_iconst (v := (-1)) hx hb dX10_kin_23 (by decide) ?_
  rw [hQ9]
  exact rr_i hx hb hr hlocks rfl hS dX10_kin_24
abbrev cX10_cell : ByteArray := prog_1_method_11_code
def yX10_cell : MethodName := ⟨RX10, "cell", "(II)I"⟩
theorem t700 : Cond.code yX10_cell cX10_cell 3 (some .int) ∈ GW := gw_mem 814 (by decide +kernel) (by decide +kernel)
theorem dX10_cell_0 : decode cX10_cell 0 = .ok (.aload_n 0, 1) := by decide +kernel
theorem dX10_cell_1 : decode cX10_cell 1 = .ok (.iload_n 1, 1) := by decide +kernel
theorem dX10_cell_2 : decode cX10_cell 2 = .ok (.invokevirtual 128, 3) := by decide +kernel
theorem dX10_cell_5 : decode cX10_cell 5 = .ok (.ifCond .eq 21, 3) := by decide +kernel
theorem dX10_cell_26 : decode cX10_cell 26 = .ok (.iconst (-1), 1) := by decide +kernel
theorem dX10_cell_27 : decode cX10_cell 27 = .ok (.ireturn, 1) := by decide +kernel
set_option maxHeartbeats 4000000 in
set_option maxRecDepth 100000 in
theorem k_cell (l : Launch) (dC : Nat → ClassId) (dI : Nat → Nat → Nat) (cy : Nat → ClassId) (ad : Nat → Nat) (n0 : Int32) (n1 : Int32)  : Met l yX10_cell (wl yX10_cell cX10_cell 3 (some .int)) ({ frames := 1, cells := 0, slots := 0, locals := 64 }) (Pr (dC, dI) vwCl cy [(ad 0, .inr (11, [.ref (ad 1), .ref (ad 4), .ref (ad 5), .ref (ad 10), .ref (ad 23), .ref (ad 24), .ref (ad 25), .ref (ad 27), .ref (ad 28), .ref (ad 29), .ref (ad 30), .ref (ad 31), .ref (ad 54), .int 0, .int (-1), .int 0, .int 0])), (ad 31, .inr (10, [.ref (ad 32), .ref (ad 38), .ref (ad 49)])), (ad 32, .inr (2, [.ref (ad 33), .ref (ad 34), .ref (ad 35), .ref (ad 36), .ref (ad 37), .int 0, .int 0, .int 60, .int 10]))] [.ref (ad 0), .int n0, .int n1]) (Ri (fun r => r = (-1))) 0 0 (fun _ => False) := by
  refine mr RX10 rfl (by decide +kernel) (Nat.le_of_ble_eq_true rfl) ?_
  intro p e s m below meth c hx hb hr hlocks av9 hav hts hown hml hK hP hS Q9 hQ9 ls hl
  have hl : lv_has ls 3 [(0, .ref (ad 0)), (1, .int n0), (2, .int n1)] := hl
  refine lv_aload_n hx hb dX10_cell_0 rfl (lv_at hl 0 rfl) ?_
  refine lv_iload_n hx hb dX10_cell_1 rfl (lv_at hl 1 rfl) ?_
  refine jr_i (rVr (As := [.int n0]) (rest := []) (ci := 11) ⟨hx, hb, hml, hown, hts⟩ (k_isMan l dC dI cy ad n0 ) (cw_X10_128 hts rfl rfl ⟨Nat.le_of_ble_eq_true rfl, Nat.le_of_ble_eq_true rfl⟩) hP hK [0, 1, 2] rfl rfl rfl rfl hl.1 rfl (Nat.le_of_ble_eq_true rfl) dX10_cell_2 ⟨Nat.le_of_ble_eq_true rfl, Nat.le_of_ble_eq_true rfl⟩) hP hS (fun r_1 H locs hp_2 hP hS => ?_)
  refine as_i 0 hp_2 ?_
  refine lv_if_eq (tgt := 26) hx hb dX10_cell_5 (by decide) (fun _ => ?_) (fun c9 => absurd (by decide) c9)
  refine lv_iconst (v := (-1)) hx hb dX10_cell_26 (by decide) ?_
  rw [hQ9]
  exact rr_i hx hb hr hlocks rfl hS dX10_cell_27
abbrev cX10_kept : ByteArray := prog_1_method_12_code
def yX10_kept : MethodName := ⟨RX10, "kept", "(II)I"⟩
theorem t720 : Cond.code yX10_kept cX10_kept 3 (some .int) ∈ GW := gw_mem 834 (by decide +kernel) (by decide +kernel)
theorem dX10_kept_0 : decode cX10_kept 0 = .ok (.aload_n 0, 1) := by decide +kernel
theorem dX10_kept_1 : decode cX10_kept 1 = .ok (.iload_n 1, 1) := by decide +kernel
theorem dX10_kept_2 : decode cX10_kept 2 = .ok (.invokevirtual 128, 3) := by decide +kernel
theorem dX10_kept_5 : decode cX10_kept 5 = .ok (.ifCond .eq 18, 3) := by decide +kernel
theorem dX10_kept_23 : decode cX10_kept 23 = .ok (.iconst (-1), 1) := by decide +kernel
theorem dX10_kept_24 : decode cX10_kept 24 = .ok (.ireturn, 1) := by decide +kernel
set_option maxHeartbeats 4000000 in
set_option maxRecDepth 100000 in
theorem k_kept (l : Launch) (dC : Nat → ClassId) (dI : Nat → Nat → Nat) (cy : Nat → ClassId) (ad : Nat → Nat) (n0 : Int32) (n1 : Int32)  : Met l yX10_kept (wl yX10_kept cX10_kept 3 (some .int)) ({ frames := 1, cells := 0, slots := 0, locals := 64 }) (Pr (dC, dI) vwCl cy [(ad 0, .inr (11, [.ref (ad 1), .ref (ad 4), .ref (ad 5), .ref (ad 10), .ref (ad 23), .ref (ad 24), .ref (ad 25), .ref (ad 27), .ref (ad 28), .ref (ad 29), .ref (ad 30), .ref (ad 31), .ref (ad 54), .int 0, .int (-1), .int 0, .int 0])), (ad 31, .inr (10, [.ref (ad 32), .ref (ad 38), .ref (ad 49)])), (ad 32, .inr (2, [.ref (ad 33), .ref (ad 34), .ref (ad 35), .ref (ad 36), .ref (ad 37), .int 0, .int 0, .int 60, .int 10]))] [.ref (ad 0), .int n0, .int n1]) (Ri (fun r => r = (-1))) 0 0 (fun _ => False) := by
  refine mr RX10 rfl (by decide +kernel) (Nat.le_of_ble_eq_true rfl) ?_
  intro p e s m below meth c hx hb hr hlocks av9 hav hts hown hml hK hP hS Q9 hQ9 ls hl
  have hl : lv_has ls 3 [(0, .ref (ad 0)), (1, .int n0), (2, .int n1)] := hl
  refine lv_aload_n hx hb dX10_kept_0 rfl (lv_at hl 0 rfl) ?_
  refine lv_iload_n hx hb dX10_kept_1 rfl (lv_at hl 1 rfl) ?_
  refine jr_i (rVr (As := [.int n0]) (rest := []) (ci := 11) ⟨hx, hb, hml, hown, hts⟩ (k_isMan l dC dI cy ad n0 ) (cw_X10_128 hts rfl rfl ⟨Nat.le_of_ble_eq_true rfl, Nat.le_of_ble_eq_true rfl⟩) hP hK [0, 1, 2] rfl rfl rfl rfl hl.1 rfl (Nat.le_of_ble_eq_true rfl) dX10_kept_2 ⟨Nat.le_of_ble_eq_true rfl, Nat.le_of_ble_eq_true rfl⟩) hP hS (fun r_1 H locs hp_2 hP hS => ?_)
  refine as_i 0 hp_2 ?_
  refine lv_if_eq (tgt := 23) hx hb dX10_kept_5 (by decide) (fun _ => ?_) (fun c9 => absurd (by decide) c9)
  refine lv_iconst (v := (-1)) hx hb dX10_kept_23 (by decide) ?_
  rw [hQ9]
  exact rr_i hx hb hr hlocks rfl hS dX10_kept_24
abbrev cX10_act : ByteArray := prog_1_method_14_code
def yX10_act : MethodName := ⟨RX10, "act", "(II)I"⟩
theorem t758 : Cond.code yX10_act cX10_act 3 (some .int) ∈ GW := gw_mem 872 (by decide +kernel) (by decide +kernel)
theorem dX10_act_0 : decode cX10_act 0 = .ok (.aload_n 0, 1) := by decide +kernel
theorem dX10_act_1 : decode cX10_act 1 = .ok (.iload_n 1, 1) := by decide +kernel
theorem dX10_act_2 : decode cX10_act 2 = .ok (.invokevirtual 128, 3) := by decide +kernel
theorem dX10_act_5 : decode cX10_act 5 = .ok (.ifCond .eq 11, 3) := by decide +kernel
theorem dX10_act_16 : decode cX10_act 16 = .ok (.iconst (-1), 1) := by decide +kernel
theorem dX10_act_17 : decode cX10_act 17 = .ok (.ireturn, 1) := by decide +kernel
set_option maxHeartbeats 4000000 in
set_option maxRecDepth 100000 in
theorem k_act (l : Launch) (dC : Nat → ClassId) (dI : Nat → Nat → Nat) (cy : Nat → ClassId) (ad : Nat → Nat) (n0 : Int32) (n1 : Int32)  : Met l yX10_act (wl yX10_act cX10_act 3 (some .int)) ({ frames := 1, cells := 0, slots := 0, locals := 64 }) (Pr (dC, dI) vwCl cy [(ad 0, .inr (11, [.ref (ad 1), .ref (ad 4), .ref (ad 5), .ref (ad 10), .ref (ad 23), .ref (ad 24), .ref (ad 25), .ref (ad 27), .ref (ad 28), .ref (ad 29), .ref (ad 30), .ref (ad 31), .ref (ad 54), .int 0, .int (-1), .int 0, .int 0])), (ad 31, .inr (10, [.ref (ad 32), .ref (ad 38), .ref (ad 49)])), (ad 32, .inr (2, [.ref (ad 33), .ref (ad 34), .ref (ad 35), .ref (ad 36), .ref (ad 37), .int 0, .int 0, .int 60, .int 10]))] [.ref (ad 0), .int n0, .int n1]) (Ri (fun r => r = (-1))) 0 0 (fun _ => False) := by
  refine mr RX10 rfl (by decide +kernel) (Nat.le_of_ble_eq_true rfl) ?_
  intro p e s m below meth c hx hb hr hlocks av9 hav hts hown hml hK hP hS Q9 hQ9 ls hl
  have hl : lv_has ls 3 [(0, .ref (ad 0)), (1, .int n0), (2, .int n1)] := hl
  refine lv_aload_n hx hb dX10_act_0 rfl (lv_at hl 0 rfl) ?_
  refine lv_iload_n hx hb dX10_act_1 rfl (lv_at hl 1 rfl) ?_
  refine jr_i (rVr (As := [.int n0]) (rest := []) (ci := 11) ⟨hx, hb, hml, hown, hts⟩ (k_isMan l dC dI cy ad n0 ) (cw_X10_128 hts rfl rfl ⟨Nat.le_of_ble_eq_true rfl, Nat.le_of_ble_eq_true rfl⟩) hP hK [0, 1, 2] rfl rfl rfl rfl hl.1 rfl (Nat.le_of_ble_eq_true rfl) dX10_act_2 ⟨Nat.le_of_ble_eq_true rfl, Nat.le_of_ble_eq_true rfl⟩) hP hS (fun r_1 H locs hp_2 hP hS => ?_)
  refine as_i 0 hp_2 ?_
  refine lv_if_eq (tgt := 16) hx hb dX10_act_5 (by decide) (fun _ => ?_) (fun c9 => absurd (by decide) c9)
  refine lv_iconst (v := (-1)) hx hb dX10_act_16 (by decide) ?_
  rw [hQ9]
  exact rr_i hx hb hr hlocks rfl hS dX10_act_17
abbrev cX10_lend : ByteArray := prog_1_method_15_code
def yX10_lend : MethodName := ⟨RX10, "lend", "(III)I"⟩
theorem t788 : Cond.code yX10_lend cX10_lend 4 (some .int) ∈ GW := gw_mem 902 (by decide +kernel) (by decide +kernel)
theorem dX10_lend_0 : decode cX10_lend 0 = .ok (.aload_n 0, 1) := by decide +kernel
theorem dX10_lend_1 : decode cX10_lend 1 = .ok (.iload_n 1, 1) := by decide +kernel
theorem dX10_lend_2 : decode cX10_lend 2 = .ok (.invokevirtual 128, 3) := by decide +kernel
theorem dX10_lend_5 : decode cX10_lend 5 = .ok (.ifCond .eq 19, 3) := by decide +kernel
theorem dX10_lend_24 : decode cX10_lend 24 = .ok (.iconst (-1), 1) := by decide +kernel
theorem dX10_lend_25 : decode cX10_lend 25 = .ok (.ireturn, 1) := by decide +kernel
set_option maxHeartbeats 4000000 in
set_option maxRecDepth 100000 in
theorem k_lend (l : Launch) (dC : Nat → ClassId) (dI : Nat → Nat → Nat) (cy : Nat → ClassId) (ad : Nat → Nat) (n0 : Int32) (n1 : Int32) (n2 : Int32)  : Met l yX10_lend (wl yX10_lend cX10_lend 4 (some .int)) ({ frames := 1, cells := 0, slots := 0, locals := 64 }) (Pr (dC, dI) vwCl cy [(ad 0, .inr (11, [.ref (ad 1), .ref (ad 4), .ref (ad 5), .ref (ad 10), .ref (ad 23), .ref (ad 24), .ref (ad 25), .ref (ad 27), .ref (ad 28), .ref (ad 29), .ref (ad 30), .ref (ad 31), .ref (ad 54), .int 0, .int (-1), .int 0, .int 0])), (ad 31, .inr (10, [.ref (ad 32), .ref (ad 38), .ref (ad 49)])), (ad 32, .inr (2, [.ref (ad 33), .ref (ad 34), .ref (ad 35), .ref (ad 36), .ref (ad 37), .int 0, .int 0, .int 60, .int 10]))] [.ref (ad 0), .int n0, .int n1, .int n2]) (Ri (fun r => r = (-1))) 0 0 (fun _ => False) := by
  refine mr RX10 rfl (by decide +kernel) (Nat.le_of_ble_eq_true rfl) ?_
  intro p e s m below meth c hx hb hr hlocks av9 hav hts hown hml hK hP hS Q9 hQ9 ls hl
  have hl : lv_has ls 4 [(0, .ref (ad 0)), (1, .int n0), (2, .int n1), (3, .int n2)] := hl
  refine lv_aload_n hx hb dX10_lend_0 rfl (lv_at hl 0 rfl) ?_
  refine lv_iload_n hx hb dX10_lend_1 rfl (lv_at hl 1 rfl) ?_
  refine jr_i (rVr (As := [.int n0]) (rest := []) (ci := 11) ⟨hx, hb, hml, hown, hts⟩ (k_isMan l dC dI cy ad n0 ) (cw_X10_128 hts rfl rfl ⟨Nat.le_of_ble_eq_true rfl, Nat.le_of_ble_eq_true rfl⟩) hP hK [0, 1, 2] rfl rfl rfl rfl hl.1 rfl (Nat.le_of_ble_eq_true rfl) dX10_lend_2 ⟨Nat.le_of_ble_eq_true rfl, Nat.le_of_ble_eq_true rfl⟩) hP hS (fun r_1 H locs hp_2 hP hS => ?_)
  refine as_i 0 hp_2 ?_
  refine lv_if_eq (tgt := 24) hx hb dX10_lend_5 (by decide) (fun _ => ?_) (fun c9 => absurd (by decide) c9)
  refine lv_iconst (v := (-1)) hx hb dX10_lend_24 (by decide) ?_
  rw [hQ9]
  exact rr_i hx hb hr hlocks rfl hS dX10_lend_25
abbrev cX10_back : ByteArray := prog_1_method_16_code
def yX10_back : MethodName := ⟨RX10, "back", "(I)I"⟩
theorem t797 : Cond.code yX10_back cX10_back 2 (some .int) ∈ GW := gw_mem 911 (by decide +kernel) (by decide +kernel)
theorem dX10_back_0 : decode cX10_back 0 = .ok (.aload_n 0, 1) := by decide +kernel
theorem dX10_back_1 : decode cX10_back 1 = .ok (.iload_n 1, 1) := by decide +kernel
theorem dX10_back_2 : decode cX10_back 2 = .ok (.invokevirtual 128, 3) := by decide +kernel
theorem dX10_back_5 : decode cX10_back 5 = .ok (.ifCond .ne 5, 3) := by decide +kernel
theorem dX10_back_8 : decode cX10_back 8 = .ok (.iconst (-1), 1) := by decide +kernel
theorem dX10_back_9 : decode cX10_back 9 = .ok (.ireturn, 1) := by decide +kernel
set_option maxHeartbeats 4000000 in
set_option maxRecDepth 100000 in
theorem k_back (l : Launch) (dC : Nat → ClassId) (dI : Nat → Nat → Nat) (cy : Nat → ClassId) (ad : Nat → Nat) (n0 : Int32)  : Met l yX10_back (wl yX10_back cX10_back 2 (some .int)) ({ frames := 1, cells := 0, slots := 0, locals := 64 }) (Pr (dC, dI) vwCl cy [(ad 0, .inr (11, [.ref (ad 1), .ref (ad 4), .ref (ad 5), .ref (ad 10), .ref (ad 23), .ref (ad 24), .ref (ad 25), .ref (ad 27), .ref (ad 28), .ref (ad 29), .ref (ad 30), .ref (ad 31), .ref (ad 54), .int 0, .int (-1), .int 0, .int 0])), (ad 31, .inr (10, [.ref (ad 32), .ref (ad 38), .ref (ad 49)])), (ad 32, .inr (2, [.ref (ad 33), .ref (ad 34), .ref (ad 35), .ref (ad 36), .ref (ad 37), .int 0, .int 0, .int 60, .int 10]))] [.ref (ad 0), .int n0]) (Ri (fun r => r = (-1))) 0 0 (fun _ => False) := by
  refine mr RX10 rfl (by decide +kernel) (Nat.le_of_ble_eq_true rfl) ?_
  intro p e s m below meth c hx hb hr hlocks av9 hav hts hown hml hK hP hS Q9 hQ9 ls hl
  have hl : lv_has ls 2 [(0, .ref (ad 0)), (1, .int n0)] := hl
  refine lv_aload_n hx hb dX10_back_0 rfl (lv_at hl 0 rfl) ?_
  refine lv_iload_n hx hb dX10_back_1 rfl (lv_at hl 1 rfl) ?_
  refine jr_i (rVr (As := [.int n0]) (rest := []) (ci := 11) ⟨hx, hb, hml, hown, hts⟩ (k_isMan l dC dI cy ad n0 ) (cw_X10_128 hts rfl rfl ⟨Nat.le_of_ble_eq_true rfl, Nat.le_of_ble_eq_true rfl⟩) hP hK [0, 1, 2] rfl rfl rfl rfl hl.1 rfl (Nat.le_of_ble_eq_true rfl) dX10_back_2 ⟨Nat.le_of_ble_eq_true rfl, Nat.le_of_ble_eq_true rfl⟩) hP hS (fun r_1 H locs hp_2 hP hS => ?_)
  refine as_i 0 hp_2 ?_
  refine lv_if_ne (tgt := 10) hx hb dX10_back_5 (by decide) (fun c9 => absurd c9 (by decide)) (fun _ => ?_)
  refine lv_iconst (v := (-1)) hx hb dX10_back_8 (by decide) ?_
  rw [hQ9]
  exact rr_i hx hb hr hlocks rfl hS dX10_back_9
abbrev cX10_borrow : ByteArray := prog_1_method_17_code
def yX10_borrow : MethodName := ⟨RX10, "borrow", "(III)I"⟩
theorem t805 : Cond.code yX10_borrow cX10_borrow 4 (some .int) ∈ GW := gw_mem 919 (by decide +kernel) (by decide +kernel)
theorem dX10_borrow_0 : decode cX10_borrow 0 = .ok (.aload_n 0, 1) := by decide +kernel
theorem dX10_borrow_1 : decode cX10_borrow 1 = .ok (.iload_n 1, 1) := by decide +kernel
theorem dX10_borrow_2 : decode cX10_borrow 2 = .ok (.invokevirtual 128, 3) := by decide +kernel
theorem dX10_borrow_5 : decode cX10_borrow 5 = .ok (.ifCond .eq 18, 3) := by decide +kernel
theorem dX10_borrow_23 : decode cX10_borrow 23 = .ok (.iconst (-1), 1) := by decide +kernel
theorem dX10_borrow_24 : decode cX10_borrow 24 = .ok (.ireturn, 1) := by decide +kernel
set_option maxHeartbeats 4000000 in
set_option maxRecDepth 100000 in
theorem k_borrow (l : Launch) (dC : Nat → ClassId) (dI : Nat → Nat → Nat) (cy : Nat → ClassId) (ad : Nat → Nat) (n0 : Int32) (n1 : Int32) (n2 : Int32)  : Met l yX10_borrow (wl yX10_borrow cX10_borrow 4 (some .int)) ({ frames := 1, cells := 0, slots := 0, locals := 64 }) (Pr (dC, dI) vwCl cy [(ad 0, .inr (11, [.ref (ad 1), .ref (ad 4), .ref (ad 5), .ref (ad 10), .ref (ad 23), .ref (ad 24), .ref (ad 25), .ref (ad 27), .ref (ad 28), .ref (ad 29), .ref (ad 30), .ref (ad 31), .ref (ad 54), .int 0, .int (-1), .int 0, .int 0])), (ad 31, .inr (10, [.ref (ad 32), .ref (ad 38), .ref (ad 49)])), (ad 32, .inr (2, [.ref (ad 33), .ref (ad 34), .ref (ad 35), .ref (ad 36), .ref (ad 37), .int 0, .int 0, .int 60, .int 10]))] [.ref (ad 0), .int n0, .int n1, .int n2]) (Ri (fun r => r = (-1))) 0 0 (fun _ => False) := by
  refine mr RX10 rfl (by decide +kernel) (Nat.le_of_ble_eq_true rfl) ?_
  intro p e s m below meth c hx hb hr hlocks av9 hav hts hown hml hK hP hS Q9 hQ9 ls hl
  have hl : lv_has ls 4 [(0, .ref (ad 0)), (1, .int n0), (2, .int n1), (3, .int n2)] := hl
  refine lv_aload_n hx hb dX10_borrow_0 rfl (lv_at hl 0 rfl) ?_
  refine lv_iload_n hx hb dX10_borrow_1 rfl (lv_at hl 1 rfl) ?_
  refine jr_i (rVr (As := [.int n0]) (rest := []) (ci := 11) ⟨hx, hb, hml, hown, hts⟩ (k_isMan l dC dI cy ad n0 ) (cw_X10_128 hts rfl rfl ⟨Nat.le_of_ble_eq_true rfl, Nat.le_of_ble_eq_true rfl⟩) hP hK [0, 1, 2] rfl rfl rfl rfl hl.1 rfl (Nat.le_of_ble_eq_true rfl) dX10_borrow_2 ⟨Nat.le_of_ble_eq_true rfl, Nat.le_of_ble_eq_true rfl⟩) hP hS (fun r_1 H locs hp_2 hP hS => ?_)
  refine as_i 0 hp_2 ?_
  refine lv_if_eq (tgt := 23) hx hb dX10_borrow_5 (by decide) (fun _ => ?_) (fun c9 => absurd (by decide) c9)
  refine lv_iconst (v := (-1)) hx hb dX10_borrow_23 (by decide) ?_
  rw [hQ9]
  exact rr_i hx hb hr hlocks rfl hS dX10_borrow_24
abbrev cX10_pay : ByteArray := prog_1_method_18_code
def yX10_pay : MethodName := ⟨RX10, "pay", "(III)I"⟩
theorem t816 : Cond.code yX10_pay cX10_pay 4 (some .int) ∈ GW := gw_mem 930 (by decide +kernel) (by decide +kernel)
theorem dX10_pay_0 : decode cX10_pay 0 = .ok (.aload_n 0, 1) := by decide +kernel
theorem dX10_pay_1 : decode cX10_pay 1 = .ok (.iload_n 1, 1) := by decide +kernel
theorem dX10_pay_2 : decode cX10_pay 2 = .ok (.invokevirtual 128, 3) := by decide +kernel
theorem dX10_pay_5 : decode cX10_pay 5 = .ok (.ifCond .eq 18, 3) := by decide +kernel
theorem dX10_pay_23 : decode cX10_pay 23 = .ok (.iconst (-1), 1) := by decide +kernel
theorem dX10_pay_24 : decode cX10_pay 24 = .ok (.ireturn, 1) := by decide +kernel
set_option maxHeartbeats 4000000 in
set_option maxRecDepth 100000 in
theorem k_pay (l : Launch) (dC : Nat → ClassId) (dI : Nat → Nat → Nat) (cy : Nat → ClassId) (ad : Nat → Nat) (n0 : Int32) (n1 : Int32) (n2 : Int32)  : Met l yX10_pay (wl yX10_pay cX10_pay 4 (some .int)) ({ frames := 1, cells := 0, slots := 0, locals := 64 }) (Pr (dC, dI) vwCl cy [(ad 0, .inr (11, [.ref (ad 1), .ref (ad 4), .ref (ad 5), .ref (ad 10), .ref (ad 23), .ref (ad 24), .ref (ad 25), .ref (ad 27), .ref (ad 28), .ref (ad 29), .ref (ad 30), .ref (ad 31), .ref (ad 54), .int 0, .int (-1), .int 0, .int 0])), (ad 31, .inr (10, [.ref (ad 32), .ref (ad 38), .ref (ad 49)])), (ad 32, .inr (2, [.ref (ad 33), .ref (ad 34), .ref (ad 35), .ref (ad 36), .ref (ad 37), .int 0, .int 0, .int 60, .int 10]))] [.ref (ad 0), .int n0, .int n1, .int n2]) (Ri (fun r => r = (-1))) 0 0 (fun _ => False) := by
  refine mr RX10 rfl (by decide +kernel) (Nat.le_of_ble_eq_true rfl) ?_
  intro p e s m below meth c hx hb hr hlocks av9 hav hts hown hml hK hP hS Q9 hQ9 ls hl
  have hl : lv_has ls 4 [(0, .ref (ad 0)), (1, .int n0), (2, .int n1), (3, .int n2)] := hl
  refine lv_aload_n hx hb dX10_pay_0 rfl (lv_at hl 0 rfl) ?_
  refine lv_iload_n hx hb dX10_pay_1 rfl (lv_at hl 1 rfl) ?_
  refine jr_i (rVr (As := [.int n0]) (rest := []) (ci := 11) ⟨hx, hb, hml, hown, hts⟩ (k_isMan l dC dI cy ad n0 ) (cw_X10_128 hts rfl rfl ⟨Nat.le_of_ble_eq_true rfl, Nat.le_of_ble_eq_true rfl⟩) hP hK [0, 1, 2] rfl rfl rfl rfl hl.1 rfl (Nat.le_of_ble_eq_true rfl) dX10_pay_2 ⟨Nat.le_of_ble_eq_true rfl, Nat.le_of_ble_eq_true rfl⟩) hP hS (fun r_1 H locs hp_2 hP hS => ?_)
  refine as_i 0 hp_2 ?_
  refine lv_if_eq (tgt := 23) hx hb dX10_pay_5 (by decide) (fun _ => ?_) (fun c9 => absurd (by decide) c9)
  refine lv_iconst (v := (-1)) hx hb dX10_pay_23 (by decide) ?_
  rw [hQ9]
  exact rr_i hx hb hr hlocks rfl hS dX10_pay_24
abbrev cX10_sit : ByteArray := prog_1_method_19_code
def yX10_sit : MethodName := ⟨RX10, "sit", "(I)I"⟩
theorem t824 : Cond.code yX10_sit cX10_sit 2 (some .int) ∈ GW := gw_mem 938 (by decide +kernel) (by decide +kernel)
theorem dX10_sit_0 : decode cX10_sit 0 = .ok (.aload_n 0, 1) := by decide +kernel
theorem dX10_sit_1 : decode cX10_sit 1 = .ok (.iload_n 1, 1) := by decide +kernel
theorem dX10_sit_2 : decode cX10_sit 2 = .ok (.invokevirtual 128, 3) := by decide +kernel
theorem dX10_sit_5 : decode cX10_sit 5 = .ok (.ifCond .ne 5, 3) := by decide +kernel
theorem dX10_sit_8 : decode cX10_sit 8 = .ok (.iconst (-1), 1) := by decide +kernel
theorem dX10_sit_9 : decode cX10_sit 9 = .ok (.ireturn, 1) := by decide +kernel
set_option maxHeartbeats 4000000 in
set_option maxRecDepth 100000 in
theorem k_sit (l : Launch) (dC : Nat → ClassId) (dI : Nat → Nat → Nat) (cy : Nat → ClassId) (ad : Nat → Nat) (n0 : Int32)  : Met l yX10_sit (wl yX10_sit cX10_sit 2 (some .int)) ({ frames := 1, cells := 0, slots := 0, locals := 64 }) (Pr (dC, dI) vwCl cy [(ad 0, .inr (11, [.ref (ad 1), .ref (ad 4), .ref (ad 5), .ref (ad 10), .ref (ad 23), .ref (ad 24), .ref (ad 25), .ref (ad 27), .ref (ad 28), .ref (ad 29), .ref (ad 30), .ref (ad 31), .ref (ad 54), .int 0, .int (-1), .int 0, .int 0])), (ad 31, .inr (10, [.ref (ad 32), .ref (ad 38), .ref (ad 49)])), (ad 32, .inr (2, [.ref (ad 33), .ref (ad 34), .ref (ad 35), .ref (ad 36), .ref (ad 37), .int 0, .int 0, .int 60, .int 10]))] [.ref (ad 0), .int n0]) (Ri (fun r => r = (-1))) 0 0 (fun _ => False) := by
  refine mr RX10 rfl (by decide +kernel) (Nat.le_of_ble_eq_true rfl) ?_
  intro p e s m below meth c hx hb hr hlocks av9 hav hts hown hml hK hP hS Q9 hQ9 ls hl
  have hl : lv_has ls 2 [(0, .ref (ad 0)), (1, .int n0)] := hl
  refine lv_aload_n hx hb dX10_sit_0 rfl (lv_at hl 0 rfl) ?_
  refine lv_iload_n hx hb dX10_sit_1 rfl (lv_at hl 1 rfl) ?_
  refine jr_i (rVr (As := [.int n0]) (rest := []) (ci := 11) ⟨hx, hb, hml, hown, hts⟩ (k_isMan l dC dI cy ad n0 ) (cw_X10_128 hts rfl rfl ⟨Nat.le_of_ble_eq_true rfl, Nat.le_of_ble_eq_true rfl⟩) hP hK [0, 1, 2] rfl rfl rfl rfl hl.1 rfl (Nat.le_of_ble_eq_true rfl) dX10_sit_2 ⟨Nat.le_of_ble_eq_true rfl, Nat.le_of_ble_eq_true rfl⟩) hP hS (fun r_1 H locs hp_2 hP hS => ?_)
  refine as_i 0 hp_2 ?_
  refine lv_if_ne (tgt := 10) hx hb dX10_sit_5 (by decide) (fun c9 => absurd c9 (by decide)) (fun _ => ?_)
  refine lv_iconst (v := (-1)) hx hb dX10_sit_8 (by decide) ?_
  rw [hQ9]
  exact rr_i hx hb hr hlocks rfl hS dX10_sit_9
abbrev cX10_family : ByteArray := prog_1_method_22_code
def yX10_family : MethodName := ⟨RX10, "family", "(I)I"⟩
theorem t853 : Cond.code yX10_family cX10_family 2 (some .int) ∈ GW := gw_mem 967 (by decide +kernel) (by decide +kernel)
theorem dX10_family_0 : decode cX10_family 0 = .ok (.aload_n 0, 1) := by decide +kernel
theorem dX10_family_1 : decode cX10_family 1 = .ok (.iload_n 1, 1) := by decide +kernel
theorem dX10_family_2 : decode cX10_family 2 = .ok (.invokevirtual 128, 3) := by decide +kernel
theorem dX10_family_5 : decode cX10_family 5 = .ok (.ifCond .eq 17, 3) := by decide +kernel
theorem dX10_family_22 : decode cX10_family 22 = .ok (.iconst (-1), 1) := by decide +kernel
theorem dX10_family_23 : decode cX10_family 23 = .ok (.ireturn, 1) := by decide +kernel
set_option maxHeartbeats 4000000 in
set_option maxRecDepth 100000 in
theorem k_family (l : Launch) (dC : Nat → ClassId) (dI : Nat → Nat → Nat) (cy : Nat → ClassId) (ad : Nat → Nat) (n0 : Int32)  : Met l yX10_family (wl yX10_family cX10_family 2 (some .int)) ({ frames := 1, cells := 0, slots := 0, locals := 64 }) (Pr (dC, dI) vwCl cy [(ad 0, .inr (11, [.ref (ad 1), .ref (ad 4), .ref (ad 5), .ref (ad 10), .ref (ad 23), .ref (ad 24), .ref (ad 25), .ref (ad 27), .ref (ad 28), .ref (ad 29), .ref (ad 30), .ref (ad 31), .ref (ad 54), .int 0, .int (-1), .int 0, .int 0])), (ad 31, .inr (10, [.ref (ad 32), .ref (ad 38), .ref (ad 49)])), (ad 32, .inr (2, [.ref (ad 33), .ref (ad 34), .ref (ad 35), .ref (ad 36), .ref (ad 37), .int 0, .int 0, .int 60, .int 10]))] [.ref (ad 0), .int n0]) (Ri (fun r => r = (-1))) 0 0 (fun _ => False) := by
  refine mr RX10 rfl (by decide +kernel) (Nat.le_of_ble_eq_true rfl) ?_
  intro p e s m below meth c hx hb hr hlocks av9 hav hts hown hml hK hP hS Q9 hQ9 ls hl
  have hl : lv_has ls 2 [(0, .ref (ad 0)), (1, .int n0)] := hl
  refine lv_aload_n hx hb dX10_family_0 rfl (lv_at hl 0 rfl) ?_
  refine lv_iload_n hx hb dX10_family_1 rfl (lv_at hl 1 rfl) ?_
  refine jr_i (rVr (As := [.int n0]) (rest := []) (ci := 11) ⟨hx, hb, hml, hown, hts⟩ (k_isMan l dC dI cy ad n0 ) (cw_X10_128 hts rfl rfl ⟨Nat.le_of_ble_eq_true rfl, Nat.le_of_ble_eq_true rfl⟩) hP hK [0, 1, 2] rfl rfl rfl rfl hl.1 rfl (Nat.le_of_ble_eq_true rfl) dX10_family_2 ⟨Nat.le_of_ble_eq_true rfl, Nat.le_of_ble_eq_true rfl⟩) hP hS (fun r_1 H locs hp_2 hP hS => ?_)
  refine as_i 0 hp_2 ?_
  refine lv_if_eq (tgt := 22) hx hb dX10_family_5 (by decide) (fun _ => ?_) (fun c9 => absurd (by decide) c9)
  refine lv_iconst (v := (-1)) hx hb dX10_family_22 (by decide) ?_
  rw [hQ9]
  exact rr_i hx hb hr hlocks rfl hS dX10_family_23
abbrev cX10_help : ByteArray := prog_1_method_24_code
def yX10_help : MethodName := ⟨RX10, "help", "(I)I"⟩
theorem t873 : Cond.code yX10_help cX10_help 3 (some .int) ∈ GW := gw_mem 987 (by decide +kernel) (by decide +kernel)
theorem dX10_help_0 : decode cX10_help 0 = .ok (.aload_n 0, 1) := by decide +kernel
theorem dX10_help_1 : decode cX10_help 1 = .ok (.iload_n 1, 1) := by decide +kernel
theorem dX10_help_2 : decode cX10_help 2 = .ok (.invokevirtual 128, 3) := by decide +kernel
theorem dX10_help_5 : decode cX10_help 5 = .ok (.ifCond .ne 5, 3) := by decide +kernel
theorem dX10_help_8 : decode cX10_help 8 = .ok (.iconst (-1), 1) := by decide +kernel
theorem dX10_help_9 : decode cX10_help 9 = .ok (.ireturn, 1) := by decide +kernel
set_option maxHeartbeats 4000000 in
set_option maxRecDepth 100000 in
theorem k_help (l : Launch) (dC : Nat → ClassId) (dI : Nat → Nat → Nat) (cy : Nat → ClassId) (ad : Nat → Nat) (n0 : Int32)  : Met l yX10_help (wl yX10_help cX10_help 3 (some .int)) ({ frames := 1, cells := 0, slots := 0, locals := 64 }) (Pr (dC, dI) vwCl cy [(ad 0, .inr (11, [.ref (ad 1), .ref (ad 4), .ref (ad 5), .ref (ad 10), .ref (ad 23), .ref (ad 24), .ref (ad 25), .ref (ad 27), .ref (ad 28), .ref (ad 29), .ref (ad 30), .ref (ad 31), .ref (ad 54), .int 0, .int (-1), .int 0, .int 0])), (ad 31, .inr (10, [.ref (ad 32), .ref (ad 38), .ref (ad 49)])), (ad 32, .inr (2, [.ref (ad 33), .ref (ad 34), .ref (ad 35), .ref (ad 36), .ref (ad 37), .int 0, .int 0, .int 60, .int 10]))] [.ref (ad 0), .int n0]) (Ri (fun r => r = (-1))) 0 0 (fun _ => False) := by
  refine mr RX10 rfl (by decide +kernel) (Nat.le_of_ble_eq_true rfl) ?_
  intro p e s m below meth c hx hb hr hlocks av9 hav hts hown hml hK hP hS Q9 hQ9 ls hl
  have hl : lv_has ls 3 [(0, .ref (ad 0)), (1, .int n0)] := hl
  refine lv_aload_n hx hb dX10_help_0 rfl (lv_at hl 0 rfl) ?_
  refine lv_iload_n hx hb dX10_help_1 rfl (lv_at hl 1 rfl) ?_
  refine jr_i (rVr (As := [.int n0]) (rest := []) (ci := 11) ⟨hx, hb, hml, hown, hts⟩ (k_isMan l dC dI cy ad n0 ) (cw_X10_128 hts rfl rfl ⟨Nat.le_of_ble_eq_true rfl, Nat.le_of_ble_eq_true rfl⟩) hP hK [0, 1, 2] rfl rfl rfl rfl hl.1 rfl (Nat.le_of_ble_eq_true rfl) dX10_help_2 ⟨Nat.le_of_ble_eq_true rfl, Nat.le_of_ble_eq_true rfl⟩) hP hS (fun r_1 H locs hp_2 hP hS => ?_)
  refine as_i 0 hp_2 ?_
  refine lv_if_ne (tgt := 10) hx hb dX10_help_5 (by decide) (fun c9 => absurd c9 (by decide)) (fun _ => ?_)
  refine lv_iconst (v := (-1)) hx hb dX10_help_8 (by decide) ?_
  rw [hQ9]
  exact rr_i hx hb hr hlocks rfl hS dX10_help_9
abbrev cX10_career : ByteArray := prog_1_method_28_code
def yX10_career : MethodName := ⟨RX10, "career", "(II)I"⟩
theorem t951 : Cond.code yX10_career cX10_career 6 (some .int) ∈ GW := gw_mem 1065 (by decide +kernel) (by decide +kernel)
theorem dX10_career_0 : decode cX10_career 0 = .ok (.aload_n 0, 1) := by decide +kernel
theorem dX10_career_1 : decode cX10_career 1 = .ok (.iload_n 1, 1) := by decide +kernel
theorem dX10_career_2 : decode cX10_career 2 = .ok (.invokevirtual 128, 3) := by decide +kernel
theorem dX10_career_5 : decode cX10_career 5 = .ok (.ifCond .eq 13, 3) := by decide +kernel
theorem dX10_career_18 : decode cX10_career 18 = .ok (.iconst (-1), 1) := by decide +kernel
theorem dX10_career_19 : decode cX10_career 19 = .ok (.ireturn, 1) := by decide +kernel
set_option maxHeartbeats 4000000 in
set_option maxRecDepth 100000 in
theorem k_career (l : Launch) (dC : Nat → ClassId) (dI : Nat → Nat → Nat) (cy : Nat → ClassId) (ad : Nat → Nat) (n0 : Int32) (n1 : Int32)  : Met l yX10_career (wl yX10_career cX10_career 6 (some .int)) ({ frames := 1, cells := 0, slots := 0, locals := 64 }) (Pr (dC, dI) vwCl cy [(ad 0, .inr (11, [.ref (ad 1), .ref (ad 4), .ref (ad 5), .ref (ad 10), .ref (ad 23), .ref (ad 24), .ref (ad 25), .ref (ad 27), .ref (ad 28), .ref (ad 29), .ref (ad 30), .ref (ad 31), .ref (ad 54), .int 0, .int (-1), .int 0, .int 0])), (ad 31, .inr (10, [.ref (ad 32), .ref (ad 38), .ref (ad 49)])), (ad 32, .inr (2, [.ref (ad 33), .ref (ad 34), .ref (ad 35), .ref (ad 36), .ref (ad 37), .int 0, .int 0, .int 60, .int 10]))] [.ref (ad 0), .int n0, .int n1]) (Ri (fun r => r = (-1))) 0 0 (fun _ => False) := by
  refine mr RX10 rfl (by decide +kernel) (Nat.le_of_ble_eq_true rfl) ?_
  intro p e s m below meth c hx hb hr hlocks av9 hav hts hown hml hK hP hS Q9 hQ9 ls hl
  have hl : lv_has ls 6 [(0, .ref (ad 0)), (1, .int n0), (2, .int n1)] := hl
  refine lv_aload_n hx hb dX10_career_0 rfl (lv_at hl 0 rfl) ?_
  refine lv_iload_n hx hb dX10_career_1 rfl (lv_at hl 1 rfl) ?_
  refine jr_i (rVr (As := [.int n0]) (rest := []) (ci := 11) ⟨hx, hb, hml, hown, hts⟩ (k_isMan l dC dI cy ad n0 ) (cw_X10_128 hts rfl rfl ⟨Nat.le_of_ble_eq_true rfl, Nat.le_of_ble_eq_true rfl⟩) hP hK [0, 1, 2] rfl rfl rfl rfl hl.1 rfl (Nat.le_of_ble_eq_true rfl) dX10_career_2 ⟨Nat.le_of_ble_eq_true rfl, Nat.le_of_ble_eq_true rfl⟩) hP hS (fun r_1 H locs hp_2 hP hS => ?_)
  refine as_i 0 hp_2 ?_
  refine lv_if_eq (tgt := 18) hx hb dX10_career_5 (by decide) (fun _ => ?_) (fun c9 => absurd (by decide) c9)
  refine lv_iconst (v := (-1)) hx hb dX10_career_18 (by decide) ?_
  rw [hQ9]
  exact rr_i hx hb hr hlocks rfl hS dX10_career_19
abbrev cX10_hide : ByteArray := prog_1_method_30_code
def yX10_hide : MethodName := ⟨RX10, "hide", "(I)I"⟩
theorem t964 : Cond.code yX10_hide cX10_hide 3 (some .int) ∈ GW := gw_mem 1078 (by decide +kernel) (by decide +kernel)
theorem dX10_hide_0 : decode cX10_hide 0 = .ok (.aload_n 0, 1) := by decide +kernel
theorem dX10_hide_1 : decode cX10_hide 1 = .ok (.iload_n 1, 1) := by decide +kernel
theorem dX10_hide_2 : decode cX10_hide 2 = .ok (.invokevirtual 128, 3) := by decide +kernel
theorem dX10_hide_5 : decode cX10_hide 5 = .ok (.ifCond .ne 5, 3) := by decide +kernel
theorem dX10_hide_8 : decode cX10_hide 8 = .ok (.iconst (-1), 1) := by decide +kernel
theorem dX10_hide_9 : decode cX10_hide 9 = .ok (.ireturn, 1) := by decide +kernel
set_option maxHeartbeats 4000000 in
set_option maxRecDepth 100000 in
theorem k_hide (l : Launch) (dC : Nat → ClassId) (dI : Nat → Nat → Nat) (cy : Nat → ClassId) (ad : Nat → Nat) (n0 : Int32)  : Met l yX10_hide (wl yX10_hide cX10_hide 3 (some .int)) ({ frames := 1, cells := 0, slots := 0, locals := 64 }) (Pr (dC, dI) vwCl cy [(ad 0, .inr (11, [.ref (ad 1), .ref (ad 4), .ref (ad 5), .ref (ad 10), .ref (ad 23), .ref (ad 24), .ref (ad 25), .ref (ad 27), .ref (ad 28), .ref (ad 29), .ref (ad 30), .ref (ad 31), .ref (ad 54), .int 0, .int (-1), .int 0, .int 0])), (ad 31, .inr (10, [.ref (ad 32), .ref (ad 38), .ref (ad 49)])), (ad 32, .inr (2, [.ref (ad 33), .ref (ad 34), .ref (ad 35), .ref (ad 36), .ref (ad 37), .int 0, .int 0, .int 60, .int 10]))] [.ref (ad 0), .int n0]) (Ri (fun r => r = (-1))) 0 0 (fun _ => False) := by
  refine mr RX10 rfl (by decide +kernel) (Nat.le_of_ble_eq_true rfl) ?_
  intro p e s m below meth c hx hb hr hlocks av9 hav hts hown hml hK hP hS Q9 hQ9 ls hl
  have hl : lv_has ls 3 [(0, .ref (ad 0)), (1, .int n0)] := hl
  refine lv_aload_n hx hb dX10_hide_0 rfl (lv_at hl 0 rfl) ?_
  refine lv_iload_n hx hb dX10_hide_1 rfl (lv_at hl 1 rfl) ?_
  refine jr_i (rVr (As := [.int n0]) (rest := []) (ci := 11) ⟨hx, hb, hml, hown, hts⟩ (k_isMan l dC dI cy ad n0 ) (cw_X10_128 hts rfl rfl ⟨Nat.le_of_ble_eq_true rfl, Nat.le_of_ble_eq_true rfl⟩) hP hK [0, 1, 2] rfl rfl rfl rfl hl.1 rfl (Nat.le_of_ble_eq_true rfl) dX10_hide_2 ⟨Nat.le_of_ble_eq_true rfl, Nat.le_of_ble_eq_true rfl⟩) hP hS (fun r_1 H locs hp_2 hP hS => ?_)
  refine as_i 0 hp_2 ?_
  refine lv_if_ne (tgt := 10) hx hb dX10_hide_5 (by decide) (fun c9 => absurd c9 (by decide)) (fun _ => ?_)
  refine lv_iconst (v := (-1)) hx hb dX10_hide_8 (by decide) ?_
  rw [hQ9]
  exact rr_i hx hb hr hlocks rfl hS dX10_hide_9
abbrev cX10_caption : ByteArray := prog_1_method_32_code
def yX10_caption : MethodName := ⟨RX10, "caption", "(I)I"⟩
theorem t976 : Cond.code yX10_caption cX10_caption 3 (some .int) ∈ GW := gw_mem 1090 (by decide +kernel) (by decide +kernel)
theorem dX10_caption_0 : decode cX10_caption 0 = .ok (.aload_n 0, 1) := by decide +kernel
theorem dX10_caption_1 : decode cX10_caption 1 = .ok (.iload_n 1, 1) := by decide +kernel
theorem dX10_caption_2 : decode cX10_caption 2 = .ok (.invokevirtual 128, 3) := by decide +kernel
theorem dX10_caption_5 : decode cX10_caption 5 = .ok (.ifCond .ne 5, 3) := by decide +kernel
theorem dX10_caption_8 : decode cX10_caption 8 = .ok (.iconst (-1), 1) := by decide +kernel
theorem dX10_caption_9 : decode cX10_caption 9 = .ok (.ireturn, 1) := by decide +kernel
set_option maxHeartbeats 4000000 in
set_option maxRecDepth 100000 in
theorem k_caption (l : Launch) (dC : Nat → ClassId) (dI : Nat → Nat → Nat) (cy : Nat → ClassId) (ad : Nat → Nat) (n0 : Int32)  : Met l yX10_caption (wl yX10_caption cX10_caption 3 (some .int)) ({ frames := 1, cells := 0, slots := 0, locals := 64 }) (Pr (dC, dI) vwCl cy [(ad 0, .inr (11, [.ref (ad 1), .ref (ad 4), .ref (ad 5), .ref (ad 10), .ref (ad 23), .ref (ad 24), .ref (ad 25), .ref (ad 27), .ref (ad 28), .ref (ad 29), .ref (ad 30), .ref (ad 31), .ref (ad 54), .int 0, .int (-1), .int 0, .int 0])), (ad 31, .inr (10, [.ref (ad 32), .ref (ad 38), .ref (ad 49)])), (ad 32, .inr (2, [.ref (ad 33), .ref (ad 34), .ref (ad 35), .ref (ad 36), .ref (ad 37), .int 0, .int 0, .int 60, .int 10]))] [.ref (ad 0), .int n0]) (Ri (fun r => r = (-1))) 0 0 (fun _ => False) := by
  refine mr RX10 rfl (by decide +kernel) (Nat.le_of_ble_eq_true rfl) ?_
  intro p e s m below meth c hx hb hr hlocks av9 hav hts hown hml hK hP hS Q9 hQ9 ls hl
  have hl : lv_has ls 3 [(0, .ref (ad 0)), (1, .int n0)] := hl
  refine lv_aload_n hx hb dX10_caption_0 rfl (lv_at hl 0 rfl) ?_
  refine lv_iload_n hx hb dX10_caption_1 rfl (lv_at hl 1 rfl) ?_
  refine jr_i (rVr (As := [.int n0]) (rest := []) (ci := 11) ⟨hx, hb, hml, hown, hts⟩ (k_isMan l dC dI cy ad n0 ) (cw_X10_128 hts rfl rfl ⟨Nat.le_of_ble_eq_true rfl, Nat.le_of_ble_eq_true rfl⟩) hP hK [0, 1, 2] rfl rfl rfl rfl hl.1 rfl (Nat.le_of_ble_eq_true rfl) dX10_caption_2 ⟨Nat.le_of_ble_eq_true rfl, Nat.le_of_ble_eq_true rfl⟩) hP hS (fun r_1 H locs hp_2 hP hS => ?_)
  refine as_i 0 hp_2 ?_
  refine lv_if_ne (tgt := 10) hx hb dX10_caption_5 (by decide) (fun c9 => absurd c9 (by decide)) (fun _ => ?_)
  refine lv_iconst (v := (-1)) hx hb dX10_caption_8 (by decide) ?_
  rw [hQ9]
  exact rr_i hx hb hr hlocks rfl hS dX10_caption_9
abbrev cX10_odds : ByteArray := prog_1_method_35_code
def yX10_odds : MethodName := ⟨RX10, "odds", "(III)I"⟩
theorem t1189 : Cond.code yX10_odds cX10_odds 6 (some .int) ∈ GW := gw_mem 1303 (by decide +kernel) (by decide +kernel)
theorem dX10_odds_0 : decode cX10_odds 0 = .ok (.aload_n 0, 1) := by decide +kernel
theorem dX10_odds_1 : decode cX10_odds 1 = .ok (.iload_n 1, 1) := by decide +kernel
theorem dX10_odds_2 : decode cX10_odds 2 = .ok (.invokevirtual 128, 3) := by decide +kernel
theorem dX10_odds_5 : decode cX10_odds 5 = .ok (.ifCond .eq 14, 3) := by decide +kernel
theorem dX10_odds_19 : decode cX10_odds 19 = .ok (.iconst (-1), 1) := by decide +kernel
theorem dX10_odds_20 : decode cX10_odds 20 = .ok (.ireturn, 1) := by decide +kernel
set_option maxHeartbeats 4000000 in
set_option maxRecDepth 100000 in
theorem k_odds (l : Launch) (dC : Nat → ClassId) (dI : Nat → Nat → Nat) (cy : Nat → ClassId) (ad : Nat → Nat) (n0 : Int32) (n1 : Int32) (n2 : Int32)  : Met l yX10_odds (wl yX10_odds cX10_odds 6 (some .int)) ({ frames := 1, cells := 0, slots := 0, locals := 64 }) (Pr (dC, dI) vwCl cy [(ad 0, .inr (11, [.ref (ad 1), .ref (ad 4), .ref (ad 5), .ref (ad 10), .ref (ad 23), .ref (ad 24), .ref (ad 25), .ref (ad 27), .ref (ad 28), .ref (ad 29), .ref (ad 30), .ref (ad 31), .ref (ad 54), .int 0, .int (-1), .int 0, .int 0])), (ad 31, .inr (10, [.ref (ad 32), .ref (ad 38), .ref (ad 49)])), (ad 32, .inr (2, [.ref (ad 33), .ref (ad 34), .ref (ad 35), .ref (ad 36), .ref (ad 37), .int 0, .int 0, .int 60, .int 10]))] [.ref (ad 0), .int n0, .int n1, .int n2]) (Ri (fun r => r = (-1))) 0 0 (fun _ => False) := by
  refine mr RX10 rfl (by decide +kernel) (Nat.le_of_ble_eq_true rfl) ?_
  intro p e s m below meth c hx hb hr hlocks av9 hav hts hown hml hK hP hS Q9 hQ9 ls hl
  have hl : lv_has ls 6 [(0, .ref (ad 0)), (1, .int n0), (2, .int n1), (3, .int n2)] := hl
  refine lv_aload_n hx hb dX10_odds_0 rfl (lv_at hl 0 rfl) ?_
  refine lv_iload_n hx hb dX10_odds_1 rfl (lv_at hl 1 rfl) ?_
  refine jr_i (rVr (As := [.int n0]) (rest := []) (ci := 11) ⟨hx, hb, hml, hown, hts⟩ (k_isMan l dC dI cy ad n0 ) (cw_X10_128 hts rfl rfl ⟨Nat.le_of_ble_eq_true rfl, Nat.le_of_ble_eq_true rfl⟩) hP hK [0, 1, 2] rfl rfl rfl rfl hl.1 rfl (Nat.le_of_ble_eq_true rfl) dX10_odds_2 ⟨Nat.le_of_ble_eq_true rfl, Nat.le_of_ble_eq_true rfl⟩) hP hS (fun r_1 H locs hp_2 hP hS => ?_)
  refine as_i 0 hp_2 ?_
  refine lv_if_eq (tgt := 19) hx hb dX10_odds_5 (by decide) (fun _ => ?_) (fun c9 => absurd (by decide) c9)
  refine lv_iconst (v := (-1)) hx hb dX10_odds_19 (by decide) ?_
  rw [hQ9]
  exact rr_i hx hb hr hlocks rfl hS dX10_odds_20
abbrev cX10_fault : ByteArray := prog_1_method_5_code
def yX10_fault : MethodName := ⟨RX10, "fault", "()I"⟩
theorem t668 : Cond.code yX10_fault cX10_fault 1 (some .int) ∈ GW := gw_mem 782 (by decide +kernel) (by decide +kernel)
theorem dX10_fault_0 : decode cX10_fault 0 = .ok (.aload_n 0, 1) := by decide +kernel
theorem dX10_fault_1 : decode cX10_fault 1 = .ok (.getfield 109, 3) := by decide +kernel
theorem t490 : Cond.fieldLink RX10 109 "LikenessPound" "latestFault" "I" ∈ GW := gw_mem 604 (by decide +kernel) (by decide +kernel)
theorem gf_X10_109 {p : Program} {l : Launch} {e : Env} {R : Room} {s : State} {m : MethodId} {args : Array Value} {below : List Frame} {meth : Method} {c : Code} {H : Heap} {locs : List Loc} {cells slots : Nat} {Q : State → Prop} {cc : ByteArray} {pc : Nat} {ls : Array Slot} {rest : List Value} {D : va_G} {a : Nat} {tys : List (ClassId × FieldType)} {ws : va_W} (hx : p.tables.exec = Jvm.exec) (hb : c.code = cc) (hts : ∀ w ∈ GW, w.before args s = true) (hown : s.vm.findClass RX10 = some m.cls) (hK : va_K D vwCl tys s) (hP : va_P D vwCl ws H) (q0 : Nat) {fs : List Value} (he : ws[q0]? = some (a, .inr (11, fs))) {v : Value} (hv : fs[13]? = some v) (hdg : decode cc pc = .ok (.getfield 109, 3)) (kk : W p l e R s m args below meth c H locs cells slots Q (F0 m (pc + 3) ls (v :: rest))) : W p l e R s m args below meth c H locs cells slots Q (F0 m pc ls (.ref a :: rest)) := va_get (C := RX10) (T := TX10) (N := 17) (ci := 11) hx hb hts inX10 hown hK hP q0 he rfl 13 (by decide) (hts _ t490) (fun _ h => h) hv hdg kk
theorem dX10_fault_4 : decode cX10_fault 4 = .ok (.ireturn, 1) := by decide +kernel
set_option maxHeartbeats 4000000 in
set_option maxRecDepth 100000 in
theorem k_fault (l : Launch) (dC : Nat → ClassId) (dI : Nat → Nat → Nat) (cy : Nat → ClassId) (ad : Nat → Nat)  : Met l yX10_fault (wl yX10_fault cX10_fault 1 (some .int)) ({ frames := 0, cells := 0, slots := 0, locals := 0 }) (Pr (dC, dI) vwCl cy [(ad 0, .inr (11, [.ref (ad 1), .ref (ad 4), .ref (ad 5), .ref (ad 10), .ref (ad 23), .ref (ad 24), .ref (ad 25), .ref (ad 27), .ref (ad 28), .ref (ad 29), .ref (ad 30), .ref (ad 31), .ref (ad 54), .int 0, .int (-1), .int 0, .int 0]))] [.ref (ad 0)]) (Ri (fun r => r = 0)) 0 0 (fun _ => False) := by
  refine mr RX10 rfl (by decide +kernel) (Nat.le_of_ble_eq_true rfl) ?_
  intro p e s m below meth c hx hb hr hlocks av9 hav hts hown hml hK hP hS Q9 hQ9 ls hl
  have hl : lv_has ls 1 [(0, .ref (ad 0))] := hl
  refine lv_aload_n hx hb dX10_fault_0 rfl (lv_at hl 0 rfl) ?_
  refine gf_X10_109 hx hb hts hown hK hP 0 rfl rfl dX10_fault_1 ?_
  rw [hQ9]
  exact rr_i hx hb hr hlocks rfl hS dX10_fault_4
abbrev cX10_helping : ByteArray := prog_1_method_25_code
def yX10_helping : MethodName := ⟨RX10, "helping", "()I"⟩
theorem t898 : Cond.code yX10_helping cX10_helping 1 (some .int) ∈ GW := gw_mem 1012 (by decide +kernel) (by decide +kernel)
theorem dX10_helping_0 : decode cX10_helping 0 = .ok (.aload_n 0, 1) := by decide +kernel
theorem dX10_helping_1 : decode cX10_helping 1 = .ok (.getfield 83, 3) := by decide +kernel
theorem t491 : Cond.fieldLink RX10 83 "LikenessPound" "latestHelp" "I" ∈ GW := gw_mem 605 (by decide +kernel) (by decide +kernel)
theorem gf_X10_83 {p : Program} {l : Launch} {e : Env} {R : Room} {s : State} {m : MethodId} {args : Array Value} {below : List Frame} {meth : Method} {c : Code} {H : Heap} {locs : List Loc} {cells slots : Nat} {Q : State → Prop} {cc : ByteArray} {pc : Nat} {ls : Array Slot} {rest : List Value} {D : va_G} {a : Nat} {tys : List (ClassId × FieldType)} {ws : va_W} (hx : p.tables.exec = Jvm.exec) (hb : c.code = cc) (hts : ∀ w ∈ GW, w.before args s = true) (hown : s.vm.findClass RX10 = some m.cls) (hK : va_K D vwCl tys s) (hP : va_P D vwCl ws H) (q0 : Nat) {fs : List Value} (he : ws[q0]? = some (a, .inr (11, fs))) {v : Value} (hv : fs[14]? = some v) (hdg : decode cc pc = .ok (.getfield 83, 3)) (kk : W p l e R s m args below meth c H locs cells slots Q (F0 m (pc + 3) ls (v :: rest))) : W p l e R s m args below meth c H locs cells slots Q (F0 m pc ls (.ref a :: rest)) := va_get (C := RX10) (T := TX10) (N := 17) (ci := 11) hx hb hts inX10 hown hK hP q0 he rfl 14 (by decide) (hts _ t491) (fun _ h => h) hv hdg kk
theorem dX10_helping_4 : decode cX10_helping 4 = .ok (.ireturn, 1) := by decide +kernel
set_option maxHeartbeats 4000000 in
set_option maxRecDepth 100000 in
theorem k_helping (l : Launch) (dC : Nat → ClassId) (dI : Nat → Nat → Nat) (cy : Nat → ClassId) (ad : Nat → Nat)  : Met l yX10_helping (wl yX10_helping cX10_helping 1 (some .int)) ({ frames := 0, cells := 0, slots := 0, locals := 0 }) (Pr (dC, dI) vwCl cy [(ad 0, .inr (11, [.ref (ad 1), .ref (ad 4), .ref (ad 5), .ref (ad 10), .ref (ad 23), .ref (ad 24), .ref (ad 25), .ref (ad 27), .ref (ad 28), .ref (ad 29), .ref (ad 30), .ref (ad 31), .ref (ad 54), .int 0, .int (-1), .int 0, .int 0]))] [.ref (ad 0)]) (Ri (fun r => r = (-1))) 0 0 (fun _ => False) := by
  refine mr RX10 rfl (by decide +kernel) (Nat.le_of_ble_eq_true rfl) ?_
  intro p e s m below meth c hx hb hr hlocks av9 hav hts hown hml hK hP hS Q9 hQ9 ls hl
  have hl : lv_has ls 1 [(0, .ref (ad 0))] := hl
  refine lv_aload_n hx hb dX10_helping_0 rfl (lv_at hl 0 rfl) ?_
  refine gf_X10_83 hx hb hts hown hK hP 0 rfl rfl dX10_helping_1 ?_
  rw [hQ9]
  exact rr_i hx hb hr hlocks rfl hS dX10_helping_4
abbrev cX10_mayBe : ByteArray := prog_1_method_27_code
def yX10_mayBe : MethodName := ⟨RX10, "mayBe", "(I)I"⟩
theorem t947 : Cond.code yX10_mayBe cX10_mayBe 2 (some .int) ∈ GW := gw_mem 1061 (by decide +kernel) (by decide +kernel)
theorem dX10_mayBe_0 : decode cX10_mayBe 0 = .ok (.iload_n 1, 1) := by decide +kernel
theorem dX10_mayBe_1 : decode cX10_mayBe 1 = .ok (.ifCond .lt 20, 3) := by decide +kernel
theorem dX10_mayBe_21 : decode cX10_mayBe 21 = .ok (.iconst (-1), 1) := by decide +kernel
theorem dX10_mayBe_22 : decode cX10_mayBe 22 = .ok (.ireturn, 1) := by decide +kernel
theorem dX10_mayBe_4 : decode cX10_mayBe 4 = .ok (.iload_n 1, 1) := by decide +kernel
theorem dX10_mayBe_5 : decode cX10_mayBe 5 = .ok (.aload_n 0, 1) := by decide +kernel
theorem dX10_mayBe_6 : decode cX10_mayBe 6 = .ok (.getfield 298, 3) := by decide +kernel
theorem t492 : Cond.fieldLink RX10 298 "LikenessPound" "mayDeeds" "I" ∈ GW := gw_mem 606 (by decide +kernel) (by decide +kernel)
theorem gf_X10_298 {p : Program} {l : Launch} {e : Env} {R : Room} {s : State} {m : MethodId} {args : Array Value} {below : List Frame} {meth : Method} {c : Code} {H : Heap} {locs : List Loc} {cells slots : Nat} {Q : State → Prop} {cc : ByteArray} {pc : Nat} {ls : Array Slot} {rest : List Value} {D : va_G} {a : Nat} {tys : List (ClassId × FieldType)} {ws : va_W} (hx : p.tables.exec = Jvm.exec) (hb : c.code = cc) (hts : ∀ w ∈ GW, w.before args s = true) (hown : s.vm.findClass RX10 = some m.cls) (hK : va_K D vwCl tys s) (hP : va_P D vwCl ws H) (q0 : Nat) {fs : List Value} (he : ws[q0]? = some (a, .inr (11, fs))) {v : Value} (hv : fs[15]? = some v) (hdg : decode cc pc = .ok (.getfield 298, 3)) (kk : W p l e R s m args below meth c H locs cells slots Q (F0 m (pc + 3) ls (v :: rest))) : W p l e R s m args below meth c H locs cells slots Q (F0 m pc ls (.ref a :: rest)) := va_get (C := RX10) (T := TX10) (N := 17) (ci := 11) hx hb hts inX10 hown hK hP q0 he rfl 15 (by decide) (hts _ t492) (fun _ h => h) hv hdg kk
theorem dX10_mayBe_9 : decode cX10_mayBe 9 = .ok (.if_icmp .ge 12, 3) := by decide +kernel
set_option maxHeartbeats 4000000 in
set_option maxRecDepth 100000 in
theorem k_mayBe (l : Launch) (dC : Nat → ClassId) (dI : Nat → Nat → Nat) (cy : Nat → ClassId) (ad : Nat → Nat) (n0 : Int32)  : Met l yX10_mayBe (wl yX10_mayBe cX10_mayBe 2 (some .int)) ({ frames := 0, cells := 0, slots := 0, locals := 0 }) (Pr (dC, dI) vwCl cy [(ad 0, .inr (11, [.ref (ad 1), .ref (ad 4), .ref (ad 5), .ref (ad 10), .ref (ad 23), .ref (ad 24), .ref (ad 25), .ref (ad 27), .ref (ad 28), .ref (ad 29), .ref (ad 30), .ref (ad 31), .ref (ad 54), .int 0, .int (-1), .int 0, .int 0]))] [.ref (ad 0), .int n0]) (Ri (fun r => r = (-1))) 0 0 (fun _ => False) := by
  refine mr RX10 rfl (by decide +kernel) (Nat.le_of_ble_eq_true rfl) ?_
  intro p e s m below meth c hx hb hr hlocks av9 hav hts hown hml hK hP hS Q9 hQ9 ls hl
  have hl : lv_has ls 2 [(0, .ref (ad 0)), (1, .int n0)] := hl
  refine lv_iload_n hx hb dX10_mayBe_0 rfl (lv_at hl 1 rfl) ?_
  refine lv_if_lt (tgt := 21) hx hb dX10_mayBe_1 (by decide) (fun c_1 => ?_) (fun c_1 => ?_)
  · skip
    refine lv_iconst (v := (-1)) hx hb dX10_mayBe_21 (by decide) ?_
    rw [hQ9]
    exact rr_i hx hb hr hlocks rfl hS dX10_mayBe_22
  · skip
    refine lv_iload_n hx hb dX10_mayBe_4 rfl (lv_at hl 1 rfl) ?_
    refine lv_aload_n hx hb dX10_mayBe_5 rfl (lv_at hl 0 rfl) ?_
    refine gf_X10_298 hx hb hts hown hK hP 0 rfl rfl dX10_mayBe_6 ?_
    refine lv_icmp_ge (tgt := 21) hx hb dX10_mayBe_9 (by decide) (fun _ => ?_) (fun c9 => absurd (Int32.not_lt.mp c_1) c9)
    refine lv_iconst (v := (-1)) hx hb dX10_mayBe_21 (by decide) ?_
    rw [hQ9]
    exact rr_i hx hb hr hlocks rfl hS dX10_mayBe_22
abbrev cX10_careerOf : ByteArray := prog_1_method_29_code
def yX10_careerOf : MethodName := ⟨RX10, "careerOf", "(I)I"⟩
theorem t960 : Cond.code yX10_careerOf cX10_careerOf 2 (some .int) ∈ GW := gw_mem 1074 (by decide +kernel) (by decide +kernel)
theorem dX10_careerOf_0 : decode cX10_careerOf 0 = .ok (.iload_n 1, 1) := by decide +kernel
theorem dX10_careerOf_1 : decode cX10_careerOf 1 = .ok (.ifCond .lt 20, 3) := by decide +kernel
theorem dX10_careerOf_21 : decode cX10_careerOf 21 = .ok (.iconst (-1), 1) := by decide +kernel
theorem dX10_careerOf_22 : decode cX10_careerOf 22 = .ok (.ireturn, 1) := by decide +kernel
theorem dX10_careerOf_4 : decode cX10_careerOf 4 = .ok (.iload_n 1, 1) := by decide +kernel
theorem dX10_careerOf_5 : decode cX10_careerOf 5 = .ok (.aload_n 0, 1) := by decide +kernel
theorem dX10_careerOf_6 : decode cX10_careerOf 6 = .ok (.getfield 318, 3) := by decide +kernel
theorem t493 : Cond.fieldLink RX10 318 "LikenessPound" "careerDeeds" "I" ∈ GW := gw_mem 607 (by decide +kernel) (by decide +kernel)
theorem gf_X10_318 {p : Program} {l : Launch} {e : Env} {R : Room} {s : State} {m : MethodId} {args : Array Value} {below : List Frame} {meth : Method} {c : Code} {H : Heap} {locs : List Loc} {cells slots : Nat} {Q : State → Prop} {cc : ByteArray} {pc : Nat} {ls : Array Slot} {rest : List Value} {D : va_G} {a : Nat} {tys : List (ClassId × FieldType)} {ws : va_W} (hx : p.tables.exec = Jvm.exec) (hb : c.code = cc) (hts : ∀ w ∈ GW, w.before args s = true) (hown : s.vm.findClass RX10 = some m.cls) (hK : va_K D vwCl tys s) (hP : va_P D vwCl ws H) (q0 : Nat) {fs : List Value} (he : ws[q0]? = some (a, .inr (11, fs))) {v : Value} (hv : fs[16]? = some v) (hdg : decode cc pc = .ok (.getfield 318, 3)) (kk : W p l e R s m args below meth c H locs cells slots Q (F0 m (pc + 3) ls (v :: rest))) : W p l e R s m args below meth c H locs cells slots Q (F0 m pc ls (.ref a :: rest)) := va_get (C := RX10) (T := TX10) (N := 17) (ci := 11) hx hb hts inX10 hown hK hP q0 he rfl 16 (by decide) (hts _ t493) (fun _ h => h) hv hdg kk
theorem dX10_careerOf_9 : decode cX10_careerOf 9 = .ok (.if_icmp .ge 12, 3) := by decide +kernel
set_option maxHeartbeats 4000000 in
set_option maxRecDepth 100000 in
theorem k_careerOf (l : Launch) (dC : Nat → ClassId) (dI : Nat → Nat → Nat) (cy : Nat → ClassId) (ad : Nat → Nat) (n0 : Int32)  : Met l yX10_careerOf (wl yX10_careerOf cX10_careerOf 2 (some .int)) ({ frames := 0, cells := 0, slots := 0, locals := 0 }) (Pr (dC, dI) vwCl cy [(ad 0, .inr (11, [.ref (ad 1), .ref (ad 4), .ref (ad 5), .ref (ad 10), .ref (ad 23), .ref (ad 24), .ref (ad 25), .ref (ad 27), .ref (ad 28), .ref (ad 29), .ref (ad 30), .ref (ad 31), .ref (ad 54), .int 0, .int (-1), .int 0, .int 0]))] [.ref (ad 0), .int n0]) (Ri (fun r => r = (-1))) 0 0 (fun _ => False) := by
  refine mr RX10 rfl (by decide +kernel) (Nat.le_of_ble_eq_true rfl) ?_
  intro p e s m below meth c hx hb hr hlocks av9 hav hts hown hml hK hP hS Q9 hQ9 ls hl
  have hl : lv_has ls 2 [(0, .ref (ad 0)), (1, .int n0)] := hl
  refine lv_iload_n hx hb dX10_careerOf_0 rfl (lv_at hl 1 rfl) ?_
  refine lv_if_lt (tgt := 21) hx hb dX10_careerOf_1 (by decide) (fun c_1 => ?_) (fun c_1 => ?_)
  · skip
    refine lv_iconst (v := (-1)) hx hb dX10_careerOf_21 (by decide) ?_
    rw [hQ9]
    exact rr_i hx hb hr hlocks rfl hS dX10_careerOf_22
  · skip
    refine lv_iload_n hx hb dX10_careerOf_4 rfl (lv_at hl 1 rfl) ?_
    refine lv_aload_n hx hb dX10_careerOf_5 rfl (lv_at hl 0 rfl) ?_
    refine gf_X10_318 hx hb hts hown hK hP 0 rfl rfl dX10_careerOf_6 ?_
    refine lv_icmp_ge (tgt := 21) hx hb dX10_careerOf_9 (by decide) (fun _ => ?_) (fun c9 => absurd (Int32.not_lt.mp c_1) c9)
    refine lv_iconst (v := (-1)) hx hb dX10_careerOf_21 (by decide) ?_
    rw [hQ9]
    exact rr_i hx hb hr hlocks rfl hS dX10_careerOf_22
abbrev cX10_heaviest : ByteArray := prog_1_method_31_code
def yX10_heaviest : MethodName := ⟨RX10, "heaviest", "()I"⟩
theorem t972 : Cond.code yX10_heaviest cX10_heaviest 5 (some .int) ∈ GW := gw_mem 1086 (by decide +kernel) (by decide +kernel)
theorem dX10_heaviest_0 : decode cX10_heaviest 0 = .ok (.iconst (-1), 1) := by decide +kernel
theorem dX10_heaviest_1 : decode cX10_heaviest 1 = .ok (.istore_n 1, 1) := by decide +kernel
theorem dX10_heaviest_2 : decode cX10_heaviest 2 = .ok (.iconst (-1), 1) := by decide +kernel
theorem dX10_heaviest_3 : decode cX10_heaviest 3 = .ok (.istore_n 2, 1) := by decide +kernel
theorem dX10_heaviest_4 : decode cX10_heaviest 4 = .ok (.iconst 0, 1) := by decide +kernel
theorem dX10_heaviest_5 : decode cX10_heaviest 5 = .ok (.istore_n 3, 1) := by decide +kernel
theorem dX10_heaviest_6 : decode cX10_heaviest 6 = .ok (.iload_n 3, 1) := by decide +kernel
theorem dX10_heaviest_7 : decode cX10_heaviest 7 = .ok (.aload_n 0, 1) := by decide +kernel
theorem dX10_heaviest_8 : decode cX10_heaviest 8 = .ok (.getfield 76, 3) := by decide +kernel
theorem dX10_heaviest_11 : decode cX10_heaviest 11 = .ok (.getfield 94, 3) := by decide +kernel
theorem dX10_heaviest_14 : decode cX10_heaviest 14 = .ok (.getfield 324, 3) := by decide +kernel
theorem dX10_heaviest_17 : decode cX10_heaviest 17 = .ok (.if_icmp .ge 30, 3) := by decide +kernel
theorem dX10_heaviest_47 : decode cX10_heaviest 47 = .ok (.iload_n 1, 1) := by decide +kernel
theorem dX10_heaviest_48 : decode cX10_heaviest 48 = .ok (.ireturn, 1) := by decide +kernel
set_option maxHeartbeats 4000000 in
set_option maxRecDepth 100000 in
theorem k_heaviest (l : Launch) (dC : Nat → ClassId) (dI : Nat → Nat → Nat) (cy : Nat → ClassId) (ad : Nat → Nat)  : Met l yX10_heaviest (wl yX10_heaviest cX10_heaviest 5 (some .int)) ({ frames := 1, cells := 0, slots := 0, locals := 64 }) (Pr (dC, dI) vwCl cy [(ad 0, .inr (11, [.ref (ad 1), .ref (ad 4), .ref (ad 5), .ref (ad 10), .ref (ad 23), .ref (ad 24), .ref (ad 25), .ref (ad 27), .ref (ad 28), .ref (ad 29), .ref (ad 30), .ref (ad 31), .ref (ad 54), .int 0, .int (-1), .int 0, .int 0])), (ad 31, .inr (10, [.ref (ad 32), .ref (ad 38), .ref (ad 49)])), (ad 32, .inr (2, [.ref (ad 33), .ref (ad 34), .ref (ad 35), .ref (ad 36), .ref (ad 37), .int 0, .int 0, .int 60, .int 10]))] [.ref (ad 0)]) (Ri (fun r => r = (-1))) 0 0 (fun _ => False) := by
  refine mr RX10 rfl (by decide +kernel) (Nat.le_of_ble_eq_true rfl) ?_
  intro p e s m below meth c hx hb hr hlocks av9 hav hts hown hml hK hP hS Q9 hQ9 ls hl
  have hl : lv_has ls 5 [(0, .ref (ad 0))] := hl
  refine lv_iconst (v := (-1)) hx hb dX10_heaviest_0 (by decide) ?_
  refine lv_istore_n (lv' := [(1, .int (-1)), (0, .ref (ad 0))]) hx hb dX10_heaviest_1 rfl hl (by decide) rfl (fun ls hl => ?_)
  refine lv_iconst (v := (-1)) hx hb dX10_heaviest_2 (by decide) ?_
  refine lv_istore_n (lv' := [(2, .int (-1)), (1, .int (-1)), (0, .ref (ad 0))]) hx hb dX10_heaviest_3 rfl hl (by decide) rfl (fun ls hl => ?_)
  refine lv_iconst (v := 0) hx hb dX10_heaviest_4 (by decide) ?_
  refine lv_istore_n (lv' := [(3, .int 0), (2, .int (-1)), (1, .int (-1)), (0, .ref (ad 0))]) hx hb dX10_heaviest_5 rfl hl (by decide) rfl (fun ls hl => ?_)
  refine lv_iload_n hx hb dX10_heaviest_6 rfl (lv_at hl 0 rfl) ?_
  refine lv_aload_n hx hb dX10_heaviest_7 rfl (lv_at hl 3 rfl) ?_
  refine gf_X10_76 hx hb hts hown hK hP 0 rfl rfl dX10_heaviest_8 ?_
  refine gf_X10_94 hx hb hts hown hK hP 1 rfl rfl dX10_heaviest_11 ?_
  refine gf_X10_324 hx hb hts hown hK hP 2 rfl rfl dX10_heaviest_14 ?_
  refine lv_icmp_ge (tgt := 47) hx hb dX10_heaviest_17 (by decide) (fun _ => ?_) (fun c9 => absurd (by decide) c9)
  refine lv_iload_n hx hb dX10_heaviest_47 rfl (lv_at hl 2 rfl) ?_
  rw [hQ9]
  exact rr_i hx hb hr hlocks rfl hS dX10_heaviest_48
def RJ5 : String := "java/lang/AbstractStringBuilder"
abbrev cJ5_length_8abf5 : ByteArray := prog_15_method_6_code
def yJ5_length_8abf5 : MethodName := ⟨RJ5, "length", "()I"⟩
theorem t1102 : Cond.code yJ5_length_8abf5 cJ5_length_8abf5 1 (some .int) ∈ GW := gw_mem 1216 (by decide +kernel) (by decide +kernel)
theorem dJ5_length_8abf5_0 : decode cJ5_length_8abf5 0 = .ok (.aload_n 0, 1) := by decide +kernel
theorem dJ5_length_8abf5_1 : decode cJ5_length_8abf5 1 = .ok (.getfield 79, 3) := by decide +kernel
theorem t350 : Cond.fieldLink RJ5 79 "java/lang/AbstractStringBuilder" "count" "I" ∈ GW := gw_mem 464 (by decide +kernel) (by decide +kernel)
theorem gf_J5_79 {p : Program} {l : Launch} {e : Env} {R : Room} {s : State} {m : MethodId} {args : Array Value} {below : List Frame} {meth : Method} {c : Code} {H : Heap} {locs : List Loc} {cells slots : Nat} {Q : State → Prop} {cc : ByteArray} {pc : Nat} {ls : Array Slot} {rest : List Value} {D : va_G} {a : Nat} {tys : List (ClassId × FieldType)} {ws : va_W} (hx : p.tables.exec = Jvm.exec) (hb : c.code = cc) (hts : ∀ w ∈ GW, w.before args s = true) (hown : s.vm.findClass RJ5 = some m.cls) (hK : va_K D vwCl tys s) (hP : va_P D vwCl ws H) (q0 : Nat) {fs : List Value} (he : ws[q0]? = some (a, .inr (0, fs))) {v : Value} (hv : fs[3]? = some v) (hdg : decode cc pc = .ok (.getfield 79, 3)) (kk : W p l e R s m args below meth c H locs cells slots Q (F0 m (pc + 3) ls (v :: rest))) : W p l e R s m args below meth c H locs cells slots Q (F0 m pc ls (.ref a :: rest)) := va_get (C := RJ4) (T := TJ4) (N := 4) (ci := 0) hx hb hts inJ4 hown hK hP q0 he rfl 3 (by decide) (hts _ t350) (fun _ h => h) hv hdg kk
theorem dJ5_length_8abf5_4 : decode cJ5_length_8abf5 4 = .ok (.ireturn, 1) := by decide +kernel
set_option maxHeartbeats 4000000 in
set_option maxRecDepth 100000 in
theorem k_J5len (l : Launch) (dC : Nat → ClassId) (dI : Nat → Nat → Nat) (cy : Nat → ClassId) (ad : Nat → Nat)  : Met l yJ5_length_8abf5 (wl yJ5_length_8abf5 cJ5_length_8abf5 1 (some .int)) ({ frames := 0, cells := 0, slots := 0, locals := 0 }) (Pr (dC, dI) vwCl cy [(ad 25, .inr (0, [.ref (ad 26), .int 0, .int 0, .int 0]))] [.ref (ad 25)]) (Ri (fun r => r = 0)) 0 0 (fun _ => False) := by
  refine mr RJ5 rfl (by decide +kernel) (Nat.le_of_ble_eq_true rfl) ?_
  intro p e s m below meth c hx hb hr hlocks av9 hav hts hown hml hK hP hS Q9 hQ9 ls hl
  have hl : lv_has ls 1 [(0, .ref (ad 25))] := hl
  refine lv_aload_n hx hb dJ5_length_8abf5_0 rfl (lv_at hl 0 rfl) ?_
  refine gf_J5_79 hx hb hts hown hK hP 0 rfl rfl dJ5_length_8abf5_1 ?_
  rw [hQ9]
  exact rr_i hx hb hr hlocks rfl hS dJ5_length_8abf5_4
abbrev cJ4_length_8abf5 : ByteArray := prog_26_method_93_code
def yJ4_length_8abf5 : MethodName := ⟨RJ4, "length", "()I"⟩
theorem t1099 : Cond.code yJ4_length_8abf5 cJ4_length_8abf5 1 (some .int) ∈ GW := gw_mem 1213 (by decide +kernel) (by decide +kernel)
theorem dJ4_length_8abf5_0 : decode cJ4_length_8abf5 0 = .ok (.aload_n 0, 1) := by decide +kernel
theorem dJ4_length_8abf5_1 : decode cJ4_length_8abf5 1 = .ok (.invokespecial 343, 3) := by decide +kernel
theorem t1100 : Cond.methodLink RJ4 343 yJ5_length_8abf5 ∈ GW := gw_mem 1214 (by decide +kernel) (by decide +kernel)
theorem t13 : Cond.initialized RJ5 ∈ GW := gw_mem 127 (by decide +kernel) (by decide +kernel)
theorem t1101 : Cond.instanceMethod yJ5_length_8abf5 ∈ GW := gw_mem 1215 (by decide +kernel) (by decide +kernel)
theorem t2084 : Cond.sameMethod yJ5_length_8abf5.cls yJ5_length_8abf5.cls yJ5_length_8abf5.name yJ5_length_8abf5.desc ∈ GW := gw_mem 2198 (by decide +kernel) (by decide +kernel)
theorem t359 : Cond.superclass RJ4 RJ5 ∈ GW := gw_mem 473 (by decide +kernel) (by decide +kernel)
theorem cw_J4_343 {R : Room} {s : State} {args : Array Value} {rm : Room} {mc ms : Nat} (hts : ∀ w ∈ GW, w.before args s = true) (hrc : rm.cells = mc) (hrs : rm.slots = ms) (hR : rm.frames + 1 ≤ R.frames ∧ 8 + (1 + 11) + rm.locals ≤ R.locals) : va_CS R s args RJ4 343 yJ5_length_8abf5 cJ5_length_8abf5 1 (some .int) (wl yJ5_length_8abf5 cJ5_length_8abf5 1 (some .int)) rm mc ms 0 := va_cwSU 0 hts (gi_U t1100 t2084 t359 t1101 t13 t1102) rfl hrc hrs (by decide +kernel) hR
theorem dJ4_length_8abf5_4 : decode cJ4_length_8abf5 4 = .ok (.ireturn, 1) := by decide +kernel
set_option maxHeartbeats 4000000 in
set_option maxRecDepth 100000 in
theorem k_J4len (l : Launch) (dC : Nat → ClassId) (dI : Nat → Nat → Nat) (cy : Nat → ClassId) (ad : Nat → Nat)  : Met l yJ4_length_8abf5 (wl yJ4_length_8abf5 cJ4_length_8abf5 1 (some .int)) ({ frames := 1, cells := 0, slots := 0, locals := 64 }) (Pr (dC, dI) vwCl cy [(ad 25, .inr (0, [.ref (ad 26), .int 0, .int 0, .int 0]))] [.ref (ad 25)]) (Ri (fun r => r = 0)) 0 0 (fun _ => False) := by
  refine mr RJ4 rfl (by decide +kernel) (Nat.le_of_ble_eq_true rfl) ?_
  intro p e s m below meth c hx hb hr hlocks av9 hav hts hown hml hK hP hS Q9 hQ9 ls hl
  have hl : lv_has ls 1 [(0, .ref (ad 25))] := hl
  refine lv_aload_n hx hb dJ4_length_8abf5_0 rfl (lv_at hl 0 rfl) ?_
  refine jr_i (rUr (As := []) (rest := []) (ci := 0) ⟨hx, hb, hml, hown, hts⟩ (k_J5len l dC dI cy ad ) (cw_J4_343 hts rfl rfl ⟨Nat.le_of_ble_eq_true rfl, Nat.le_of_ble_eq_true rfl⟩) hP hK [0] rfl rfl rfl rfl hl.1 rfl (Nat.le_of_ble_eq_true rfl) dJ4_length_8abf5_1 ⟨Nat.le_of_ble_eq_true rfl, Nat.le_of_ble_eq_true rfl⟩) hP hS (fun r_1 H locs hp_2 hP hS => ?_)
  refine as_i 0 hp_2 ?_
  rw [hQ9]
  exact rr_i hx hb hr hlocks rfl hS dJ4_length_8abf5_4
abbrev cX10_byteAt : ByteArray := prog_1_method_33_code
def yX10_byteAt : MethodName := ⟨RX10, "byteAt", "(I)I"⟩
theorem t1152 : Cond.code yX10_byteAt cX10_byteAt 2 (some .int) ∈ GW := gw_mem 1266 (by decide +kernel) (by decide +kernel)
theorem dX10_byteAt_0 : decode cX10_byteAt 0 = .ok (.iload_n 1, 1) := by decide +kernel
theorem dX10_byteAt_1 : decode cX10_byteAt 1 = .ok (.ifCond .lt 25, 3) := by decide +kernel
theorem dX10_byteAt_26 : decode cX10_byteAt 26 = .ok (.iconst (-1), 1) := by decide +kernel
theorem dX10_byteAt_27 : decode cX10_byteAt 27 = .ok (.ireturn, 1) := by decide +kernel
theorem dX10_byteAt_4 : decode cX10_byteAt 4 = .ok (.iload_n 1, 1) := by decide +kernel
theorem dX10_byteAt_5 : decode cX10_byteAt 5 = .ok (.aload_n 0, 1) := by decide +kernel
theorem dX10_byteAt_6 : decode cX10_byteAt 6 = .ok (.getfield 54, 3) := by decide +kernel
theorem t483 : Cond.fieldLink RX10 54 "LikenessPound" "captionText" "Ljava/lang/StringBuilder;" ∈ GW := gw_mem 597 (by decide +kernel) (by decide +kernel)
theorem gf_X10_54 {p : Program} {l : Launch} {e : Env} {R : Room} {s : State} {m : MethodId} {args : Array Value} {below : List Frame} {meth : Method} {c : Code} {H : Heap} {locs : List Loc} {cells slots : Nat} {Q : State → Prop} {cc : ByteArray} {pc : Nat} {ls : Array Slot} {rest : List Value} {D : va_G} {a : Nat} {tys : List (ClassId × FieldType)} {ws : va_W} (hx : p.tables.exec = Jvm.exec) (hb : c.code = cc) (hts : ∀ w ∈ GW, w.before args s = true) (hown : s.vm.findClass RX10 = some m.cls) (hK : va_K D vwCl tys s) (hP : va_P D vwCl ws H) (q0 : Nat) {fs : List Value} (he : ws[q0]? = some (a, .inr (11, fs))) {v : Value} (hv : fs[6]? = some v) (hdg : decode cc pc = .ok (.getfield 54, 3)) (kk : W p l e R s m args below meth c H locs cells slots Q (F0 m (pc + 3) ls (v :: rest))) : W p l e R s m args below meth c H locs cells slots Q (F0 m pc ls (.ref a :: rest)) := va_get (C := RX10) (T := TX10) (N := 17) (ci := 11) hx hb hts inX10 hown hK hP q0 he rfl 6 (by decide) (hts _ t483) (fun _ h => h) hv hdg kk
theorem dX10_byteAt_9 : decode cX10_byteAt 9 = .ok (.invokevirtual 336, 3) := by decide +kernel
theorem t1096 : Cond.methodLink RX10 336 yJ4_length_8abf5 ∈ GW := gw_mem 1210 (by decide +kernel) (by decide +kernel)
theorem t14 : Cond.initialized RJ4 ∈ GW := gw_mem 128 (by decide +kernel) (by decide +kernel)
theorem t1097 : Cond.instanceMethod yJ4_length_8abf5 ∈ GW := gw_mem 1211 (by decide +kernel) (by decide +kernel)
theorem t1098 : Cond.selects RJ4 yJ4_length_8abf5 yJ4_length_8abf5 ∈ GW := gw_mem 1212 (by decide +kernel) (by decide +kernel)
theorem cw_X10_336 {R : Room} {s : State} {args : Array Value} {rm : Room} {mc ms : Nat} (hts : ∀ w ∈ GW, w.before args s = true) (hrc : rm.cells = mc) (hrs : rm.slots = ms) (hR : rm.frames + 1 ≤ R.frames ∧ 8 + (1 + 11) + rm.locals ≤ R.locals) : CallW R s args RX10 RJ4 336 yJ4_length_8abf5 cJ4_length_8abf5 1 (some .int) (wl yJ4_length_8abf5 cJ4_length_8abf5 1 (some .int)) rm mc ms 0 := cwV 0 hts (gi_V t1096 t1097 t1098 t14 t1099) rfl hrc hrs (by decide +kernel) hR
theorem dX10_byteAt_12 : decode cX10_byteAt 12 = .ok (.if_icmp .ge 14, 3) := by decide +kernel
set_option maxHeartbeats 4000000 in
set_option maxRecDepth 100000 in
theorem k_byteAt (l : Launch) (dC : Nat → ClassId) (dI : Nat → Nat → Nat) (cy : Nat → ClassId) (ad : Nat → Nat) (n0 : Int32)  : Met l yX10_byteAt (wl yX10_byteAt cX10_byteAt 2 (some .int)) ({ frames := 2, cells := 0, slots := 0, locals := 128 }) (Pr (dC, dI) vwCl cy [(ad 0, .inr (11, [.ref (ad 1), .ref (ad 4), .ref (ad 5), .ref (ad 10), .ref (ad 23), .ref (ad 24), .ref (ad 25), .ref (ad 27), .ref (ad 28), .ref (ad 29), .ref (ad 30), .ref (ad 31), .ref (ad 54), .int 0, .int (-1), .int 0, .int 0])), (ad 25, .inr (0, [.ref (ad 26), .int 0, .int 0, .int 0]))] [.ref (ad 0), .int n0]) (Ri (fun r => r = (-1))) 0 0 (fun _ => False) := by
  refine mr RX10 rfl (by decide +kernel) (Nat.le_of_ble_eq_true rfl) ?_
  intro p e s m below meth c hx hb hr hlocks av9 hav hts hown hml hK hP hS Q9 hQ9 ls hl
  have hl : lv_has ls 2 [(0, .ref (ad 0)), (1, .int n0)] := hl
  refine lv_iload_n hx hb dX10_byteAt_0 rfl (lv_at hl 1 rfl) ?_
  refine lv_if_lt (tgt := 26) hx hb dX10_byteAt_1 (by decide) (fun c_1 => ?_) (fun c_1 => ?_)
  · skip
    refine lv_iconst (v := (-1)) hx hb dX10_byteAt_26 (by decide) ?_
    rw [hQ9]
    exact rr_i hx hb hr hlocks rfl hS dX10_byteAt_27
  · skip
    refine lv_iload_n hx hb dX10_byteAt_4 rfl (lv_at hl 1 rfl) ?_
    refine lv_aload_n hx hb dX10_byteAt_5 rfl (lv_at hl 0 rfl) ?_
    refine gf_X10_54 hx hb hts hown hK hP 0 rfl rfl dX10_byteAt_6 ?_
    refine jr_i (rVr (As := []) (rest := [.int n0]) (ci := 0) ⟨hx, hb, hml, hown, hts⟩ (k_J4len l dC dI cy ad ) (cw_X10_336 hts rfl rfl ⟨Nat.le_of_ble_eq_true rfl, Nat.le_of_ble_eq_true rfl⟩) hP hK [1] rfl rfl rfl rfl hl.1 rfl (Nat.le_of_ble_eq_true rfl) dX10_byteAt_9 ⟨Nat.le_of_ble_eq_true rfl, Nat.le_of_ble_eq_true rfl⟩) hP hS (fun r_2 H locs hp_3 hP hS => ?_)
    refine as_i 0 hp_3 ?_
    refine lv_icmp_ge (tgt := 26) hx hb dX10_byteAt_12 (by decide) (fun _ => ?_) (fun c9 => absurd (Int32.not_lt.mp c_1) c9)
    refine lv_iconst (v := (-1)) hx hb dX10_byteAt_26 (by decide) ?_
    rw [hQ9]
    exact rr_i hx hb hr hlocks rfl hS dX10_byteAt_27
abbrev cX10_drawn : ByteArray := prog_1_method_34_code
def yX10_drawn : MethodName := ⟨RX10, "drawn", "(II)I"⟩
theorem t1166 : Cond.code yX10_drawn cX10_drawn 3 (some .int) ∈ GW := gw_mem 1280 (by decide +kernel) (by decide +kernel)
theorem dX10_drawn_0 : decode cX10_drawn 0 = .ok (.iload_n 1, 1) := by decide +kernel
theorem dX10_drawn_1 : decode cX10_drawn 1 = .ok (.iconst 1, 1) := by decide +kernel
theorem dX10_drawn_2 : decode cX10_drawn 2 = .ok (.if_icmp .lt 22, 3) := by decide +kernel
theorem dX10_drawn_24 : decode cX10_drawn 24 = .ok (.iconst (-1), 1) := by decide +kernel
theorem dX10_drawn_25 : decode cX10_drawn 25 = .ok (.ireturn, 1) := by decide +kernel
theorem dX10_drawn_5 : decode cX10_drawn 5 = .ok (.iload_n 1, 1) := by decide +kernel
theorem dX10_drawn_6 : decode cX10_drawn 6 = .ok (.bipush 30, 2) := by decide +kernel
theorem dX10_drawn_8 : decode cX10_drawn 8 = .ok (.if_icmp .gt 16, 3) := by decide +kernel
theorem dX10_drawn_11 : decode cX10_drawn 11 = .ok (.aload_n 0, 1) := by decide +kernel
theorem dX10_drawn_12 : decode cX10_drawn 12 = .ok (.getfield 76, 3) := by decide +kernel
theorem dX10_drawn_15 : decode cX10_drawn 15 = .ok (.getfield 94, 3) := by decide +kernel
theorem dX10_drawn_18 : decode cX10_drawn 18 = .ok (.getfield 324, 3) := by decide +kernel
theorem dX10_drawn_21 : decode cX10_drawn 21 = .ok (.ifCond .ne 5, 3) := by decide +kernel
set_option maxHeartbeats 4000000 in
set_option maxRecDepth 100000 in
theorem k_drawn (l : Launch) (dC : Nat → ClassId) (dI : Nat → Nat → Nat) (cy : Nat → ClassId) (ad : Nat → Nat) (n0 : Int32) (n1 : Int32)  : Met l yX10_drawn (wl yX10_drawn cX10_drawn 3 (some .int)) ({ frames := 1, cells := 0, slots := 0, locals := 64 }) (Pr (dC, dI) vwCl cy [(ad 0, .inr (11, [.ref (ad 1), .ref (ad 4), .ref (ad 5), .ref (ad 10), .ref (ad 23), .ref (ad 24), .ref (ad 25), .ref (ad 27), .ref (ad 28), .ref (ad 29), .ref (ad 30), .ref (ad 31), .ref (ad 54), .int 0, .int (-1), .int 0, .int 0])), (ad 31, .inr (10, [.ref (ad 32), .ref (ad 38), .ref (ad 49)])), (ad 32, .inr (2, [.ref (ad 33), .ref (ad 34), .ref (ad 35), .ref (ad 36), .ref (ad 37), .int 0, .int 0, .int 60, .int 10]))] [.ref (ad 0), .int n0, .int n1]) (Ri (fun r => r = (-1))) 0 0 (fun _ => False) := by
  refine mr RX10 rfl (by decide +kernel) (Nat.le_of_ble_eq_true rfl) ?_
  intro p e s m below meth c hx hb hr hlocks av9 hav hts hown hml hK hP hS Q9 hQ9 ls hl
  have hl : lv_has ls 3 [(0, .ref (ad 0)), (1, .int n0), (2, .int n1)] := hl
  refine lv_iload_n hx hb dX10_drawn_0 rfl (lv_at hl 1 rfl) ?_
  refine lv_iconst (v := 1) hx hb dX10_drawn_1 (by decide) ?_
  refine lv_icmp_lt (tgt := 24) hx hb dX10_drawn_2 (by decide) (fun c_1 => ?_) (fun c_1 => ?_)
  · skip
    refine lv_iconst (v := (-1)) hx hb dX10_drawn_24 (by decide) ?_
    rw [hQ9]
    exact rr_i hx hb hr hlocks rfl hS dX10_drawn_25
  · skip
    refine lv_iload_n hx hb dX10_drawn_5 rfl (lv_at hl 1 rfl) ?_
    refine lv_bipush (v := 30) hx hb dX10_drawn_6 (by decide) ?_
    refine lv_icmp_gt (tgt := 24) hx hb dX10_drawn_8 (by decide) (fun c_2 => ?_) (fun c_2 => ?_)
    · skip
      refine lv_iconst (v := (-1)) hx hb dX10_drawn_24 (by decide) ?_
      rw [hQ9]
      exact rr_i hx hb hr hlocks rfl hS dX10_drawn_25
    · skip
      refine lv_aload_n hx hb dX10_drawn_11 rfl (lv_at hl 0 rfl) ?_
      refine gf_X10_76 hx hb hts hown hK hP 0 rfl rfl dX10_drawn_12 ?_
      refine gf_X10_94 hx hb hts hown hK hP 1 rfl rfl dX10_drawn_15 ?_
      refine gf_X10_324 hx hb hts hown hK hP 2 rfl rfl dX10_drawn_18 ?_
      refine lv_if_ne (tgt := 26) hx hb dX10_drawn_21 (by decide) (fun c9 => absurd c9 (by decide)) (fun _ => ?_)
      refine lv_iconst (v := (-1)) hx hb dX10_drawn_24 (by decide) ?_
      rw [hQ9]
      exact rr_i hx hb hr hlocks rfl hS dX10_drawn_25
abbrev cX10_told : ByteArray := prog_1_method_37_code
def yX10_told : MethodName := ⟨RX10, "told", "(I)I"⟩
theorem t1255 : Cond.code yX10_told cX10_told 2 (some .int) ∈ GW := gw_mem 1369 (by decide +kernel) (by decide +kernel)
theorem dX10_told_0 : decode cX10_told 0 = .ok (.aload_n 0, 1) := by decide +kernel
theorem dX10_told_1 : decode cX10_told 1 = .ok (.getfield 26, 3) := by decide +kernel
theorem t479 : Cond.fieldLink RX10 26 "LikenessPound" "bookText" "LLikenessPound$BookText;" ∈ GW := gw_mem 593 (by decide +kernel) (by decide +kernel)
theorem gf_X10_26 {p : Program} {l : Launch} {e : Env} {R : Room} {s : State} {m : MethodId} {args : Array Value} {below : List Frame} {meth : Method} {c : Code} {H : Heap} {locs : List Loc} {cells slots : Nat} {Q : State → Prop} {cc : ByteArray} {pc : Nat} {ls : Array Slot} {rest : List Value} {D : va_G} {a : Nat} {tys : List (ClassId × FieldType)} {ws : va_W} (hx : p.tables.exec = Jvm.exec) (hb : c.code = cc) (hts : ∀ w ∈ GW, w.before args s = true) (hown : s.vm.findClass RX10 = some m.cls) (hK : va_K D vwCl tys s) (hP : va_P D vwCl ws H) (q0 : Nat) {fs : List Value} (he : ws[q0]? = some (a, .inr (11, fs))) {v : Value} (hv : fs[2]? = some v) (hdg : decode cc pc = .ok (.getfield 26, 3)) (kk : W p l e R s m args below meth c H locs cells slots Q (F0 m (pc + 3) ls (v :: rest))) : W p l e R s m args below meth c H locs cells slots Q (F0 m pc ls (.ref a :: rest)) := va_get (C := RX10) (T := TX10) (N := 17) (ci := 11) hx hb hts inX10 hown hK hP q0 he rfl 2 (by decide) (hts _ t479) (fun _ h => h) hv hdg kk
theorem dX10_told_4 : decode cX10_told 4 = .ok (.getfield 374, 3) := by decide +kernel
theorem t181 : Cond.fieldLink RX10 374 "LikenessPound$BookText" "judged" "Z" ∈ GW := gw_mem 295 (by decide +kernel) (by decide +kernel)
theorem gf_X10_374 {p : Program} {l : Launch} {e : Env} {R : Room} {s : State} {m : MethodId} {args : Array Value} {below : List Frame} {meth : Method} {c : Code} {H : Heap} {locs : List Loc} {cells slots : Nat} {Q : State → Prop} {cc : ByteArray} {pc : Nat} {ls : Array Slot} {rest : List Value} {D : va_G} {a : Nat} {tys : List (ClassId × FieldType)} {ws : va_W} (hx : p.tables.exec = Jvm.exec) (hb : c.code = cc) (hts : ∀ w ∈ GW, w.before args s = true) (hown : s.vm.findClass RX10 = some m.cls) (hK : va_K D vwCl tys s) (hP : va_P D vwCl ws H) (q0 : Nat) {fs : List Value} (he : ws[q0]? = some (a, .inr (1, fs))) {v : Value} (hv : fs[5]? = some v) (hdg : decode cc pc = .ok (.getfield 374, 3)) (kk : W p l e R s m args below meth c H locs cells slots Q (F0 m (pc + 3) ls (v :: rest))) : W p l e R s m args below meth c H locs cells slots Q (F0 m pc ls (.ref a :: rest)) := va_get (C := RX0) (T := TX0) (N := 10) (ci := 1) hx hb hts inX0 hown hK hP q0 he rfl 5 (by decide) (hts _ t181) (fun _ h => h) hv hdg kk
theorem dX10_told_7 : decode cX10_told 7 = .ok (.ifCond .ne 5, 3) := by decide +kernel
theorem dX10_told_10 : decode cX10_told 10 = .ok (.iconst (-1), 1) := by decide +kernel
theorem dX10_told_11 : decode cX10_told 11 = .ok (.ireturn, 1) := by decide +kernel
set_option maxHeartbeats 4000000 in
set_option maxRecDepth 100000 in
theorem k_told (l : Launch) (dC : Nat → ClassId) (dI : Nat → Nat → Nat) (cy : Nat → ClassId) (ad : Nat → Nat) (n0 : Int32)  : Met l yX10_told (wl yX10_told cX10_told 2 (some .int)) ({ frames := 1, cells := 0, slots := 0, locals := 64 }) (Pr (dC, dI) vwCl cy [(ad 0, .inr (11, [.ref (ad 1), .ref (ad 4), .ref (ad 5), .ref (ad 10), .ref (ad 23), .ref (ad 24), .ref (ad 25), .ref (ad 27), .ref (ad 28), .ref (ad 29), .ref (ad 30), .ref (ad 31), .ref (ad 54), .int 0, .int (-1), .int 0, .int 0])), (ad 5, .inr (1, [.ref (ad 6), .ref (ad 7), .ref (ad 8), .ref (ad 9), .int 0, .int 0, .int 0, .int 0, .int 0, .int 0]))] [.ref (ad 0), .int n0]) (Ri (fun r => r = (-1))) 0 0 (fun _ => False) := by
  refine mr RX10 rfl (by decide +kernel) (Nat.le_of_ble_eq_true rfl) ?_
  intro p e s m below meth c hx hb hr hlocks av9 hav hts hown hml hK hP hS Q9 hQ9 ls hl
  have hl : lv_has ls 2 [(0, .ref (ad 0)), (1, .int n0)] := hl
  refine lv_aload_n hx hb dX10_told_0 rfl (lv_at hl 0 rfl) ?_
  refine gf_X10_26 hx hb hts hown hK hP 0 rfl rfl dX10_told_1 ?_
  refine gf_X10_374 hx hb hts hown hK hP 1 rfl rfl dX10_told_4 ?_
  refine lv_if_ne (tgt := 12) hx hb dX10_told_7 (by decide) (fun c9 => absurd c9 (by decide)) (fun _ => ?_)
  refine lv_iconst (v := (-1)) hx hb dX10_told_10 (by decide) ?_
  rw [hQ9]
  exact rr_i hx hb hr hlocks rfl hS dX10_told_11
abbrev cX10_said : ByteArray := prog_1_method_39_code
def yX10_said : MethodName := ⟨RX10, "said", "(I)I"⟩
theorem t1309 : Cond.code yX10_said cX10_said 5 (some .int) ∈ GW := gw_mem 1423 (by decide +kernel) (by decide +kernel)
theorem dX10_said_0 : decode cX10_said 0 = .ok (.aload_n 0, 1) := by decide +kernel
theorem dX10_said_1 : decode cX10_said 1 = .ok (.getfield 76, 3) := by decide +kernel
theorem dX10_said_4 : decode cX10_said 4 = .ok (.getfield 115, 3) := by decide +kernel
theorem t469 : Cond.fieldLink RX10 115 "LikenessPound$World" "sentence" "LLikenessPound$Sentence;" ∈ GW := gw_mem 583 (by decide +kernel) (by decide +kernel)
theorem gf_X10_115 {p : Program} {l : Launch} {e : Env} {R : Room} {s : State} {m : MethodId} {args : Array Value} {below : List Frame} {meth : Method} {c : Code} {H : Heap} {locs : List Loc} {cells slots : Nat} {Q : State → Prop} {cc : ByteArray} {pc : Nat} {ls : Array Slot} {rest : List Value} {D : va_G} {a : Nat} {tys : List (ClassId × FieldType)} {ws : va_W} (hx : p.tables.exec = Jvm.exec) (hb : c.code = cc) (hts : ∀ w ∈ GW, w.before args s = true) (hown : s.vm.findClass RX10 = some m.cls) (hK : va_K D vwCl tys s) (hP : va_P D vwCl ws H) (q0 : Nat) {fs : List Value} (he : ws[q0]? = some (a, .inr (10, fs))) {v : Value} (hv : fs[2]? = some v) (hdg : decode cc pc = .ok (.getfield 115, 3)) (kk : W p l e R s m args below meth c H locs cells slots Q (F0 m (pc + 3) ls (v :: rest))) : W p l e R s m args below meth c H locs cells slots Q (F0 m pc ls (.ref a :: rest)) := va_get (C := RX9) (T := TX9) (N := 3) (ci := 10) hx hb hts inX9 hown hK hP q0 he rfl 2 (by decide) (hts _ t469) (fun _ h => h) hv hdg kk
theorem dX10_said_7 : decode cX10_said 7 = .ok (.getfield 394, 3) := by decide +kernel
theorem t445 : Cond.fieldLink RX10 394 "LikenessPound$Sentence" "ones" "I" ∈ GW := gw_mem 559 (by decide +kernel) (by decide +kernel)
theorem gf_X10_394 {p : Program} {l : Launch} {e : Env} {R : Room} {s : State} {m : MethodId} {args : Array Value} {below : List Frame} {meth : Method} {c : Code} {H : Heap} {locs : List Loc} {cells slots : Nat} {Q : State → Prop} {cc : ByteArray} {pc : Nat} {ls : Array Slot} {rest : List Value} {D : va_G} {a : Nat} {tys : List (ClassId × FieldType)} {ws : va_W} (hx : p.tables.exec = Jvm.exec) (hb : c.code = cc) (hts : ∀ w ∈ GW, w.before args s = true) (hown : s.vm.findClass RX10 = some m.cls) (hK : va_K D vwCl tys s) (hP : va_P D vwCl ws H) (q0 : Nat) {fs : List Value} (he : ws[q0]? = some (a, .inr (7, fs))) {v : Value} (hv : fs[5]? = some v) (hdg : decode cc pc = .ok (.getfield 394, 3)) (kk : W p l e R s m args below meth c H locs cells slots Q (F0 m (pc + 3) ls (v :: rest))) : W p l e R s m args below meth c H locs cells slots Q (F0 m pc ls (.ref a :: rest)) := va_get (C := RX6) (T := TX6) (N := 6) (ci := 7) hx hb hts inX6 hown hK hP q0 he rfl 5 (by decide) (hts _ t445) (fun _ h => h) hv hdg kk
theorem dX10_said_10 : decode cX10_said 10 = .ok (.ifCond .eq 8, 3) := by decide +kernel
theorem dX10_said_18 : decode cX10_said 18 = .ok (.iconst (-1), 1) := by decide +kernel
theorem dX10_said_19 : decode cX10_said 19 = .ok (.ireturn, 1) := by decide +kernel
set_option maxHeartbeats 4000000 in
set_option maxRecDepth 100000 in
theorem k_said (l : Launch) (dC : Nat → ClassId) (dI : Nat → Nat → Nat) (cy : Nat → ClassId) (ad : Nat → Nat) (n0 : Int32)  : Met l yX10_said (wl yX10_said cX10_said 5 (some .int)) ({ frames := 1, cells := 0, slots := 0, locals := 64 }) (Pr (dC, dI) vwCl cy [(ad 0, .inr (11, [.ref (ad 1), .ref (ad 4), .ref (ad 5), .ref (ad 10), .ref (ad 23), .ref (ad 24), .ref (ad 25), .ref (ad 27), .ref (ad 28), .ref (ad 29), .ref (ad 30), .ref (ad 31), .ref (ad 54), .int 0, .int (-1), .int 0, .int 0])), (ad 31, .inr (10, [.ref (ad 32), .ref (ad 38), .ref (ad 49)])), (ad 49, .inr (7, [.ref (ad 50), .ref (ad 51), .ref (ad 52), .ref (ad 53), .int 0, .int 0]))] [.ref (ad 0), .int n0]) (Ri (fun r => r = (-1))) 0 0 (fun _ => False) := by
  refine mr RX10 rfl (by decide +kernel) (Nat.le_of_ble_eq_true rfl) ?_
  intro p e s m below meth c hx hb hr hlocks av9 hav hts hown hml hK hP hS Q9 hQ9 ls hl
  have hl : lv_has ls 5 [(0, .ref (ad 0)), (1, .int n0)] := hl
  refine lv_aload_n hx hb dX10_said_0 rfl (lv_at hl 0 rfl) ?_
  refine gf_X10_76 hx hb hts hown hK hP 0 rfl rfl dX10_said_1 ?_
  refine gf_X10_115 hx hb hts hown hK hP 1 rfl rfl dX10_said_4 ?_
  refine gf_X10_394 hx hb hts hown hK hP 2 rfl rfl dX10_said_7 ?_
  refine lv_if_eq (tgt := 18) hx hb dX10_said_10 (by decide) (fun _ => ?_) (fun c9 => absurd (by decide) c9)
  refine lv_iconst (v := (-1)) hx hb dX10_said_18 (by decide) ?_
  rw [hQ9]
  exact rr_i hx hb hr hlocks rfl hS dX10_said_19
abbrev cX5_takeLatest : ByteArray := prog_7_method_5_code
def yX5_takeLatest : MethodName := ⟨RX5, "takeLatest", "(LLikenessPound$Life;)I"⟩
theorem t849 : Cond.code yX5_takeLatest cX5_takeLatest 2 (some .int) ∈ GW := gw_mem 963 (by decide +kernel) (by decide +kernel)
theorem dX5_takeLatest_0 : decode cX5_takeLatest 0 = .ok (.aload_n 0, 1) := by decide +kernel
theorem dX5_takeLatest_1 : decode cX5_takeLatest 1 = .ok (.getfield 18, 3) := by decide +kernel
theorem t294 : Cond.fieldLink RX5 18 "LikenessPound$Past" "size" "I" ∈ GW := gw_mem 408 (by decide +kernel) (by decide +kernel)
theorem gf_X5_18 {p : Program} {l : Launch} {e : Env} {R : Room} {s : State} {m : MethodId} {args : Array Value} {below : List Frame} {meth : Method} {c : Code} {H : Heap} {locs : List Loc} {cells slots : Nat} {Q : State → Prop} {cc : ByteArray} {pc : Nat} {ls : Array Slot} {rest : List Value} {D : va_G} {a : Nat} {tys : List (ClassId × FieldType)} {ws : va_W} (hx : p.tables.exec = Jvm.exec) (hb : c.code = cc) (hts : ∀ w ∈ GW, w.before args s = true) (hown : s.vm.findClass RX5 = some m.cls) (hK : va_K D vwCl tys s) (hP : va_P D vwCl ws H) (q0 : Nat) {fs : List Value} (he : ws[q0]? = some (a, .inr (6, fs))) {v : Value} (hv : fs[1]? = some v) (hdg : decode cc pc = .ok (.getfield 18, 3)) (kk : W p l e R s m args below meth c H locs cells slots Q (F0 m (pc + 3) ls (v :: rest))) : W p l e R s m args below meth c H locs cells slots Q (F0 m pc ls (.ref a :: rest)) := va_get (C := RX5) (T := TX5) (N := 3) (ci := 6) hx hb hts inX5 hown hK hP q0 he rfl 1 (by decide) (hts _ t294) (fun _ h => h) hv hdg kk
theorem dX5_takeLatest_4 : decode cX5_takeLatest 4 = .ok (.ifCond .ne 5, 3) := by decide +kernel
theorem dX5_takeLatest_7 : decode cX5_takeLatest 7 = .ok (.iconst (-1), 1) := by decide +kernel
theorem dX5_takeLatest_8 : decode cX5_takeLatest 8 = .ok (.ireturn, 1) := by decide +kernel
set_option maxHeartbeats 4000000 in
set_option maxRecDepth 100000 in
theorem k_takeLatest (l : Launch) (dC : Nat → ClassId) (dI : Nat → Nat → Nat) (cy : Nat → ClassId) (ad : Nat → Nat)  : Met l yX5_takeLatest (wl yX5_takeLatest cX5_takeLatest 2 (some .int)) ({ frames := 1, cells := 0, slots := 0, locals := 64 }) (Pr (dC, dI) vwCl cy [(ad 10, .inr (6, [.ref (ad 11), .int 0, .int 0]))] [.ref (ad 10), .ref (ad 38)]) (Ri (fun r => r = (-1))) 0 0 (fun _ => False) := by
  refine mr RX5 rfl (by decide +kernel) (Nat.le_of_ble_eq_true rfl) ?_
  intro p e s m below meth c hx hb hr hlocks av9 hav hts hown hml hK hP hS Q9 hQ9 ls hl
  have hl : lv_has ls 2 [(0, .ref (ad 10)), (1, .ref (ad 38))] := hl
  refine lv_aload_n hx hb dX5_takeLatest_0 rfl (lv_at hl 0 rfl) ?_
  refine gf_X5_18 hx hb hts hown hK hP 0 rfl rfl dX5_takeLatest_1 ?_
  refine lv_if_ne (tgt := 9) hx hb dX5_takeLatest_4 (by decide) (fun c9 => absurd c9 (by decide)) (fun _ => ?_)
  refine lv_iconst (v := (-1)) hx hb dX5_takeLatest_7 (by decide) ?_
  rw [hQ9]
  exact rr_i hx hb hr hlocks rfl hS dX5_takeLatest_8
abbrev cX10_undo : ByteArray := prog_1_method_21_code
def yX10_undo : MethodName := ⟨RX10, "undo", "()I"⟩
theorem t845 : Cond.code yX10_undo cX10_undo 1 (some .int) ∈ GW := gw_mem 959 (by decide +kernel) (by decide +kernel)
theorem dX10_undo_0 : decode cX10_undo 0 = .ok (.aload_n 0, 1) := by decide +kernel
theorem dX10_undo_1 : decode cX10_undo 1 = .ok (.getfield 33, 3) := by decide +kernel
theorem t480 : Cond.fieldLink RX10 33 "LikenessPound" "past" "LLikenessPound$Past;" ∈ GW := gw_mem 594 (by decide +kernel) (by decide +kernel)
theorem gf_X10_33 {p : Program} {l : Launch} {e : Env} {R : Room} {s : State} {m : MethodId} {args : Array Value} {below : List Frame} {meth : Method} {c : Code} {H : Heap} {locs : List Loc} {cells slots : Nat} {Q : State → Prop} {cc : ByteArray} {pc : Nat} {ls : Array Slot} {rest : List Value} {D : va_G} {a : Nat} {tys : List (ClassId × FieldType)} {ws : va_W} (hx : p.tables.exec = Jvm.exec) (hb : c.code = cc) (hts : ∀ w ∈ GW, w.before args s = true) (hown : s.vm.findClass RX10 = some m.cls) (hK : va_K D vwCl tys s) (hP : va_P D vwCl ws H) (q0 : Nat) {fs : List Value} (he : ws[q0]? = some (a, .inr (11, fs))) {v : Value} (hv : fs[3]? = some v) (hdg : decode cc pc = .ok (.getfield 33, 3)) (kk : W p l e R s m args below meth c H locs cells slots Q (F0 m (pc + 3) ls (v :: rest))) : W p l e R s m args below meth c H locs cells slots Q (F0 m pc ls (.ref a :: rest)) := va_get (C := RX10) (T := TX10) (N := 17) (ci := 11) hx hb hts inX10 hown hK hP q0 he rfl 3 (by decide) (hts _ t480) (fun _ h => h) hv hdg kk
theorem dX10_undo_4 : decode cX10_undo 4 = .ok (.aload_n 0, 1) := by decide +kernel
theorem dX10_undo_5 : decode cX10_undo 5 = .ok (.getfield 76, 3) := by decide +kernel
theorem dX10_undo_8 : decode cX10_undo 8 = .ok (.getfield 98, 3) := by decide +kernel
theorem t465 : Cond.fieldLink RX10 98 "LikenessPound$World" "life" "LLikenessPound$Life;" ∈ GW := gw_mem 579 (by decide +kernel) (by decide +kernel)
theorem gf_X10_98 {p : Program} {l : Launch} {e : Env} {R : Room} {s : State} {m : MethodId} {args : Array Value} {below : List Frame} {meth : Method} {c : Code} {H : Heap} {locs : List Loc} {cells slots : Nat} {Q : State → Prop} {cc : ByteArray} {pc : Nat} {ls : Array Slot} {rest : List Value} {D : va_G} {a : Nat} {tys : List (ClassId × FieldType)} {ws : va_W} (hx : p.tables.exec = Jvm.exec) (hb : c.code = cc) (hts : ∀ w ∈ GW, w.before args s = true) (hown : s.vm.findClass RX10 = some m.cls) (hK : va_K D vwCl tys s) (hP : va_P D vwCl ws H) (q0 : Nat) {fs : List Value} (he : ws[q0]? = some (a, .inr (10, fs))) {v : Value} (hv : fs[1]? = some v) (hdg : decode cc pc = .ok (.getfield 98, 3)) (kk : W p l e R s m args below meth c H locs cells slots Q (F0 m (pc + 3) ls (v :: rest))) : W p l e R s m args below meth c H locs cells slots Q (F0 m pc ls (.ref a :: rest)) := va_get (C := RX9) (T := TX9) (N := 3) (ci := 10) hx hb hts inX9 hown hK hP q0 he rfl 1 (by decide) (hts _ t465) (fun _ h => h) hv hdg kk
theorem dX10_undo_11 : decode cX10_undo 11 = .ok (.invokevirtual 256, 3) := by decide +kernel
theorem t846 : Cond.methodLink RX10 256 yX5_takeLatest ∈ GW := gw_mem 960 (by decide +kernel) (by decide +kernel)
theorem t9 : Cond.initialized RX5 ∈ GW := gw_mem 123 (by decide +kernel) (by decide +kernel)
theorem t847 : Cond.instanceMethod yX5_takeLatest ∈ GW := gw_mem 961 (by decide +kernel) (by decide +kernel)
theorem t848 : Cond.selects RX5 yX5_takeLatest yX5_takeLatest ∈ GW := gw_mem 962 (by decide +kernel) (by decide +kernel)
theorem cw_X10_256 {R : Room} {s : State} {args : Array Value} {rm : Room} {mc ms : Nat} (hts : ∀ w ∈ GW, w.before args s = true) (hrc : rm.cells = mc) (hrs : rm.slots = ms) (hR : rm.frames + 1 ≤ R.frames ∧ 8 + (2 + 11) + rm.locals ≤ R.locals) : CallW R s args RX10 RX5 256 yX5_takeLatest cX5_takeLatest 2 (some .int) (wl yX5_takeLatest cX5_takeLatest 2 (some .int)) rm mc ms 1 := cwV 1 hts (gi_V t846 t847 t848 t9 t849) rfl hrc hrs (by decide +kernel) hR
theorem dX10_undo_14 : decode cX10_undo 14 = .ok (.ireturn, 1) := by decide +kernel
set_option maxHeartbeats 4000000 in
set_option maxRecDepth 100000 in
theorem k_undo (l : Launch) (dC : Nat → ClassId) (dI : Nat → Nat → Nat) (cy : Nat → ClassId) (ad : Nat → Nat)  : Met l yX10_undo (wl yX10_undo cX10_undo 1 (some .int)) ({ frames := 2, cells := 0, slots := 0, locals := 128 }) (Pr (dC, dI) vwCl cy [(ad 0, .inr (11, [.ref (ad 1), .ref (ad 4), .ref (ad 5), .ref (ad 10), .ref (ad 23), .ref (ad 24), .ref (ad 25), .ref (ad 27), .ref (ad 28), .ref (ad 29), .ref (ad 30), .ref (ad 31), .ref (ad 54), .int 0, .int (-1), .int 0, .int 0])), (ad 31, .inr (10, [.ref (ad 32), .ref (ad 38), .ref (ad 49)])), (ad 10, .inr (6, [.ref (ad 11), .int 0, .int 0]))] [.ref (ad 0)]) (Ri (fun r => r = (-1))) 0 0 (fun _ => False) := by
  refine mr RX10 rfl (by decide +kernel) (Nat.le_of_ble_eq_true rfl) ?_
  intro p e s m below meth c hx hb hr hlocks av9 hav hts hown hml hK hP hS Q9 hQ9 ls hl
  have hl : lv_has ls 1 [(0, .ref (ad 0))] := hl
  refine lv_aload_n hx hb dX10_undo_0 rfl (lv_at hl 0 rfl) ?_
  refine gf_X10_33 hx hb hts hown hK hP 0 rfl rfl dX10_undo_1 ?_
  refine lv_aload_n hx hb dX10_undo_4 rfl (lv_at hl 0 rfl) ?_
  refine gf_X10_76 hx hb hts hown hK hP 0 rfl rfl dX10_undo_5 ?_
  refine gf_X10_98 hx hb hts hown hK hP 1 rfl rfl dX10_undo_8 ?_
  refine jr_i (rVr (As := [.ref (ad 38)]) (rest := []) (ci := 6) ⟨hx, hb, hml, hown, hts⟩ (k_takeLatest l dC dI cy ad ) (cw_X10_256 hts rfl rfl ⟨Nat.le_of_ble_eq_true rfl, Nat.le_of_ble_eq_true rfl⟩) hP hK [2] rfl rfl rfl rfl hl.1 rfl (Nat.le_of_ble_eq_true rfl) dX10_undo_11 ⟨Nat.le_of_ble_eq_true rfl, Nat.le_of_ble_eq_true rfl⟩) hP hS (fun r_1 H locs hp_2 hP hS => ?_)
  refine as_i (-1) hp_2 ?_
  rw [hQ9]
  exact rr_i hx hb hr hlocks rfl hS dX10_undo_14
def cntF (w : Int32) : Int32 := if w = 0 then 0 else if w = 1 then 0 else if w = 2 then 60 else if w = 3 then 10 else if w = 4 then 0 else -1
theorem cntF_out {w : Int32} (h : w.toInt < 0 ∨ 4 < w.toInt) : cntF w = -1 := by
  have ne : ∀ k : Int32, 0 ≤ k.toInt → k.toInt ≤ 4 → w ≠ k := fun k h1 h2 e => by rw [e] at h; omega
  unfold cntF
  rw [if_neg (ne 0 (by decide) (by decide)), if_neg (ne 1 (by decide) (by decide)), if_neg (ne 2 (by decide) (by decide)), if_neg (ne 3 (by decide) (by decide)), if_neg (ne 4 (by decide) (by decide))]
def nowF (w : Int32) : Int32 := if w.toInt < 0 ∨ 7 < w.toInt then -1 else 0
abbrev cX10_count : ByteArray := prog_1_method_42_code
def yX10_count : MethodName := ⟨RX10, "count", "(I)I"⟩
theorem t1349 : Cond.code yX10_count cX10_count 2 (some .int) ∈ GW := gw_mem 1463 (by decide +kernel) (by decide +kernel)
theorem dX10_count_0 : decode cX10_count 0 = .ok (.iload_n 1, 1) := by decide +kernel
theorem dX10_count_1 : decode cX10_count 1 = .ok (.tableswitch 87 0 4 #[35, 46, 57, 68, 79], 35) := by decide +kernel
theorem dX10_count_88 : decode cX10_count 88 = .ok (.iconst (-1), 1) := by decide +kernel
theorem dX10_count_89 : decode cX10_count 89 = .ok (.ireturn, 1) := by decide +kernel
theorem sw_cases_0_4 (x : Int32) (h : ¬ (x.toInt < 0 ∨ 4 < x.toInt)) : x = 0 ∨ x = 1 ∨ x = 2 ∨ x = 3 ∨ x = 4 := by
  have h1 : ∀ k : Int32, x = k ↔ x.toInt = k.toInt := fun k => ⟨fun e => by rw [e], fun e => Int32.toInt_inj.mp e⟩
  simp only [h1]
  simp only [show (0 : Int32).toInt = 0 from by decide, show (1 : Int32).toInt = 1 from by decide, show (2 : Int32).toInt = 2 from by decide, show (3 : Int32).toInt = 3 from by decide, show (4 : Int32).toInt = 4 from by decide]
  omega
theorem dX10_count_36 : decode cX10_count 36 = .ok (.aload_n 0, 1) := by decide +kernel
theorem dX10_count_37 : decode cX10_count 37 = .ok (.getfield 76, 3) := by decide +kernel
theorem dX10_count_40 : decode cX10_count 40 = .ok (.getfield 94, 3) := by decide +kernel
theorem dX10_count_43 : decode cX10_count 43 = .ok (.getfield 324, 3) := by decide +kernel
theorem dX10_count_46 : decode cX10_count 46 = .ok (.ireturn, 1) := by decide +kernel
theorem dX10_count_47 : decode cX10_count 47 = .ok (.aload_n 0, 1) := by decide +kernel
theorem dX10_count_48 : decode cX10_count 48 = .ok (.getfield 76, 3) := by decide +kernel
theorem dX10_count_51 : decode cX10_count 51 = .ok (.getfield 94, 3) := by decide +kernel
theorem dX10_count_54 : decode cX10_count 54 = .ok (.getfield 295, 3) := by decide +kernel
theorem dX10_count_57 : decode cX10_count 57 = .ok (.ireturn, 1) := by decide +kernel
theorem dX10_count_58 : decode cX10_count 58 = .ok (.aload_n 0, 1) := by decide +kernel
theorem dX10_count_59 : decode cX10_count 59 = .ok (.getfield 76, 3) := by decide +kernel
theorem dX10_count_62 : decode cX10_count 62 = .ok (.getfield 94, 3) := by decide +kernel
theorem dX10_count_65 : decode cX10_count 65 = .ok (.getfield 185, 3) := by decide +kernel
theorem t404 : Cond.fieldLink RX10 185 "LikenessPound$Colony" "room" "I" ∈ GW := gw_mem 518 (by decide +kernel) (by decide +kernel)
theorem gf_X10_185 {p : Program} {l : Launch} {e : Env} {R : Room} {s : State} {m : MethodId} {args : Array Value} {below : List Frame} {meth : Method} {c : Code} {H : Heap} {locs : List Loc} {cells slots : Nat} {Q : State → Prop} {cc : ByteArray} {pc : Nat} {ls : Array Slot} {rest : List Value} {D : va_G} {a : Nat} {tys : List (ClassId × FieldType)} {ws : va_W} (hx : p.tables.exec = Jvm.exec) (hb : c.code = cc) (hts : ∀ w ∈ GW, w.before args s = true) (hown : s.vm.findClass RX10 = some m.cls) (hK : va_K D vwCl tys s) (hP : va_P D vwCl ws H) (q0 : Nat) {fs : List Value} (he : ws[q0]? = some (a, .inr (2, fs))) {v : Value} (hv : fs[7]? = some v) (hdg : decode cc pc = .ok (.getfield 185, 3)) (kk : W p l e R s m args below meth c H locs cells slots Q (F0 m (pc + 3) ls (v :: rest))) : W p l e R s m args below meth c H locs cells slots Q (F0 m pc ls (.ref a :: rest)) := va_get (C := RX1) (T := TX1) (N := 9) (ci := 2) hx hb hts inX1 hown hK hP q0 he rfl 7 (by decide) (hts _ t404) (fun _ h => h) hv hdg kk
theorem dX10_count_68 : decode cX10_count 68 = .ok (.ireturn, 1) := by decide +kernel
theorem dX10_count_69 : decode cX10_count 69 = .ok (.aload_n 0, 1) := by decide +kernel
theorem dX10_count_70 : decode cX10_count 70 = .ok (.getfield 76, 3) := by decide +kernel
theorem dX10_count_73 : decode cX10_count 73 = .ok (.getfield 94, 3) := by decide +kernel
theorem dX10_count_76 : decode cX10_count 76 = .ok (.getfield 403, 3) := by decide +kernel
theorem t410 : Cond.fieldLink RX10 403 "LikenessPound$Colony" "faint" "I" ∈ GW := gw_mem 524 (by decide +kernel) (by decide +kernel)
theorem gf_X10_403 {p : Program} {l : Launch} {e : Env} {R : Room} {s : State} {m : MethodId} {args : Array Value} {below : List Frame} {meth : Method} {c : Code} {H : Heap} {locs : List Loc} {cells slots : Nat} {Q : State → Prop} {cc : ByteArray} {pc : Nat} {ls : Array Slot} {rest : List Value} {D : va_G} {a : Nat} {tys : List (ClassId × FieldType)} {ws : va_W} (hx : p.tables.exec = Jvm.exec) (hb : c.code = cc) (hts : ∀ w ∈ GW, w.before args s = true) (hown : s.vm.findClass RX10 = some m.cls) (hK : va_K D vwCl tys s) (hP : va_P D vwCl ws H) (q0 : Nat) {fs : List Value} (he : ws[q0]? = some (a, .inr (2, fs))) {v : Value} (hv : fs[8]? = some v) (hdg : decode cc pc = .ok (.getfield 403, 3)) (kk : W p l e R s m args below meth c H locs cells slots Q (F0 m (pc + 3) ls (v :: rest))) : W p l e R s m args below meth c H locs cells slots Q (F0 m pc ls (.ref a :: rest)) := va_get (C := RX1) (T := TX1) (N := 9) (ci := 2) hx hb hts inX1 hown hK hP q0 he rfl 8 (by decide) (hts _ t410) (fun _ h => h) hv hdg kk
theorem dX10_count_79 : decode cX10_count 79 = .ok (.ireturn, 1) := by decide +kernel
theorem dX10_count_80 : decode cX10_count 80 = .ok (.aload_n 0, 1) := by decide +kernel
theorem dX10_count_81 : decode cX10_count 81 = .ok (.getfield 10, 3) := by decide +kernel
theorem t477 : Cond.fieldLink RX10 10 "LikenessPound" "tape" "LLikenessPound$Tape;" ∈ GW := gw_mem 591 (by decide +kernel) (by decide +kernel)
theorem gf_X10_10 {p : Program} {l : Launch} {e : Env} {R : Room} {s : State} {m : MethodId} {args : Array Value} {below : List Frame} {meth : Method} {c : Code} {H : Heap} {locs : List Loc} {cells slots : Nat} {Q : State → Prop} {cc : ByteArray} {pc : Nat} {ls : Array Slot} {rest : List Value} {D : va_G} {a : Nat} {tys : List (ClassId × FieldType)} {ws : va_W} (hx : p.tables.exec = Jvm.exec) (hb : c.code = cc) (hts : ∀ w ∈ GW, w.before args s = true) (hown : s.vm.findClass RX10 = some m.cls) (hK : va_K D vwCl tys s) (hP : va_P D vwCl ws H) (q0 : Nat) {fs : List Value} (he : ws[q0]? = some (a, .inr (11, fs))) {v : Value} (hv : fs[0]? = some v) (hdg : decode cc pc = .ok (.getfield 10, 3)) (kk : W p l e R s m args below meth c H locs cells slots Q (F0 m (pc + 3) ls (v :: rest))) : W p l e R s m args below meth c H locs cells slots Q (F0 m pc ls (.ref a :: rest)) := va_get (C := RX10) (T := TX10) (N := 17) (ci := 11) hx hb hts inX10 hown hK hP q0 he rfl 0 (by decide) (hts _ t477) (fun _ h => h) hv hdg kk
theorem dX10_count_84 : decode cX10_count 84 = .ok (.getfield 87, 3) := by decide +kernel
theorem t96 : Cond.fieldLink RX10 87 "LikenessPound$Tape" "length" "I" ∈ GW := gw_mem 210 (by decide +kernel) (by decide +kernel)
theorem gf_X10_87 {p : Program} {l : Launch} {e : Env} {R : Room} {s : State} {m : MethodId} {args : Array Value} {below : List Frame} {meth : Method} {c : Code} {H : Heap} {locs : List Loc} {cells slots : Nat} {Q : State → Prop} {cc : ByteArray} {pc : Nat} {ls : Array Slot} {rest : List Value} {D : va_G} {a : Nat} {tys : List (ClassId × FieldType)} {ws : va_W} (hx : p.tables.exec = Jvm.exec) (hb : c.code = cc) (hts : ∀ w ∈ GW, w.before args s = true) (hown : s.vm.findClass RX10 = some m.cls) (hK : va_K D vwCl tys s) (hP : va_P D vwCl ws H) (q0 : Nat) {fs : List Value} (he : ws[q0]? = some (a, .inr (9, fs))) {v : Value} (hv : fs[2]? = some v) (hdg : decode cc pc = .ok (.getfield 87, 3)) (kk : W p l e R s m args below meth c H locs cells slots Q (F0 m (pc + 3) ls (v :: rest))) : W p l e R s m args below meth c H locs cells slots Q (F0 m pc ls (.ref a :: rest)) := va_get (C := RX8) (T := TX8) (N := 12) (ci := 9) hx hb hts inX8 hown hK hP q0 he rfl 2 (by decide) (hts _ t96) (fun _ h => h) hv hdg kk
theorem dX10_count_87 : decode cX10_count 87 = .ok (.ireturn, 1) := by decide +kernel
set_option maxHeartbeats 4000000 in
set_option maxRecDepth 100000 in
theorem k_count (l : Launch) (dC : Nat → ClassId) (dI : Nat → Nat → Nat) (cy : Nat → ClassId) (ad : Nat → Nat) (n0 : Int32)  : Met l yX10_count (wl yX10_count cX10_count 2 (some .int)) ({ frames := 0, cells := 0, slots := 0, locals := 0 }) (Pr (dC, dI) vwCl cy [(ad 0, .inr (11, [.ref (ad 1), .ref (ad 4), .ref (ad 5), .ref (ad 10), .ref (ad 23), .ref (ad 24), .ref (ad 25), .ref (ad 27), .ref (ad 28), .ref (ad 29), .ref (ad 30), .ref (ad 31), .ref (ad 54), .int 0, .int (-1), .int 0, .int 0])), (ad 1, .inr (9, [.ref (ad 2), .ref (ad 3), .int 0, .int 0, .int 0, .int 0, .int 0, .int 0, .long 0, .int 0, .int 0, .int 0])), (ad 31, .inr (10, [.ref (ad 32), .ref (ad 38), .ref (ad 49)])), (ad 32, .inr (2, [.ref (ad 33), .ref (ad 34), .ref (ad 35), .ref (ad 36), .ref (ad 37), .int 0, .int 0, .int 60, .int 10]))] [.ref (ad 0), .int n0]) (Ri (fun r => r = cntF n0)) 0 0 (fun _ => False) := by
  refine mr RX10 rfl (by decide +kernel) (Nat.le_of_ble_eq_true rfl) ?_
  intro p e s m below meth c hx hb hr hlocks av9 hav hts hown hml hK hP hS Q9 hQ9 ls hl
  have hl : lv_has ls 2 [(0, .ref (ad 0)), (1, .int n0)] := hl
  refine lv_iload_n hx hb dX10_count_0 rfl (lv_at hl 1 rfl) ?_
  by_cases sw_1 : n0.toInt < 0 ∨ 4 < n0.toInt
  · refine lv_tableOut (tgt := 88) hx hb dX10_count_1 sw_1 (by decide) ?_
    refine lv_iconst (v := (-1)) hx hb dX10_count_88 (by decide) ?_
    rw [hQ9]
    exact rr_i hx hb hr hlocks (cntF_out sw_1).symm hS dX10_count_89
  · have sw_1a : n0 = 0 ∨ n0 = 1 ∨ n0 = 2 ∨ n0 = 3 ∨ n0 = 4 := sw_cases_0_4 n0 sw_1
    rcases sw_1a with sw_1b | sw_1b | sw_1b | sw_1b | sw_1b
    · refine as_i 0 sw_1b ?_
      refine lv_tableIn (off := 35) (tgt := 36) hx hb dX10_count_1 (by decide) (by decide) (by decide) (by decide) ?_
      refine lv_aload_n hx hb dX10_count_36 rfl (lv_at hl 0 rfl) ?_
      refine gf_X10_76 hx hb hts hown hK hP 0 rfl rfl dX10_count_37 ?_
      refine gf_X10_94 hx hb hts hown hK hP 2 rfl rfl dX10_count_40 ?_
      refine gf_X10_324 hx hb hts hown hK hP 3 rfl rfl dX10_count_43 ?_
      rw [hQ9]
      exact rr_i hx hb hr hlocks (by rw [sw_1b]; rfl) hS dX10_count_46
    · refine as_i 1 sw_1b ?_
      refine lv_tableIn (off := 46) (tgt := 47) hx hb dX10_count_1 (by decide) (by decide) (by decide) (by decide) ?_
      refine lv_aload_n hx hb dX10_count_47 rfl (lv_at hl 0 rfl) ?_
      refine gf_X10_76 hx hb hts hown hK hP 0 rfl rfl dX10_count_48 ?_
      refine gf_X10_94 hx hb hts hown hK hP 2 rfl rfl dX10_count_51 ?_
      refine gf_X10_295 hx hb hts hown hK hP 3 rfl rfl dX10_count_54 ?_
      rw [hQ9]
      exact rr_i hx hb hr hlocks (by rw [sw_1b]; rfl) hS dX10_count_57
    · refine as_i 2 sw_1b ?_
      refine lv_tableIn (off := 57) (tgt := 58) hx hb dX10_count_1 (by decide) (by decide) (by decide) (by decide) ?_
      refine lv_aload_n hx hb dX10_count_58 rfl (lv_at hl 0 rfl) ?_
      refine gf_X10_76 hx hb hts hown hK hP 0 rfl rfl dX10_count_59 ?_
      refine gf_X10_94 hx hb hts hown hK hP 2 rfl rfl dX10_count_62 ?_
      refine gf_X10_185 hx hb hts hown hK hP 3 rfl rfl dX10_count_65 ?_
      rw [hQ9]
      exact rr_i hx hb hr hlocks (by rw [sw_1b]; rfl) hS dX10_count_68
    · refine as_i 3 sw_1b ?_
      refine lv_tableIn (off := 68) (tgt := 69) hx hb dX10_count_1 (by decide) (by decide) (by decide) (by decide) ?_
      refine lv_aload_n hx hb dX10_count_69 rfl (lv_at hl 0 rfl) ?_
      refine gf_X10_76 hx hb hts hown hK hP 0 rfl rfl dX10_count_70 ?_
      refine gf_X10_94 hx hb hts hown hK hP 2 rfl rfl dX10_count_73 ?_
      refine gf_X10_403 hx hb hts hown hK hP 3 rfl rfl dX10_count_76 ?_
      rw [hQ9]
      exact rr_i hx hb hr hlocks (by rw [sw_1b]; rfl) hS dX10_count_79
    · refine as_i 4 sw_1b ?_
      refine lv_tableIn (off := 79) (tgt := 80) hx hb dX10_count_1 (by decide) (by decide) (by decide) (by decide) ?_
      refine lv_aload_n hx hb dX10_count_80 rfl (lv_at hl 0 rfl) ?_
      refine gf_X10_10 hx hb hts hown hK hP 0 rfl rfl dX10_count_81 ?_
      refine gf_X10_87 hx hb hts hown hK hP 1 rfl rfl dX10_count_84 ?_
      rw [hQ9]
      exact rr_i hx hb hr hlocks (by rw [sw_1b]; rfl) hS dX10_count_87
abbrev cX9_whoIs : ByteArray := prog_11_method_8_code
def yX9_whoIs : MethodName := ⟨RX9, "whoIs", "(I)I"⟩
theorem t728 : Cond.code yX9_whoIs cX9_whoIs 4 (some .int) ∈ GW := gw_mem 842 (by decide +kernel) (by decide +kernel)
theorem dX9_whoIs_0 : decode cX9_whoIs 0 = .ok (.iconst 0, 1) := by decide +kernel
theorem dX9_whoIs_1 : decode cX9_whoIs 1 = .ok (.istore_n 2, 1) := by decide +kernel
theorem dX9_whoIs_2 : decode cX9_whoIs 2 = .ok (.iconst 0, 1) := by decide +kernel
theorem dX9_whoIs_3 : decode cX9_whoIs 3 = .ok (.istore_n 3, 1) := by decide +kernel
theorem dX9_whoIs_4 : decode cX9_whoIs 4 = .ok (.iload_n 3, 1) := by decide +kernel
theorem dX9_whoIs_5 : decode cX9_whoIs 5 = .ok (.aload_n 0, 1) := by decide +kernel
theorem dX9_whoIs_6 : decode cX9_whoIs 6 = .ok (.getfield 12, 3) := by decide +kernel
theorem t459 : Cond.fieldLink RX9 12 "LikenessPound$World" "colony" "LLikenessPound$Colony;" ∈ GW := gw_mem 573 (by decide +kernel) (by decide +kernel)
theorem gf_X9_12 {p : Program} {l : Launch} {e : Env} {R : Room} {s : State} {m : MethodId} {args : Array Value} {below : List Frame} {meth : Method} {c : Code} {H : Heap} {locs : List Loc} {cells slots : Nat} {Q : State → Prop} {cc : ByteArray} {pc : Nat} {ls : Array Slot} {rest : List Value} {D : va_G} {a : Nat} {tys : List (ClassId × FieldType)} {ws : va_W} (hx : p.tables.exec = Jvm.exec) (hb : c.code = cc) (hts : ∀ w ∈ GW, w.before args s = true) (hown : s.vm.findClass RX9 = some m.cls) (hK : va_K D vwCl tys s) (hP : va_P D vwCl ws H) (q0 : Nat) {fs : List Value} (he : ws[q0]? = some (a, .inr (10, fs))) {v : Value} (hv : fs[0]? = some v) (hdg : decode cc pc = .ok (.getfield 12, 3)) (kk : W p l e R s m args below meth c H locs cells slots Q (F0 m (pc + 3) ls (v :: rest))) : W p l e R s m args below meth c H locs cells slots Q (F0 m pc ls (.ref a :: rest)) := va_get (C := RX9) (T := TX9) (N := 3) (ci := 10) hx hb hts inX9 hown hK hP q0 he rfl 0 (by decide) (hts _ t459) (fun _ h => h) hv hdg kk
theorem dX9_whoIs_9 : decode cX9_whoIs 9 = .ok (.getfield 65, 3) := by decide +kernel
theorem t393 : Cond.fieldLink RX9 65 "LikenessPound$Colony" "men" "I" ∈ GW := gw_mem 507 (by decide +kernel) (by decide +kernel)
theorem gf_X9_65 {p : Program} {l : Launch} {e : Env} {R : Room} {s : State} {m : MethodId} {args : Array Value} {below : List Frame} {meth : Method} {c : Code} {H : Heap} {locs : List Loc} {cells slots : Nat} {Q : State → Prop} {cc : ByteArray} {pc : Nat} {ls : Array Slot} {rest : List Value} {D : va_G} {a : Nat} {tys : List (ClassId × FieldType)} {ws : va_W} (hx : p.tables.exec = Jvm.exec) (hb : c.code = cc) (hts : ∀ w ∈ GW, w.before args s = true) (hown : s.vm.findClass RX9 = some m.cls) (hK : va_K D vwCl tys s) (hP : va_P D vwCl ws H) (q0 : Nat) {fs : List Value} (he : ws[q0]? = some (a, .inr (2, fs))) {v : Value} (hv : fs[5]? = some v) (hdg : decode cc pc = .ok (.getfield 65, 3)) (kk : W p l e R s m args below meth c H locs cells slots Q (F0 m (pc + 3) ls (v :: rest))) : W p l e R s m args below meth c H locs cells slots Q (F0 m pc ls (.ref a :: rest)) := va_get (C := RX1) (T := TX1) (N := 9) (ci := 2) hx hb hts inX1 hown hK hP q0 he rfl 5 (by decide) (hts _ t393) (fun _ h => h) hv hdg kk
theorem dX9_whoIs_12 : decode cX9_whoIs 12 = .ok (.if_icmp .ge 24, 3) := by decide +kernel
theorem dX9_whoIs_36 : decode cX9_whoIs 36 = .ok (.iload_n 2, 1) := by decide +kernel
theorem dX9_whoIs_37 : decode cX9_whoIs 37 = .ok (.ireturn, 1) := by decide +kernel
set_option maxHeartbeats 4000000 in
set_option maxRecDepth 100000 in
theorem k_whoIs (l : Launch) (dC : Nat → ClassId) (dI : Nat → Nat → Nat) (cy : Nat → ClassId) (ad : Nat → Nat) (n0 : Int32)  : Met l yX9_whoIs (wl yX9_whoIs cX9_whoIs 4 (some .int)) ({ frames := 1, cells := 0, slots := 0, locals := 64 }) (Pr (dC, dI) vwCl cy [(ad 31, .inr (10, [.ref (ad 32), .ref (ad 38), .ref (ad 49)])), (ad 32, .inr (2, [.ref (ad 33), .ref (ad 34), .ref (ad 35), .ref (ad 36), .ref (ad 37), .int 0, .int 0, .int 60, .int 10]))] [.ref (ad 31), .int n0]) (Ri (fun r => r = 0)) 0 0 (fun _ => False) := by
  refine mr RX9 rfl (by decide +kernel) (Nat.le_of_ble_eq_true rfl) ?_
  intro p e s m below meth c hx hb hr hlocks av9 hav hts hown hml hK hP hS Q9 hQ9 ls hl
  have hl : lv_has ls 4 [(0, .ref (ad 31)), (1, .int n0)] := hl
  refine lv_iconst (v := 0) hx hb dX9_whoIs_0 (by decide) ?_
  refine lv_istore_n (lv' := [(2, .int 0), (0, .ref (ad 31)), (1, .int n0)]) hx hb dX9_whoIs_1 rfl hl (by decide) rfl (fun ls hl => ?_)
  refine lv_iconst (v := 0) hx hb dX9_whoIs_2 (by decide) ?_
  refine lv_istore_n (lv' := [(3, .int 0), (2, .int 0), (0, .ref (ad 31)), (1, .int n0)]) hx hb dX9_whoIs_3 rfl hl (by decide) rfl (fun ls hl => ?_)
  refine lv_iload_n hx hb dX9_whoIs_4 rfl (lv_at hl 0 rfl) ?_
  refine lv_aload_n hx hb dX9_whoIs_5 rfl (lv_at hl 2 rfl) ?_
  refine gf_X9_12 hx hb hts hown hK hP 0 rfl rfl dX9_whoIs_6 ?_
  refine gf_X9_65 hx hb hts hown hK hP 1 rfl rfl dX9_whoIs_9 ?_
  refine lv_icmp_ge (tgt := 36) hx hb dX9_whoIs_12 (by decide) (fun _ => ?_) (fun c9 => absurd (by decide) c9)
  refine lv_iload_n hx hb dX9_whoIs_36 rfl (lv_at hl 1 rfl) ?_
  rw [hQ9]
  exact rr_i hx hb hr hlocks rfl hS dX9_whoIs_37
abbrev cX9_whoLends : ByteArray := prog_11_method_9_code
def yX9_whoLends : MethodName := ⟨RX9, "whoLends", "()I"⟩
theorem t740 : Cond.code yX9_whoLends cX9_whoLends 3 (some .int) ∈ GW := gw_mem 854 (by decide +kernel) (by decide +kernel)
theorem dX9_whoLends_0 : decode cX9_whoLends 0 = .ok (.iconst 0, 1) := by decide +kernel
theorem dX9_whoLends_1 : decode cX9_whoLends 1 = .ok (.istore_n 1, 1) := by decide +kernel
theorem dX9_whoLends_2 : decode cX9_whoLends 2 = .ok (.iconst 0, 1) := by decide +kernel
theorem dX9_whoLends_3 : decode cX9_whoLends 3 = .ok (.istore_n 2, 1) := by decide +kernel
theorem dX9_whoLends_4 : decode cX9_whoLends 4 = .ok (.iload_n 2, 1) := by decide +kernel
theorem dX9_whoLends_5 : decode cX9_whoLends 5 = .ok (.aload_n 0, 1) := by decide +kernel
theorem dX9_whoLends_6 : decode cX9_whoLends 6 = .ok (.getfield 12, 3) := by decide +kernel
theorem dX9_whoLends_9 : decode cX9_whoLends 9 = .ok (.getfield 65, 3) := by decide +kernel
theorem dX9_whoLends_12 : decode cX9_whoLends 12 = .ok (.if_icmp .ge 28, 3) := by decide +kernel
theorem dX9_whoLends_40 : decode cX9_whoLends 40 = .ok (.iload_n 1, 1) := by decide +kernel
theorem dX9_whoLends_41 : decode cX9_whoLends 41 = .ok (.ireturn, 1) := by decide +kernel
set_option maxHeartbeats 4000000 in
set_option maxRecDepth 100000 in
theorem k_whoLends (l : Launch) (dC : Nat → ClassId) (dI : Nat → Nat → Nat) (cy : Nat → ClassId) (ad : Nat → Nat)  : Met l yX9_whoLends (wl yX9_whoLends cX9_whoLends 3 (some .int)) ({ frames := 1, cells := 0, slots := 0, locals := 64 }) (Pr (dC, dI) vwCl cy [(ad 31, .inr (10, [.ref (ad 32), .ref (ad 38), .ref (ad 49)])), (ad 32, .inr (2, [.ref (ad 33), .ref (ad 34), .ref (ad 35), .ref (ad 36), .ref (ad 37), .int 0, .int 0, .int 60, .int 10]))] [.ref (ad 31)]) (Ri (fun r => r = 0)) 0 0 (fun _ => False) := by
  refine mr RX9 rfl (by decide +kernel) (Nat.le_of_ble_eq_true rfl) ?_
  intro p e s m below meth c hx hb hr hlocks av9 hav hts hown hml hK hP hS Q9 hQ9 ls hl
  have hl : lv_has ls 3 [(0, .ref (ad 31))] := hl
  refine lv_iconst (v := 0) hx hb dX9_whoLends_0 (by decide) ?_
  refine lv_istore_n (lv' := [(1, .int 0), (0, .ref (ad 31))]) hx hb dX9_whoLends_1 rfl hl (by decide) rfl (fun ls hl => ?_)
  refine lv_iconst (v := 0) hx hb dX9_whoLends_2 (by decide) ?_
  refine lv_istore_n (lv' := [(2, .int 0), (1, .int 0), (0, .ref (ad 31))]) hx hb dX9_whoLends_3 rfl hl (by decide) rfl (fun ls hl => ?_)
  refine lv_iload_n hx hb dX9_whoLends_4 rfl (lv_at hl 0 rfl) ?_
  refine lv_aload_n hx hb dX9_whoLends_5 rfl (lv_at hl 2 rfl) ?_
  refine gf_X9_12 hx hb hts hown hK hP 0 rfl rfl dX9_whoLends_6 ?_
  refine gf_X9_65 hx hb hts hown hK hP 1 rfl rfl dX9_whoLends_9 ?_
  refine lv_icmp_ge (tgt := 40) hx hb dX9_whoLends_12 (by decide) (fun _ => ?_) (fun c9 => absurd (by decide) c9)
  refine lv_iload_n hx hb dX9_whoLends_40 rfl (lv_at hl 1 rfl) ?_
  rw [hQ9]
  exact rr_i hx hb hr hlocks rfl hS dX9_whoLends_41
abbrev cX9_allWhite : ByteArray := prog_11_method_10_code
def yX9_allWhite : MethodName := ⟨RX9, "allWhite", "()I"⟩
theorem t744 : Cond.code yX9_allWhite cX9_allWhite 3 (some .int) ∈ GW := gw_mem 858 (by decide +kernel) (by decide +kernel)
theorem dX9_allWhite_0 : decode cX9_allWhite 0 = .ok (.iconst 0, 1) := by decide +kernel
theorem dX9_allWhite_1 : decode cX9_allWhite 1 = .ok (.istore_n 1, 1) := by decide +kernel
theorem dX9_allWhite_2 : decode cX9_allWhite 2 = .ok (.iconst 0, 1) := by decide +kernel
theorem dX9_allWhite_3 : decode cX9_allWhite 3 = .ok (.istore_n 2, 1) := by decide +kernel
theorem dX9_allWhite_4 : decode cX9_allWhite 4 = .ok (.iload_n 2, 1) := by decide +kernel
theorem dX9_allWhite_5 : decode cX9_allWhite 5 = .ok (.aload_n 0, 1) := by decide +kernel
theorem dX9_allWhite_6 : decode cX9_allWhite 6 = .ok (.getfield 12, 3) := by decide +kernel
theorem dX9_allWhite_9 : decode cX9_allWhite 9 = .ok (.getfield 65, 3) := by decide +kernel
theorem dX9_allWhite_12 : decode cX9_allWhite 12 = .ok (.if_icmp .ge 17, 3) := by decide +kernel
theorem dX9_allWhite_29 : decode cX9_allWhite 29 = .ok (.iload_n 1, 1) := by decide +kernel
theorem dX9_allWhite_30 : decode cX9_allWhite 30 = .ok (.ireturn, 1) := by decide +kernel
set_option maxHeartbeats 4000000 in
set_option maxRecDepth 100000 in
theorem k_allWhite (l : Launch) (dC : Nat → ClassId) (dI : Nat → Nat → Nat) (cy : Nat → ClassId) (ad : Nat → Nat)  : Met l yX9_allWhite (wl yX9_allWhite cX9_allWhite 3 (some .int)) ({ frames := 1, cells := 0, slots := 0, locals := 64 }) (Pr (dC, dI) vwCl cy [(ad 31, .inr (10, [.ref (ad 32), .ref (ad 38), .ref (ad 49)])), (ad 32, .inr (2, [.ref (ad 33), .ref (ad 34), .ref (ad 35), .ref (ad 36), .ref (ad 37), .int 0, .int 0, .int 60, .int 10]))] [.ref (ad 31)]) (Ri (fun r => r = 0)) 0 0 (fun _ => False) := by
  refine mr RX9 rfl (by decide +kernel) (Nat.le_of_ble_eq_true rfl) ?_
  intro p e s m below meth c hx hb hr hlocks av9 hav hts hown hml hK hP hS Q9 hQ9 ls hl
  have hl : lv_has ls 3 [(0, .ref (ad 31))] := hl
  refine lv_iconst (v := 0) hx hb dX9_allWhite_0 (by decide) ?_
  refine lv_istore_n (lv' := [(1, .int 0), (0, .ref (ad 31))]) hx hb dX9_allWhite_1 rfl hl (by decide) rfl (fun ls hl => ?_)
  refine lv_iconst (v := 0) hx hb dX9_allWhite_2 (by decide) ?_
  refine lv_istore_n (lv' := [(2, .int 0), (1, .int 0), (0, .ref (ad 31))]) hx hb dX9_allWhite_3 rfl hl (by decide) rfl (fun ls hl => ?_)
  refine lv_iload_n hx hb dX9_allWhite_4 rfl (lv_at hl 0 rfl) ?_
  refine lv_aload_n hx hb dX9_allWhite_5 rfl (lv_at hl 2 rfl) ?_
  refine gf_X9_12 hx hb hts hown hK hP 0 rfl rfl dX9_allWhite_6 ?_
  refine gf_X9_65 hx hb hts hown hK hP 1 rfl rfl dX9_allWhite_9 ?_
  refine lv_icmp_ge (tgt := 29) hx hb dX9_allWhite_12 (by decide) (fun _ => ?_) (fun c9 => absurd (by decide) c9)
  refine lv_iload_n hx hb dX9_allWhite_29 rfl (lv_at hl 1 rfl) ?_
  rw [hQ9]
  exact rr_i hx hb hr hlocks rfl hS dX9_allWhite_30
abbrev cX9_allDark : ByteArray := prog_11_method_11_code
def yX9_allDark : MethodName := ⟨RX9, "allDark", "()I"⟩
theorem t749 : Cond.code yX9_allDark cX9_allDark 3 (some .int) ∈ GW := gw_mem 863 (by decide +kernel) (by decide +kernel)
theorem dX9_allDark_0 : decode cX9_allDark 0 = .ok (.iconst 0, 1) := by decide +kernel
theorem dX9_allDark_1 : decode cX9_allDark 1 = .ok (.istore_n 1, 1) := by decide +kernel
theorem dX9_allDark_2 : decode cX9_allDark 2 = .ok (.iconst 0, 1) := by decide +kernel
theorem dX9_allDark_3 : decode cX9_allDark 3 = .ok (.istore_n 2, 1) := by decide +kernel
theorem dX9_allDark_4 : decode cX9_allDark 4 = .ok (.iload_n 2, 1) := by decide +kernel
theorem dX9_allDark_5 : decode cX9_allDark 5 = .ok (.aload_n 0, 1) := by decide +kernel
theorem dX9_allDark_6 : decode cX9_allDark 6 = .ok (.getfield 12, 3) := by decide +kernel
theorem dX9_allDark_9 : decode cX9_allDark 9 = .ok (.getfield 65, 3) := by decide +kernel
theorem dX9_allDark_12 : decode cX9_allDark 12 = .ok (.if_icmp .ge 17, 3) := by decide +kernel
theorem dX9_allDark_29 : decode cX9_allDark 29 = .ok (.iload_n 1, 1) := by decide +kernel
theorem dX9_allDark_30 : decode cX9_allDark 30 = .ok (.ireturn, 1) := by decide +kernel
set_option maxHeartbeats 4000000 in
set_option maxRecDepth 100000 in
theorem k_allDark (l : Launch) (dC : Nat → ClassId) (dI : Nat → Nat → Nat) (cy : Nat → ClassId) (ad : Nat → Nat)  : Met l yX9_allDark (wl yX9_allDark cX9_allDark 3 (some .int)) ({ frames := 1, cells := 0, slots := 0, locals := 64 }) (Pr (dC, dI) vwCl cy [(ad 31, .inr (10, [.ref (ad 32), .ref (ad 38), .ref (ad 49)])), (ad 32, .inr (2, [.ref (ad 33), .ref (ad 34), .ref (ad 35), .ref (ad 36), .ref (ad 37), .int 0, .int 0, .int 60, .int 10]))] [.ref (ad 31)]) (Ri (fun r => r = 0)) 0 0 (fun _ => False) := by
  refine mr RX9 rfl (by decide +kernel) (Nat.le_of_ble_eq_true rfl) ?_
  intro p e s m below meth c hx hb hr hlocks av9 hav hts hown hml hK hP hS Q9 hQ9 ls hl
  have hl : lv_has ls 3 [(0, .ref (ad 31))] := hl
  refine lv_iconst (v := 0) hx hb dX9_allDark_0 (by decide) ?_
  refine lv_istore_n (lv' := [(1, .int 0), (0, .ref (ad 31))]) hx hb dX9_allDark_1 rfl hl (by decide) rfl (fun ls hl => ?_)
  refine lv_iconst (v := 0) hx hb dX9_allDark_2 (by decide) ?_
  refine lv_istore_n (lv' := [(2, .int 0), (1, .int 0), (0, .ref (ad 31))]) hx hb dX9_allDark_3 rfl hl (by decide) rfl (fun ls hl => ?_)
  refine lv_iload_n hx hb dX9_allDark_4 rfl (lv_at hl 0 rfl) ?_
  refine lv_aload_n hx hb dX9_allDark_5 rfl (lv_at hl 2 rfl) ?_
  refine gf_X9_12 hx hb hts hown hK hP 0 rfl rfl dX9_allDark_6 ?_
  refine gf_X9_65 hx hb hts hown hK hP 1 rfl rfl dX9_allDark_9 ?_
  refine lv_icmp_ge (tgt := 29) hx hb dX9_allDark_12 (by decide) (fun _ => ?_) (fun c9 => absurd (by decide) c9)
  refine lv_iload_n hx hb dX9_allDark_29 rfl (lv_at hl 1 rfl) ?_
  rw [hQ9]
  exact rr_i hx hb hr hlocks rfl hS dX9_allDark_30
abbrev cX9_weightOfAll : ByteArray := prog_11_method_12_code
def yX9_weightOfAll : MethodName := ⟨RX9, "weightOfAll", "(I)I"⟩
theorem t869 : Cond.code yX9_weightOfAll cX9_weightOfAll 4 (some .int) ∈ GW := gw_mem 983 (by decide +kernel) (by decide +kernel)
theorem dX9_weightOfAll_0 : decode cX9_weightOfAll 0 = .ok (.iconst 0, 1) := by decide +kernel
theorem dX9_weightOfAll_1 : decode cX9_weightOfAll 1 = .ok (.istore_n 2, 1) := by decide +kernel
theorem dX9_weightOfAll_2 : decode cX9_weightOfAll 2 = .ok (.iconst 0, 1) := by decide +kernel
theorem dX9_weightOfAll_3 : decode cX9_weightOfAll 3 = .ok (.istore_n 3, 1) := by decide +kernel
theorem dX9_weightOfAll_4 : decode cX9_weightOfAll 4 = .ok (.iload_n 3, 1) := by decide +kernel
theorem dX9_weightOfAll_5 : decode cX9_weightOfAll 5 = .ok (.aload_n 0, 1) := by decide +kernel
theorem dX9_weightOfAll_6 : decode cX9_weightOfAll 6 = .ok (.getfield 12, 3) := by decide +kernel
theorem dX9_weightOfAll_9 : decode cX9_weightOfAll 9 = .ok (.getfield 65, 3) := by decide +kernel
theorem dX9_weightOfAll_12 : decode cX9_weightOfAll 12 = .ok (.if_icmp .ge 25, 3) := by decide +kernel
theorem dX9_weightOfAll_37 : decode cX9_weightOfAll 37 = .ok (.iload_n 2, 1) := by decide +kernel
theorem dX9_weightOfAll_38 : decode cX9_weightOfAll 38 = .ok (.ireturn, 1) := by decide +kernel
set_option maxHeartbeats 4000000 in
set_option maxRecDepth 100000 in
theorem k_weightOfAll (l : Launch) (dC : Nat → ClassId) (dI : Nat → Nat → Nat) (cy : Nat → ClassId) (ad : Nat → Nat) (n0 : Int32)  : Met l yX9_weightOfAll (wl yX9_weightOfAll cX9_weightOfAll 4 (some .int)) ({ frames := 1, cells := 0, slots := 0, locals := 64 }) (Pr (dC, dI) vwCl cy [(ad 31, .inr (10, [.ref (ad 32), .ref (ad 38), .ref (ad 49)])), (ad 32, .inr (2, [.ref (ad 33), .ref (ad 34), .ref (ad 35), .ref (ad 36), .ref (ad 37), .int 0, .int 0, .int 60, .int 10]))] [.ref (ad 31), .int n0]) (Ri (fun r => r = 0)) 0 0 (fun _ => False) := by
  refine mr RX9 rfl (by decide +kernel) (Nat.le_of_ble_eq_true rfl) ?_
  intro p e s m below meth c hx hb hr hlocks av9 hav hts hown hml hK hP hS Q9 hQ9 ls hl
  have hl : lv_has ls 4 [(0, .ref (ad 31)), (1, .int n0)] := hl
  refine lv_iconst (v := 0) hx hb dX9_weightOfAll_0 (by decide) ?_
  refine lv_istore_n (lv' := [(2, .int 0), (0, .ref (ad 31)), (1, .int n0)]) hx hb dX9_weightOfAll_1 rfl hl (by decide) rfl (fun ls hl => ?_)
  refine lv_iconst (v := 0) hx hb dX9_weightOfAll_2 (by decide) ?_
  refine lv_istore_n (lv' := [(3, .int 0), (2, .int 0), (0, .ref (ad 31)), (1, .int n0)]) hx hb dX9_weightOfAll_3 rfl hl (by decide) rfl (fun ls hl => ?_)
  refine lv_iload_n hx hb dX9_weightOfAll_4 rfl (lv_at hl 0 rfl) ?_
  refine lv_aload_n hx hb dX9_weightOfAll_5 rfl (lv_at hl 2 rfl) ?_
  refine gf_X9_12 hx hb hts hown hK hP 0 rfl rfl dX9_weightOfAll_6 ?_
  refine gf_X9_65 hx hb hts hown hK hP 1 rfl rfl dX9_weightOfAll_9 ?_
  refine lv_icmp_ge (tgt := 37) hx hb dX9_weightOfAll_12 (by decide) (fun _ => ?_) (fun c9 => absurd (by decide) c9)
  refine lv_iload_n hx hb dX9_weightOfAll_37 rfl (lv_at hl 1 rfl) ?_
  rw [hQ9]
  exact rr_i hx hb hr hlocks rfl hS dX9_weightOfAll_38
abbrev cX4_sittings : ByteArray := prog_6_method_6_code
def yX4_sittings : MethodName := ⟨RX4, "sittings", "()I"⟩
theorem t754 : Cond.code yX4_sittings cX4_sittings 3 (some .int) ∈ GW := gw_mem 868 (by decide +kernel) (by decide +kernel)
theorem dX4_sittings_0 : decode cX4_sittings 0 = .ok (.iconst 0, 1) := by decide +kernel
theorem dX4_sittings_1 : decode cX4_sittings 1 = .ok (.istore_n 1, 1) := by decide +kernel
theorem dX4_sittings_2 : decode cX4_sittings 2 = .ok (.iconst 0, 1) := by decide +kernel
theorem dX4_sittings_3 : decode cX4_sittings 3 = .ok (.istore_n 2, 1) := by decide +kernel
theorem dX4_sittings_4 : decode cX4_sittings 4 = .ok (.iload_n 2, 1) := by decide +kernel
theorem dX4_sittings_5 : decode cX4_sittings 5 = .ok (.bipush 7, 2) := by decide +kernel
theorem dX4_sittings_7 : decode cX4_sittings 7 = .ok (.if_icmp .ge 18, 3) := by decide +kernel
theorem dX4_sittings_10 : decode cX4_sittings 10 = .ok (.iload_n 1, 1) := by decide +kernel
theorem dX4_sittings_11 : decode cX4_sittings 11 = .ok (.aload_n 0, 1) := by decide +kernel
theorem dX4_sittings_12 : decode cX4_sittings 12 = .ok (.getfield 27, 3) := by decide +kernel
theorem t250 : Cond.fieldLink RX4 27 "LikenessPound$Life" "sat" "[I" ∈ GW := gw_mem 364 (by decide +kernel) (by decide +kernel)
theorem gf_X4_27 {p : Program} {l : Launch} {e : Env} {R : Room} {s : State} {m : MethodId} {args : Array Value} {below : List Frame} {meth : Method} {c : Code} {H : Heap} {locs : List Loc} {cells slots : Nat} {Q : State → Prop} {cc : ByteArray} {pc : Nat} {ls : Array Slot} {rest : List Value} {D : va_G} {a : Nat} {tys : List (ClassId × FieldType)} {ws : va_W} (hx : p.tables.exec = Jvm.exec) (hb : c.code = cc) (hts : ∀ w ∈ GW, w.before args s = true) (hown : s.vm.findClass RX4 = some m.cls) (hK : va_K D vwCl tys s) (hP : va_P D vwCl ws H) (q0 : Nat) {fs : List Value} (he : ws[q0]? = some (a, .inr (5, fs))) {v : Value} (hv : fs[5]? = some v) (hdg : decode cc pc = .ok (.getfield 27, 3)) (kk : W p l e R s m args below meth c H locs cells slots Q (F0 m (pc + 3) ls (v :: rest))) : W p l e R s m args below meth c H locs cells slots Q (F0 m pc ls (.ref a :: rest)) := va_get (C := RX4) (T := TX4) (N := 11) (ci := 5) hx hb hts inX4 hown hK hP q0 he rfl 5 (by decide) (hts _ t250) (fun _ h => h) hv hdg kk
theorem dX4_sittings_15 : decode cX4_sittings 15 = .ok (.iload_n 2, 1) := by decide +kernel
theorem dX4_sittings_16 : decode cX4_sittings 16 = .ok (.iaload, 1) := by decide +kernel
theorem dX4_sittings_17 : decode cX4_sittings 17 = .ok (.iadd, 1) := by decide +kernel
theorem dX4_sittings_18 : decode cX4_sittings 18 = .ok (.istore_n 1, 1) := by decide +kernel
theorem dX4_sittings_19 : decode cX4_sittings 19 = .ok (.iinc 2 1, 3) := by decide +kernel
theorem dX4_sittings_22 : decode cX4_sittings 22 = .ok (.goto (-18), 3) := by decide +kernel
theorem dX4_sittings_25 : decode cX4_sittings 25 = .ok (.iload_n 1, 1) := by decide +kernel
theorem dX4_sittings_26 : decode cX4_sittings 26 = .ok (.ireturn, 1) := by decide +kernel
set_option maxHeartbeats 4000000 in
set_option maxRecDepth 100000 in
theorem k_sittings (l : Launch) (dC : Nat → ClassId) (dI : Nat → Nat → Nat) (cy : Nat → ClassId) (ad : Nat → Nat) (ai : Nat → Nat → Int32) (hs : ∀ j : Nat, j < 7 → ai 44 j = 0) : Met l yX4_sittings (wl yX4_sittings cX4_sittings 3 (some .int)) ({ frames := 0, cells := 0, slots := 0, locals := 0 }) (Pr (dC, dI) vwCl cy [(ad 38, .inr (5, [.ref (ad 39), .ref (ad 40), .ref (ad 41), .ref (ad 42), .ref (ad 43), .ref (ad 44), .ref (ad 45), .ref (ad 46), .ref (ad 47), .ref (ad 48), .int 0])), (ad 44, .inl (cy 0, 7, .inl (ai 44)))] [.ref (ad 38)]) (Ri (fun r => r = 0)) 0 0 (fun _ => False) := by
  refine mr RX4 rfl (by decide +kernel) (Nat.le_of_ble_eq_true rfl) ?_
  intro p e s m below meth c hx hb hr hlocks av9 hav hts hown hml hK hP hS Q9 hQ9 ls hl
  have hl : lv_has ls 3 [(0, .ref (ad 38))] := hl
  refine lv_iconst (v := 0) hx hb dX4_sittings_0 (by decide) ?_
  refine lv_istore_n (lv' := [(1, .int 0), (0, .ref (ad 38))]) hx hb dX4_sittings_1 rfl hl (by decide) rfl (fun ls hl => ?_)
  refine lv_iconst (v := 0) hx hb dX4_sittings_2 (by decide) ?_
  refine lv_istore_n (lv' := [(2, .int 0), (1, .int 0), (0, .ref (ad 38))]) hx hb dX4_sittings_3 rfl hl (by decide) rfl (fun ls hl => ?_)
  refine lv_iload_n hx hb dX4_sittings_4 rfl (lv_at hl 0 rfl) ?_
  refine lv_bipush (v := 7) hx hb dX4_sittings_5 (by decide) ?_
  refine lv_icmp_ge (tgt := 25) hx hb dX4_sittings_7 (by decide) (fun c9 => absurd c9 (by decide)) (fun _ => ?_)
  refine lv_iload_n hx hb dX4_sittings_10 rfl (lv_at hl 1 rfl) ?_
  refine lv_aload_n hx hb dX4_sittings_11 rfl (lv_at hl 2 rfl) ?_
  refine gf_X4_27 hx hb hts hown hK hP 0 rfl rfl dX4_sittings_12 ?_
  refine lv_iload_n hx hb dX4_sittings_15 rfl (lv_at hl 0 rfl) ?_
  refine va_iald hx hb hK hP 1 0 rfl rfl (vp_in_nI (n := 0) (N := 7) (by decide) (by decide)) dX4_sittings_16 ?_
  refine as_i 0 ((congrArg (ai 44) (show (0 : Int32).toNatClampNeg = 0 from rfl)).trans (hs 0 (by decide))) ?_
  refine lv_iadd hx hb dX4_sittings_17 ?_
  refine as_i 0 (by decide) ?_
  refine lv_istore_n (lv' := [(1, .int 0), (2, .int 0), (0, .ref (ad 38))]) hx hb dX4_sittings_18 rfl hl (by decide) rfl (fun ls hl => ?_)
  refine lv_iinc (v := 1) (lv' := [(2, .int 1), (1, .int 0), (0, .ref (ad 38))]) hx hb dX4_sittings_19 hl (k := 1) rfl (by decide) (by decide) rfl (fun ls hl => ?_)
  refine lv_goto (tgt := 4) hx hb dX4_sittings_22 (by decide) ?_
  refine lv_iload_n hx hb dX4_sittings_4 rfl (lv_at hl 0 rfl) ?_
  refine lv_bipush (v := 7) hx hb dX4_sittings_5 (by decide) ?_
  refine lv_icmp_ge (tgt := 25) hx hb dX4_sittings_7 (by decide) (fun c9 => absurd c9 (by decide)) (fun _ => ?_)
  refine lv_iload_n hx hb dX4_sittings_10 rfl (lv_at hl 1 rfl) ?_
  refine lv_aload_n hx hb dX4_sittings_11 rfl (lv_at hl 2 rfl) ?_
  refine gf_X4_27 hx hb hts hown hK hP 0 rfl rfl dX4_sittings_12 ?_
  refine lv_iload_n hx hb dX4_sittings_15 rfl (lv_at hl 0 rfl) ?_
  refine va_iald hx hb hK hP 1 0 rfl rfl (vp_in_nI (n := 1) (N := 7) (by decide) (by decide)) dX4_sittings_16 ?_
  refine as_i 0 ((congrArg (ai 44) (show (1 : Int32).toNatClampNeg = 1 from rfl)).trans (hs 1 (by decide))) ?_
  refine lv_iadd hx hb dX4_sittings_17 ?_
  refine as_i 0 (by decide) ?_
  refine lv_istore_n (lv' := [(1, .int 0), (2, .int 1), (0, .ref (ad 38))]) hx hb dX4_sittings_18 rfl hl (by decide) rfl (fun ls hl => ?_)
  refine lv_iinc (v := 2) (lv' := [(2, .int 2), (1, .int 0), (0, .ref (ad 38))]) hx hb dX4_sittings_19 hl (k := 1) rfl (by decide) (by decide) rfl (fun ls hl => ?_)
  refine lv_goto (tgt := 4) hx hb dX4_sittings_22 (by decide) ?_
  refine lv_iload_n hx hb dX4_sittings_4 rfl (lv_at hl 0 rfl) ?_
  refine lv_bipush (v := 7) hx hb dX4_sittings_5 (by decide) ?_
  refine lv_icmp_ge (tgt := 25) hx hb dX4_sittings_7 (by decide) (fun c9 => absurd c9 (by decide)) (fun _ => ?_)
  refine lv_iload_n hx hb dX4_sittings_10 rfl (lv_at hl 1 rfl) ?_
  refine lv_aload_n hx hb dX4_sittings_11 rfl (lv_at hl 2 rfl) ?_
  refine gf_X4_27 hx hb hts hown hK hP 0 rfl rfl dX4_sittings_12 ?_
  refine lv_iload_n hx hb dX4_sittings_15 rfl (lv_at hl 0 rfl) ?_
  refine va_iald hx hb hK hP 1 0 rfl rfl (vp_in_nI (n := 2) (N := 7) (by decide) (by decide)) dX4_sittings_16 ?_
  refine as_i 0 ((congrArg (ai 44) (show (2 : Int32).toNatClampNeg = 2 from rfl)).trans (hs 2 (by decide))) ?_
  refine lv_iadd hx hb dX4_sittings_17 ?_
  refine as_i 0 (by decide) ?_
  refine lv_istore_n (lv' := [(1, .int 0), (2, .int 2), (0, .ref (ad 38))]) hx hb dX4_sittings_18 rfl hl (by decide) rfl (fun ls hl => ?_)
  refine lv_iinc (v := 3) (lv' := [(2, .int 3), (1, .int 0), (0, .ref (ad 38))]) hx hb dX4_sittings_19 hl (k := 1) rfl (by decide) (by decide) rfl (fun ls hl => ?_)
  refine lv_goto (tgt := 4) hx hb dX4_sittings_22 (by decide) ?_
  refine lv_iload_n hx hb dX4_sittings_4 rfl (lv_at hl 0 rfl) ?_
  refine lv_bipush (v := 7) hx hb dX4_sittings_5 (by decide) ?_
  refine lv_icmp_ge (tgt := 25) hx hb dX4_sittings_7 (by decide) (fun c9 => absurd c9 (by decide)) (fun _ => ?_)
  refine lv_iload_n hx hb dX4_sittings_10 rfl (lv_at hl 1 rfl) ?_
  refine lv_aload_n hx hb dX4_sittings_11 rfl (lv_at hl 2 rfl) ?_
  refine gf_X4_27 hx hb hts hown hK hP 0 rfl rfl dX4_sittings_12 ?_
  refine lv_iload_n hx hb dX4_sittings_15 rfl (lv_at hl 0 rfl) ?_
  refine va_iald hx hb hK hP 1 0 rfl rfl (vp_in_nI (n := 3) (N := 7) (by decide) (by decide)) dX4_sittings_16 ?_
  refine as_i 0 ((congrArg (ai 44) (show (3 : Int32).toNatClampNeg = 3 from rfl)).trans (hs 3 (by decide))) ?_
  refine lv_iadd hx hb dX4_sittings_17 ?_
  refine as_i 0 (by decide) ?_
  refine lv_istore_n (lv' := [(1, .int 0), (2, .int 3), (0, .ref (ad 38))]) hx hb dX4_sittings_18 rfl hl (by decide) rfl (fun ls hl => ?_)
  refine lv_iinc (v := 4) (lv' := [(2, .int 4), (1, .int 0), (0, .ref (ad 38))]) hx hb dX4_sittings_19 hl (k := 1) rfl (by decide) (by decide) rfl (fun ls hl => ?_)
  refine lv_goto (tgt := 4) hx hb dX4_sittings_22 (by decide) ?_
  refine lv_iload_n hx hb dX4_sittings_4 rfl (lv_at hl 0 rfl) ?_
  refine lv_bipush (v := 7) hx hb dX4_sittings_5 (by decide) ?_
  refine lv_icmp_ge (tgt := 25) hx hb dX4_sittings_7 (by decide) (fun c9 => absurd c9 (by decide)) (fun _ => ?_)
  refine lv_iload_n hx hb dX4_sittings_10 rfl (lv_at hl 1 rfl) ?_
  refine lv_aload_n hx hb dX4_sittings_11 rfl (lv_at hl 2 rfl) ?_
  refine gf_X4_27 hx hb hts hown hK hP 0 rfl rfl dX4_sittings_12 ?_
  refine lv_iload_n hx hb dX4_sittings_15 rfl (lv_at hl 0 rfl) ?_
  refine va_iald hx hb hK hP 1 0 rfl rfl (vp_in_nI (n := 4) (N := 7) (by decide) (by decide)) dX4_sittings_16 ?_
  refine as_i 0 ((congrArg (ai 44) (show (4 : Int32).toNatClampNeg = 4 from rfl)).trans (hs 4 (by decide))) ?_
  refine lv_iadd hx hb dX4_sittings_17 ?_
  refine as_i 0 (by decide) ?_
  refine lv_istore_n (lv' := [(1, .int 0), (2, .int 4), (0, .ref (ad 38))]) hx hb dX4_sittings_18 rfl hl (by decide) rfl (fun ls hl => ?_)
  refine lv_iinc (v := 5) (lv' := [(2, .int 5), (1, .int 0), (0, .ref (ad 38))]) hx hb dX4_sittings_19 hl (k := 1) rfl (by decide) (by decide) rfl (fun ls hl => ?_)
  refine lv_goto (tgt := 4) hx hb dX4_sittings_22 (by decide) ?_
  refine lv_iload_n hx hb dX4_sittings_4 rfl (lv_at hl 0 rfl) ?_
  refine lv_bipush (v := 7) hx hb dX4_sittings_5 (by decide) ?_
  refine lv_icmp_ge (tgt := 25) hx hb dX4_sittings_7 (by decide) (fun c9 => absurd c9 (by decide)) (fun _ => ?_)
  refine lv_iload_n hx hb dX4_sittings_10 rfl (lv_at hl 1 rfl) ?_
  refine lv_aload_n hx hb dX4_sittings_11 rfl (lv_at hl 2 rfl) ?_
  refine gf_X4_27 hx hb hts hown hK hP 0 rfl rfl dX4_sittings_12 ?_
  refine lv_iload_n hx hb dX4_sittings_15 rfl (lv_at hl 0 rfl) ?_
  refine va_iald hx hb hK hP 1 0 rfl rfl (vp_in_nI (n := 5) (N := 7) (by decide) (by decide)) dX4_sittings_16 ?_
  refine as_i 0 ((congrArg (ai 44) (show (5 : Int32).toNatClampNeg = 5 from rfl)).trans (hs 5 (by decide))) ?_
  refine lv_iadd hx hb dX4_sittings_17 ?_
  refine as_i 0 (by decide) ?_
  refine lv_istore_n (lv' := [(1, .int 0), (2, .int 5), (0, .ref (ad 38))]) hx hb dX4_sittings_18 rfl hl (by decide) rfl (fun ls hl => ?_)
  refine lv_iinc (v := 6) (lv' := [(2, .int 6), (1, .int 0), (0, .ref (ad 38))]) hx hb dX4_sittings_19 hl (k := 1) rfl (by decide) (by decide) rfl (fun ls hl => ?_)
  refine lv_goto (tgt := 4) hx hb dX4_sittings_22 (by decide) ?_
  refine lv_iload_n hx hb dX4_sittings_4 rfl (lv_at hl 0 rfl) ?_
  refine lv_bipush (v := 7) hx hb dX4_sittings_5 (by decide) ?_
  refine lv_icmp_ge (tgt := 25) hx hb dX4_sittings_7 (by decide) (fun c9 => absurd c9 (by decide)) (fun _ => ?_)
  refine lv_iload_n hx hb dX4_sittings_10 rfl (lv_at hl 1 rfl) ?_
  refine lv_aload_n hx hb dX4_sittings_11 rfl (lv_at hl 2 rfl) ?_
  refine gf_X4_27 hx hb hts hown hK hP 0 rfl rfl dX4_sittings_12 ?_
  refine lv_iload_n hx hb dX4_sittings_15 rfl (lv_at hl 0 rfl) ?_
  refine va_iald hx hb hK hP 1 0 rfl rfl (vp_in_nI (n := 6) (N := 7) (by decide) (by decide)) dX4_sittings_16 ?_
  refine as_i 0 ((congrArg (ai 44) (show (6 : Int32).toNatClampNeg = 6 from rfl)).trans (hs 6 (by decide))) ?_
  refine lv_iadd hx hb dX4_sittings_17 ?_
  refine as_i 0 (by decide) ?_
  refine lv_istore_n (lv' := [(1, .int 0), (2, .int 6), (0, .ref (ad 38))]) hx hb dX4_sittings_18 rfl hl (by decide) rfl (fun ls hl => ?_)
  refine lv_iinc (v := 7) (lv' := [(2, .int 7), (1, .int 0), (0, .ref (ad 38))]) hx hb dX4_sittings_19 hl (k := 1) rfl (by decide) (by decide) rfl (fun ls hl => ?_)
  refine lv_goto (tgt := 4) hx hb dX4_sittings_22 (by decide) ?_
  refine lv_iload_n hx hb dX4_sittings_4 rfl (lv_at hl 0 rfl) ?_
  refine lv_bipush (v := 7) hx hb dX4_sittings_5 (by decide) ?_
  refine lv_icmp_ge (tgt := 25) hx hb dX4_sittings_7 (by decide) (fun _ => ?_) (fun c9 => absurd (by decide) c9)
  refine lv_iload_n hx hb dX4_sittings_25 rfl (lv_at hl 1 rfl) ?_
  rw [hQ9]
  exact rr_i hx hb hr hlocks rfl hS dX4_sittings_26
abbrev cX10_now : ByteArray := prog_1_method_13_code
def yX10_now : MethodName := ⟨RX10, "now", "(I)I"⟩
theorem t724 : Cond.code yX10_now cX10_now 2 (some .int) ∈ GW := gw_mem 838 (by decide +kernel) (by decide +kernel)
theorem dX10_now_0 : decode cX10_now 0 = .ok (.iload_n 1, 1) := by decide +kernel
theorem dX10_now_1 : decode cX10_now 1 = .ok (.tableswitch 120 0 7 #[47, 58, 67, 76, 85, 93, 101, 109], 47) := by decide +kernel
theorem dX10_now_121 : decode cX10_now 121 = .ok (.iconst (-1), 1) := by decide +kernel
theorem dX10_now_122 : decode cX10_now 122 = .ok (.ireturn, 1) := by decide +kernel
theorem sw_cases_0_7 (x : Int32) (h : ¬ (x.toInt < 0 ∨ 7 < x.toInt)) : x = 0 ∨ x = 1 ∨ x = 2 ∨ x = 3 ∨ x = 4 ∨ x = 5 ∨ x = 6 ∨ x = 7 := by
  have h1 : ∀ k : Int32, x = k ↔ x.toInt = k.toInt := fun k => ⟨fun e => by rw [e], fun e => Int32.toInt_inj.mp e⟩
  simp only [h1]
  simp only [show (0 : Int32).toInt = 0 from by decide, show (1 : Int32).toInt = 1 from by decide, show (2 : Int32).toInt = 2 from by decide, show (3 : Int32).toInt = 3 from by decide, show (4 : Int32).toInt = 4 from by decide, show (5 : Int32).toInt = 5 from by decide, show (6 : Int32).toInt = 6 from by decide, show (7 : Int32).toInt = 7 from by decide]
  omega
theorem dX10_now_48 : decode cX10_now 48 = .ok (.aload_n 0, 1) := by decide +kernel
theorem dX10_now_49 : decode cX10_now 49 = .ok (.getfield 76, 3) := by decide +kernel
theorem dX10_now_52 : decode cX10_now 52 = .ok (.getfield 98, 3) := by decide +kernel
theorem dX10_now_55 : decode cX10_now 55 = .ok (.getfield 200, 3) := by decide +kernel
theorem t268 : Cond.fieldLink RX10 200 "LikenessPound$Life" "year" "I" ∈ GW := gw_mem 382 (by decide +kernel) (by decide +kernel)
theorem gf_X10_200 {p : Program} {l : Launch} {e : Env} {R : Room} {s : State} {m : MethodId} {args : Array Value} {below : List Frame} {meth : Method} {c : Code} {H : Heap} {locs : List Loc} {cells slots : Nat} {Q : State → Prop} {cc : ByteArray} {pc : Nat} {ls : Array Slot} {rest : List Value} {D : va_G} {a : Nat} {tys : List (ClassId × FieldType)} {ws : va_W} (hx : p.tables.exec = Jvm.exec) (hb : c.code = cc) (hts : ∀ w ∈ GW, w.before args s = true) (hown : s.vm.findClass RX10 = some m.cls) (hK : va_K D vwCl tys s) (hP : va_P D vwCl ws H) (q0 : Nat) {fs : List Value} (he : ws[q0]? = some (a, .inr (5, fs))) {v : Value} (hv : fs[10]? = some v) (hdg : decode cc pc = .ok (.getfield 200, 3)) (kk : W p l e R s m args below meth c H locs cells slots Q (F0 m (pc + 3) ls (v :: rest))) : W p l e R s m args below meth c H locs cells slots Q (F0 m pc ls (.ref a :: rest)) := va_get (C := RX4) (T := TX4) (N := 11) (ci := 5) hx hb hts inX4 hown hK hP q0 he rfl 10 (by decide) (hts _ t268) (fun _ h => h) hv hdg kk
theorem dX10_now_58 : decode cX10_now 58 = .ok (.ireturn, 1) := by decide +kernel
theorem dX10_now_59 : decode cX10_now 59 = .ok (.aload_n 0, 1) := by decide +kernel
theorem dX10_now_60 : decode cX10_now 60 = .ok (.getfield 76, 3) := by decide +kernel
theorem dX10_now_63 : decode cX10_now 63 = .ok (.iconst 0, 1) := by decide +kernel
theorem dX10_now_64 : decode cX10_now 64 = .ok (.invokevirtual 203, 3) := by decide +kernel
theorem t725 : Cond.methodLink RX10 203 yX9_whoIs ∈ GW := gw_mem 839 (by decide +kernel) (by decide +kernel)
theorem t15 : Cond.initialized RX9 ∈ GW := gw_mem 129 (by decide +kernel) (by decide +kernel)
theorem t726 : Cond.instanceMethod yX9_whoIs ∈ GW := gw_mem 840 (by decide +kernel) (by decide +kernel)
theorem t727 : Cond.selects RX9 yX9_whoIs yX9_whoIs ∈ GW := gw_mem 841 (by decide +kernel) (by decide +kernel)
theorem cw_X10_203 {R : Room} {s : State} {args : Array Value} {rm : Room} {mc ms : Nat} (hts : ∀ w ∈ GW, w.before args s = true) (hrc : rm.cells = mc) (hrs : rm.slots = ms) (hR : rm.frames + 1 ≤ R.frames ∧ 8 + (4 + 11) + rm.locals ≤ R.locals) : CallW R s args RX10 RX9 203 yX9_whoIs cX9_whoIs 4 (some .int) (wl yX9_whoIs cX9_whoIs 4 (some .int)) rm mc ms 1 := cwV 1 hts (gi_V t725 t726 t727 t15 t728) rfl hrc hrs (by decide +kernel) hR
theorem dX10_now_67 : decode cX10_now 67 = .ok (.ireturn, 1) := by decide +kernel
theorem dX10_now_68 : decode cX10_now 68 = .ok (.aload_n 0, 1) := by decide +kernel
theorem dX10_now_69 : decode cX10_now 69 = .ok (.getfield 76, 3) := by decide +kernel
theorem dX10_now_72 : decode cX10_now 72 = .ok (.iconst 1, 1) := by decide +kernel
theorem dX10_now_73 : decode cX10_now 73 = .ok (.invokevirtual 203, 3) := by decide +kernel
theorem dX10_now_76 : decode cX10_now 76 = .ok (.ireturn, 1) := by decide +kernel
theorem dX10_now_77 : decode cX10_now 77 = .ok (.aload_n 0, 1) := by decide +kernel
theorem dX10_now_78 : decode cX10_now 78 = .ok (.getfield 76, 3) := by decide +kernel
theorem dX10_now_81 : decode cX10_now 81 = .ok (.iconst 2, 1) := by decide +kernel
theorem dX10_now_82 : decode cX10_now 82 = .ok (.invokevirtual 203, 3) := by decide +kernel
theorem dX10_now_85 : decode cX10_now 85 = .ok (.ireturn, 1) := by decide +kernel
theorem dX10_now_86 : decode cX10_now 86 = .ok (.aload_n 0, 1) := by decide +kernel
theorem dX10_now_87 : decode cX10_now 87 = .ok (.getfield 76, 3) := by decide +kernel
theorem dX10_now_90 : decode cX10_now 90 = .ok (.invokevirtual 206, 3) := by decide +kernel
theorem t737 : Cond.methodLink RX10 206 yX9_whoLends ∈ GW := gw_mem 851 (by decide +kernel) (by decide +kernel)
theorem t738 : Cond.instanceMethod yX9_whoLends ∈ GW := gw_mem 852 (by decide +kernel) (by decide +kernel)
theorem t739 : Cond.selects RX9 yX9_whoLends yX9_whoLends ∈ GW := gw_mem 853 (by decide +kernel) (by decide +kernel)
theorem cw_X10_206 {R : Room} {s : State} {args : Array Value} {rm : Room} {mc ms : Nat} (hts : ∀ w ∈ GW, w.before args s = true) (hrc : rm.cells = mc) (hrs : rm.slots = ms) (hR : rm.frames + 1 ≤ R.frames ∧ 8 + (3 + 11) + rm.locals ≤ R.locals) : CallW R s args RX10 RX9 206 yX9_whoLends cX9_whoLends 3 (some .int) (wl yX9_whoLends cX9_whoLends 3 (some .int)) rm mc ms 0 := cwV 0 hts (gi_V t737 t738 t739 t15 t740) rfl hrc hrs (by decide +kernel) hR
theorem dX10_now_93 : decode cX10_now 93 = .ok (.ireturn, 1) := by decide +kernel
theorem dX10_now_94 : decode cX10_now 94 = .ok (.aload_n 0, 1) := by decide +kernel
theorem dX10_now_95 : decode cX10_now 95 = .ok (.getfield 76, 3) := by decide +kernel
theorem dX10_now_98 : decode cX10_now 98 = .ok (.invokevirtual 210, 3) := by decide +kernel
theorem t741 : Cond.methodLink RX10 210 yX9_allWhite ∈ GW := gw_mem 855 (by decide +kernel) (by decide +kernel)
theorem t742 : Cond.instanceMethod yX9_allWhite ∈ GW := gw_mem 856 (by decide +kernel) (by decide +kernel)
theorem t743 : Cond.selects RX9 yX9_allWhite yX9_allWhite ∈ GW := gw_mem 857 (by decide +kernel) (by decide +kernel)
theorem cw_X10_210 {R : Room} {s : State} {args : Array Value} {rm : Room} {mc ms : Nat} (hts : ∀ w ∈ GW, w.before args s = true) (hrc : rm.cells = mc) (hrs : rm.slots = ms) (hR : rm.frames + 1 ≤ R.frames ∧ 8 + (3 + 11) + rm.locals ≤ R.locals) : CallW R s args RX10 RX9 210 yX9_allWhite cX9_allWhite 3 (some .int) (wl yX9_allWhite cX9_allWhite 3 (some .int)) rm mc ms 0 := cwV 0 hts (gi_V t741 t742 t743 t15 t744) rfl hrc hrs (by decide +kernel) hR
theorem dX10_now_101 : decode cX10_now 101 = .ok (.ireturn, 1) := by decide +kernel
theorem dX10_now_102 : decode cX10_now 102 = .ok (.aload_n 0, 1) := by decide +kernel
theorem dX10_now_103 : decode cX10_now 103 = .ok (.getfield 76, 3) := by decide +kernel
theorem dX10_now_106 : decode cX10_now 106 = .ok (.invokevirtual 213, 3) := by decide +kernel
theorem t746 : Cond.methodLink RX10 213 yX9_allDark ∈ GW := gw_mem 860 (by decide +kernel) (by decide +kernel)
theorem t747 : Cond.instanceMethod yX9_allDark ∈ GW := gw_mem 861 (by decide +kernel) (by decide +kernel)
theorem t748 : Cond.selects RX9 yX9_allDark yX9_allDark ∈ GW := gw_mem 862 (by decide +kernel) (by decide +kernel)
theorem cw_X10_213 {R : Room} {s : State} {args : Array Value} {rm : Room} {mc ms : Nat} (hts : ∀ w ∈ GW, w.before args s = true) (hrc : rm.cells = mc) (hrs : rm.slots = ms) (hR : rm.frames + 1 ≤ R.frames ∧ 8 + (3 + 11) + rm.locals ≤ R.locals) : CallW R s args RX10 RX9 213 yX9_allDark cX9_allDark 3 (some .int) (wl yX9_allDark cX9_allDark 3 (some .int)) rm mc ms 0 := cwV 0 hts (gi_V t746 t747 t748 t15 t749) rfl hrc hrs (by decide +kernel) hR
theorem dX10_now_109 : decode cX10_now 109 = .ok (.ireturn, 1) := by decide +kernel
theorem dX10_now_110 : decode cX10_now 110 = .ok (.aload_n 0, 1) := by decide +kernel
theorem dX10_now_111 : decode cX10_now 111 = .ok (.getfield 76, 3) := by decide +kernel
theorem dX10_now_114 : decode cX10_now 114 = .ok (.getfield 98, 3) := by decide +kernel
theorem dX10_now_117 : decode cX10_now 117 = .ok (.invokevirtual 216, 3) := by decide +kernel
theorem t751 : Cond.methodLink RX10 216 yX4_sittings ∈ GW := gw_mem 865 (by decide +kernel) (by decide +kernel)
theorem t10 : Cond.initialized RX4 ∈ GW := gw_mem 124 (by decide +kernel) (by decide +kernel)
theorem t752 : Cond.instanceMethod yX4_sittings ∈ GW := gw_mem 866 (by decide +kernel) (by decide +kernel)
theorem t753 : Cond.selects RX4 yX4_sittings yX4_sittings ∈ GW := gw_mem 867 (by decide +kernel) (by decide +kernel)
theorem cw_X10_216 {R : Room} {s : State} {args : Array Value} {rm : Room} {mc ms : Nat} (hts : ∀ w ∈ GW, w.before args s = true) (hrc : rm.cells = mc) (hrs : rm.slots = ms) (hR : rm.frames + 1 ≤ R.frames ∧ 8 + (3 + 11) + rm.locals ≤ R.locals) : CallW R s args RX10 RX4 216 yX4_sittings cX4_sittings 3 (some .int) (wl yX4_sittings cX4_sittings 3 (some .int)) rm mc ms 0 := cwV 0 hts (gi_V t751 t752 t753 t10 t754) rfl hrc hrs (by decide +kernel) hR
theorem dX10_now_120 : decode cX10_now 120 = .ok (.ireturn, 1) := by decide +kernel
set_option maxHeartbeats 4000000 in
set_option maxRecDepth 100000 in
theorem k_now (l : Launch) (dC : Nat → ClassId) (dI : Nat → Nat → Nat) (cy : Nat → ClassId) (ad : Nat → Nat) (ai : Nat → Nat → Int32) (n0 : Int32) (hs : ∀ j : Nat, j < 7 → ai 44 j = 0) : Met l yX10_now (wl yX10_now cX10_now 2 (some .int)) ({ frames := 2, cells := 0, slots := 0, locals := 128 }) (Pr (dC, dI) vwCl cy [(ad 0, .inr (11, [.ref (ad 1), .ref (ad 4), .ref (ad 5), .ref (ad 10), .ref (ad 23), .ref (ad 24), .ref (ad 25), .ref (ad 27), .ref (ad 28), .ref (ad 29), .ref (ad 30), .ref (ad 31), .ref (ad 54), .int 0, .int (-1), .int 0, .int 0])), (ad 31, .inr (10, [.ref (ad 32), .ref (ad 38), .ref (ad 49)])), (ad 32, .inr (2, [.ref (ad 33), .ref (ad 34), .ref (ad 35), .ref (ad 36), .ref (ad 37), .int 0, .int 0, .int 60, .int 10])), (ad 38, .inr (5, [.ref (ad 39), .ref (ad 40), .ref (ad 41), .ref (ad 42), .ref (ad 43), .ref (ad 44), .ref (ad 45), .ref (ad 46), .ref (ad 47), .ref (ad 48), .int 0])), (ad 44, .inl (cy 0, 7, .inl (ai 44)))] [.ref (ad 0), .int n0]) (Ri (fun r => r = nowF n0)) 0 0 (fun _ => False) := by
  refine mr RX10 rfl (by decide +kernel) (Nat.le_of_ble_eq_true rfl) ?_
  intro p e s m below meth c hx hb hr hlocks av9 hav hts hown hml hK hP hS Q9 hQ9 ls hl
  have hl : lv_has ls 2 [(0, .ref (ad 0)), (1, .int n0)] := hl
  refine lv_iload_n hx hb dX10_now_0 rfl (lv_at hl 1 rfl) ?_
  by_cases sw_1 : n0.toInt < 0 ∨ 7 < n0.toInt
  · refine lv_tableOut (tgt := 121) hx hb dX10_now_1 sw_1 (by decide) ?_
    refine lv_iconst (v := (-1)) hx hb dX10_now_121 (by decide) ?_
    rw [hQ9]
    exact rr_i hx hb hr hlocks (show _ = nowF n0 from (if_pos sw_1).symm) hS dX10_now_122
  · have sw_1a : n0 = 0 ∨ n0 = 1 ∨ n0 = 2 ∨ n0 = 3 ∨ n0 = 4 ∨ n0 = 5 ∨ n0 = 6 ∨ n0 = 7 := sw_cases_0_7 n0 sw_1
    rcases sw_1a with sw_1b | sw_1b | sw_1b | sw_1b | sw_1b | sw_1b | sw_1b | sw_1b
    · refine as_i 0 sw_1b ?_
      refine lv_tableIn (off := 47) (tgt := 48) hx hb dX10_now_1 (by decide) (by decide) (by decide) (by decide) ?_
      refine lv_aload_n hx hb dX10_now_48 rfl (lv_at hl 0 rfl) ?_
      refine gf_X10_76 hx hb hts hown hK hP 0 rfl rfl dX10_now_49 ?_
      refine gf_X10_98 hx hb hts hown hK hP 1 rfl rfl dX10_now_52 ?_
      refine gf_X10_200 hx hb hts hown hK hP 3 rfl rfl dX10_now_55 ?_
      rw [hQ9]
      exact rr_i hx hb hr hlocks (show _ = nowF n0 from (if_neg sw_1).symm) hS dX10_now_58
    · refine as_i 1 sw_1b ?_
      refine lv_tableIn (off := 58) (tgt := 59) hx hb dX10_now_1 (by decide) (by decide) (by decide) (by decide) ?_
      refine lv_aload_n hx hb dX10_now_59 rfl (lv_at hl 0 rfl) ?_
      refine gf_X10_76 hx hb hts hown hK hP 0 rfl rfl dX10_now_60 ?_
      refine lv_iconst (v := 0) hx hb dX10_now_63 (by decide) ?_
      refine jr_i (rVr (As := [.int 0]) (rest := []) (ci := 10) ⟨hx, hb, hml, hown, hts⟩ (k_whoIs l dC dI cy ad 0 ) (cw_X10_203 hts rfl rfl ⟨Nat.le_of_ble_eq_true rfl, Nat.le_of_ble_eq_true rfl⟩) hP hK [1, 2] rfl rfl rfl rfl hl.1 rfl (Nat.le_of_ble_eq_true rfl) dX10_now_64 ⟨Nat.le_of_ble_eq_true rfl, Nat.le_of_ble_eq_true rfl⟩) hP hS (fun r_2 H locs hp_3 hP hS => ?_)
      refine as_i 0 hp_3 ?_
      rw [hQ9]
      exact rr_i hx hb hr hlocks (show _ = nowF n0 from (if_neg sw_1).symm) hS dX10_now_67
    · refine as_i 2 sw_1b ?_
      refine lv_tableIn (off := 67) (tgt := 68) hx hb dX10_now_1 (by decide) (by decide) (by decide) (by decide) ?_
      refine lv_aload_n hx hb dX10_now_68 rfl (lv_at hl 0 rfl) ?_
      refine gf_X10_76 hx hb hts hown hK hP 0 rfl rfl dX10_now_69 ?_
      refine lv_iconst (v := 1) hx hb dX10_now_72 (by decide) ?_
      refine jr_i (rVr (As := [.int 1]) (rest := []) (ci := 10) ⟨hx, hb, hml, hown, hts⟩ (k_whoIs l dC dI cy ad 1 ) (cw_X10_203 hts rfl rfl ⟨Nat.le_of_ble_eq_true rfl, Nat.le_of_ble_eq_true rfl⟩) hP hK [1, 2] rfl rfl rfl rfl hl.1 rfl (Nat.le_of_ble_eq_true rfl) dX10_now_73 ⟨Nat.le_of_ble_eq_true rfl, Nat.le_of_ble_eq_true rfl⟩) hP hS (fun r_4 H locs hp_5 hP hS => ?_)
      refine as_i 0 hp_5 ?_
      rw [hQ9]
      exact rr_i hx hb hr hlocks (show _ = nowF n0 from (if_neg sw_1).symm) hS dX10_now_76
    · refine as_i 3 sw_1b ?_
      refine lv_tableIn (off := 76) (tgt := 77) hx hb dX10_now_1 (by decide) (by decide) (by decide) (by decide) ?_
      refine lv_aload_n hx hb dX10_now_77 rfl (lv_at hl 0 rfl) ?_
      refine gf_X10_76 hx hb hts hown hK hP 0 rfl rfl dX10_now_78 ?_
      refine lv_iconst (v := 2) hx hb dX10_now_81 (by decide) ?_
      refine jr_i (rVr (As := [.int 2]) (rest := []) (ci := 10) ⟨hx, hb, hml, hown, hts⟩ (k_whoIs l dC dI cy ad 2 ) (cw_X10_203 hts rfl rfl ⟨Nat.le_of_ble_eq_true rfl, Nat.le_of_ble_eq_true rfl⟩) hP hK [1, 2] rfl rfl rfl rfl hl.1 rfl (Nat.le_of_ble_eq_true rfl) dX10_now_82 ⟨Nat.le_of_ble_eq_true rfl, Nat.le_of_ble_eq_true rfl⟩) hP hS (fun r_6 H locs hp_7 hP hS => ?_)
      refine as_i 0 hp_7 ?_
      rw [hQ9]
      exact rr_i hx hb hr hlocks (show _ = nowF n0 from (if_neg sw_1).symm) hS dX10_now_85
    · refine as_i 4 sw_1b ?_
      refine lv_tableIn (off := 85) (tgt := 86) hx hb dX10_now_1 (by decide) (by decide) (by decide) (by decide) ?_
      refine lv_aload_n hx hb dX10_now_86 rfl (lv_at hl 0 rfl) ?_
      refine gf_X10_76 hx hb hts hown hK hP 0 rfl rfl dX10_now_87 ?_
      refine jr_i (rVr (As := []) (rest := []) (ci := 10) ⟨hx, hb, hml, hown, hts⟩ (k_whoLends l dC dI cy ad ) (cw_X10_206 hts rfl rfl ⟨Nat.le_of_ble_eq_true rfl, Nat.le_of_ble_eq_true rfl⟩) hP hK [1, 2] rfl rfl rfl rfl hl.1 rfl (Nat.le_of_ble_eq_true rfl) dX10_now_90 ⟨Nat.le_of_ble_eq_true rfl, Nat.le_of_ble_eq_true rfl⟩) hP hS (fun r_8 H locs hp_9 hP hS => ?_)
      refine as_i 0 hp_9 ?_
      rw [hQ9]
      exact rr_i hx hb hr hlocks (show _ = nowF n0 from (if_neg sw_1).symm) hS dX10_now_93
    · refine as_i 5 sw_1b ?_
      refine lv_tableIn (off := 93) (tgt := 94) hx hb dX10_now_1 (by decide) (by decide) (by decide) (by decide) ?_
      refine lv_aload_n hx hb dX10_now_94 rfl (lv_at hl 0 rfl) ?_
      refine gf_X10_76 hx hb hts hown hK hP 0 rfl rfl dX10_now_95 ?_
      refine jr_i (rVr (As := []) (rest := []) (ci := 10) ⟨hx, hb, hml, hown, hts⟩ (k_allWhite l dC dI cy ad ) (cw_X10_210 hts rfl rfl ⟨Nat.le_of_ble_eq_true rfl, Nat.le_of_ble_eq_true rfl⟩) hP hK [1, 2] rfl rfl rfl rfl hl.1 rfl (Nat.le_of_ble_eq_true rfl) dX10_now_98 ⟨Nat.le_of_ble_eq_true rfl, Nat.le_of_ble_eq_true rfl⟩) hP hS (fun r_10 H locs hp_11 hP hS => ?_)
      refine as_i 0 hp_11 ?_
      rw [hQ9]
      exact rr_i hx hb hr hlocks (show _ = nowF n0 from (if_neg sw_1).symm) hS dX10_now_101
    · refine as_i 6 sw_1b ?_
      refine lv_tableIn (off := 101) (tgt := 102) hx hb dX10_now_1 (by decide) (by decide) (by decide) (by decide) ?_
      refine lv_aload_n hx hb dX10_now_102 rfl (lv_at hl 0 rfl) ?_
      refine gf_X10_76 hx hb hts hown hK hP 0 rfl rfl dX10_now_103 ?_
      refine jr_i (rVr (As := []) (rest := []) (ci := 10) ⟨hx, hb, hml, hown, hts⟩ (k_allDark l dC dI cy ad ) (cw_X10_213 hts rfl rfl ⟨Nat.le_of_ble_eq_true rfl, Nat.le_of_ble_eq_true rfl⟩) hP hK [1, 2] rfl rfl rfl rfl hl.1 rfl (Nat.le_of_ble_eq_true rfl) dX10_now_106 ⟨Nat.le_of_ble_eq_true rfl, Nat.le_of_ble_eq_true rfl⟩) hP hS (fun r_12 H locs hp_13 hP hS => ?_)
      refine as_i 0 hp_13 ?_
      rw [hQ9]
      exact rr_i hx hb hr hlocks (show _ = nowF n0 from (if_neg sw_1).symm) hS dX10_now_109
    · refine as_i 7 sw_1b ?_
      refine lv_tableIn (off := 109) (tgt := 110) hx hb dX10_now_1 (by decide) (by decide) (by decide) (by decide) ?_
      refine lv_aload_n hx hb dX10_now_110 rfl (lv_at hl 0 rfl) ?_
      refine gf_X10_76 hx hb hts hown hK hP 0 rfl rfl dX10_now_111 ?_
      refine gf_X10_98 hx hb hts hown hK hP 1 rfl rfl dX10_now_114 ?_
      refine jr_i (rVr (As := []) (rest := []) (ci := 5) ⟨hx, hb, hml, hown, hts⟩ (k_sittings l dC dI cy ad ai hs) (cw_X10_216 hts rfl rfl ⟨Nat.le_of_ble_eq_true rfl, Nat.le_of_ble_eq_true rfl⟩) hP hK [3, 4] rfl rfl rfl rfl hl.1 rfl (Nat.le_of_ble_eq_true rfl) dX10_now_117 ⟨Nat.le_of_ble_eq_true rfl, Nat.le_of_ble_eq_true rfl⟩) hP hS (fun r_14 H locs hp_15 hP hS => ?_)
      refine as_i 0 hp_15 ?_
      rw [hQ9]
      exact rr_i hx hb hr hlocks (show _ = nowF n0 from (if_neg sw_1).symm) hS dX10_now_120
abbrev cX1_allMen : ByteArray := prog_3_method_4_code
def yX1_allMen : MethodName := ⟨RX1, "allMen", "()I"⟩
theorem t865 : Cond.code yX1_allMen cX1_allMen 1 (some .int) ∈ GW := gw_mem 979 (by decide +kernel) (by decide +kernel)
theorem dX1_allMen_0 : decode cX1_allMen 0 = .ok (.iconst 1, 1) := by decide +kernel
theorem dX1_allMen_1 : decode cX1_allMen 1 = .ok (.aload_n 0, 1) := by decide +kernel
theorem dX1_allMen_2 : decode cX1_allMen 2 = .ok (.getfield 36, 3) := by decide +kernel
theorem t390 : Cond.fieldLink RX1 36 "LikenessPound$Colony" "men" "I" ∈ GW := gw_mem 504 (by decide +kernel) (by decide +kernel)
theorem gf_X1_36 {p : Program} {l : Launch} {e : Env} {R : Room} {s : State} {m : MethodId} {args : Array Value} {below : List Frame} {meth : Method} {c : Code} {H : Heap} {locs : List Loc} {cells slots : Nat} {Q : State → Prop} {cc : ByteArray} {pc : Nat} {ls : Array Slot} {rest : List Value} {D : va_G} {a : Nat} {tys : List (ClassId × FieldType)} {ws : va_W} (hx : p.tables.exec = Jvm.exec) (hb : c.code = cc) (hts : ∀ w ∈ GW, w.before args s = true) (hown : s.vm.findClass RX1 = some m.cls) (hK : va_K D vwCl tys s) (hP : va_P D vwCl ws H) (q0 : Nat) {fs : List Value} (he : ws[q0]? = some (a, .inr (2, fs))) {v : Value} (hv : fs[5]? = some v) (hdg : decode cc pc = .ok (.getfield 36, 3)) (kk : W p l e R s m args below meth c H locs cells slots Q (F0 m (pc + 3) ls (v :: rest))) : W p l e R s m args below meth c H locs cells slots Q (F0 m pc ls (.ref a :: rest)) := va_get (C := RX1) (T := TX1) (N := 9) (ci := 2) hx hb hts inX1 hown hK hP q0 he rfl 5 (by decide) (hts _ t390) (fun _ h => h) hv hdg kk
theorem dX1_allMen_5 : decode cX1_allMen 5 = .ok (.ishl, 1) := by decide +kernel
theorem dX1_allMen_6 : decode cX1_allMen 6 = .ok (.iconst 1, 1) := by decide +kernel
theorem dX1_allMen_7 : decode cX1_allMen 7 = .ok (.isub, 1) := by decide +kernel
theorem dX1_allMen_8 : decode cX1_allMen 8 = .ok (.ireturn, 1) := by decide +kernel
set_option maxHeartbeats 4000000 in
set_option maxRecDepth 100000 in
theorem k_allMen (l : Launch) (dC : Nat → ClassId) (dI : Nat → Nat → Nat) (cy : Nat → ClassId) (ad : Nat → Nat)  : Met l yX1_allMen (wl yX1_allMen cX1_allMen 1 (some .int)) ({ frames := 0, cells := 0, slots := 0, locals := 0 }) (Pr (dC, dI) vwCl cy [(ad 32, .inr (2, [.ref (ad 33), .ref (ad 34), .ref (ad 35), .ref (ad 36), .ref (ad 37), .int 0, .int 0, .int 60, .int 10]))] [.ref (ad 32)]) (Ri (fun r => r = 0)) 0 0 (fun _ => False) := by
  refine mr RX1 rfl (by decide +kernel) (Nat.le_of_ble_eq_true rfl) ?_
  intro p e s m below meth c hx hb hr hlocks av9 hav hts hown hml hK hP hS Q9 hQ9 ls hl
  have hl : lv_has ls 1 [(0, .ref (ad 32))] := hl
  refine lv_iconst (v := 1) hx hb dX1_allMen_0 (by decide) ?_
  refine lv_aload_n hx hb dX1_allMen_1 rfl (lv_at hl 0 rfl) ?_
  refine gf_X1_36 hx hb hts hown hK hP 0 rfl rfl dX1_allMen_2 ?_
  refine lv_ishl hx hb dX1_allMen_5 ?_
  refine as_i 1 (by decide) ?_
  refine lv_iconst (v := 1) hx hb dX1_allMen_6 (by decide) ?_
  refine lv_isub hx hb dX1_allMen_7 ?_
  refine as_i 0 (by decide) ?_
  rw [hQ9]
  exact rr_i hx hb hr hlocks rfl hS dX1_allMen_8
def balF (x y : Int32) : Int32 := if x &&& y = 0 then (if (x ||| y) &&& (-1) = 0 then 0 else -1) else -1
abbrev cX10_balance : ByteArray := prog_1_method_23_code
def yX10_balance : MethodName := ⟨RX10, "balance", "(II)I"⟩
theorem t861 : Cond.code yX10_balance cX10_balance 5 (some .int) ∈ GW := gw_mem 975 (by decide +kernel) (by decide +kernel)
theorem dX10_balance_0 : decode cX10_balance 0 = .ok (.aload_n 0, 1) := by decide +kernel
theorem dX10_balance_1 : decode cX10_balance 1 = .ok (.getfield 76, 3) := by decide +kernel
theorem dX10_balance_4 : decode cX10_balance 4 = .ok (.getfield 94, 3) := by decide +kernel
theorem dX10_balance_7 : decode cX10_balance 7 = .ok (.invokevirtual 263, 3) := by decide +kernel
theorem t862 : Cond.methodLink RX10 263 yX1_allMen ∈ GW := gw_mem 976 (by decide +kernel) (by decide +kernel)
theorem t16 : Cond.initialized RX1 ∈ GW := gw_mem 130 (by decide +kernel) (by decide +kernel)
theorem t863 : Cond.instanceMethod yX1_allMen ∈ GW := gw_mem 977 (by decide +kernel) (by decide +kernel)
theorem t864 : Cond.selects RX1 yX1_allMen yX1_allMen ∈ GW := gw_mem 978 (by decide +kernel) (by decide +kernel)
theorem cw_X10_263 {R : Room} {s : State} {args : Array Value} {rm : Room} {mc ms : Nat} (hts : ∀ w ∈ GW, w.before args s = true) (hrc : rm.cells = mc) (hrs : rm.slots = ms) (hR : rm.frames + 1 ≤ R.frames ∧ 8 + (1 + 11) + rm.locals ≤ R.locals) : CallW R s args RX10 RX1 263 yX1_allMen cX1_allMen 1 (some .int) (wl yX1_allMen cX1_allMen 1 (some .int)) rm mc ms 0 := cwV 0 hts (gi_V t862 t863 t864 t16 t865) rfl hrc hrs (by decide +kernel) hR
theorem dX10_balance_10 : decode cX10_balance 10 = .ok (.istore_n 3, 1) := by decide +kernel
theorem dX10_balance_11 : decode cX10_balance 11 = .ok (.iload_n 1, 1) := by decide +kernel
theorem dX10_balance_12 : decode cX10_balance 12 = .ok (.iload_n 2, 1) := by decide +kernel
theorem dX10_balance_13 : decode cX10_balance 13 = .ok (.iand, 1) := by decide +kernel
theorem dX10_balance_14 : decode cX10_balance 14 = .ok (.ifCond .ne 13, 3) := by decide +kernel
theorem dX10_balance_27 : decode cX10_balance 27 = .ok (.iconst (-1), 1) := by decide +kernel
theorem dX10_balance_28 : decode cX10_balance 28 = .ok (.ireturn, 1) := by decide +kernel
theorem dX10_balance_17 : decode cX10_balance 17 = .ok (.iload_n 1, 1) := by decide +kernel
theorem dX10_balance_18 : decode cX10_balance 18 = .ok (.iload_n 2, 1) := by decide +kernel
theorem dX10_balance_19 : decode cX10_balance 19 = .ok (.ior, 1) := by decide +kernel
theorem dX10_balance_20 : decode cX10_balance 20 = .ok (.iload_n 3, 1) := by decide +kernel
theorem dX10_balance_21 : decode cX10_balance 21 = .ok (.iconst (-1), 1) := by decide +kernel
theorem dX10_balance_22 : decode cX10_balance 22 = .ok (.ixor, 1) := by decide +kernel
theorem dX10_balance_23 : decode cX10_balance 23 = .ok (.iand, 1) := by decide +kernel
theorem dX10_balance_24 : decode cX10_balance 24 = .ok (.ifCond .eq 5, 3) := by decide +kernel
theorem dX10_balance_29 : decode cX10_balance 29 = .ok (.aload_n 0, 1) := by decide +kernel
theorem dX10_balance_30 : decode cX10_balance 30 = .ok (.getfield 76, 3) := by decide +kernel
theorem dX10_balance_33 : decode cX10_balance 33 = .ok (.iload_n 1, 1) := by decide +kernel
theorem dX10_balance_34 : decode cX10_balance 34 = .ok (.invokevirtual 266, 3) := by decide +kernel
theorem t866 : Cond.methodLink RX10 266 yX9_weightOfAll ∈ GW := gw_mem 980 (by decide +kernel) (by decide +kernel)
theorem t867 : Cond.instanceMethod yX9_weightOfAll ∈ GW := gw_mem 981 (by decide +kernel) (by decide +kernel)
theorem t868 : Cond.selects RX9 yX9_weightOfAll yX9_weightOfAll ∈ GW := gw_mem 982 (by decide +kernel) (by decide +kernel)
theorem cw_X10_266 {R : Room} {s : State} {args : Array Value} {rm : Room} {mc ms : Nat} (hts : ∀ w ∈ GW, w.before args s = true) (hrc : rm.cells = mc) (hrs : rm.slots = ms) (hR : rm.frames + 1 ≤ R.frames ∧ 8 + (4 + 11) + rm.locals ≤ R.locals) : CallW R s args RX10 RX9 266 yX9_weightOfAll cX9_weightOfAll 4 (some .int) (wl yX9_weightOfAll cX9_weightOfAll 4 (some .int)) rm mc ms 1 := cwV 1 hts (gi_V t866 t867 t868 t15 t869) rfl hrc hrs (by decide +kernel) hR
theorem dX10_balance_37 : decode cX10_balance 37 = .ok (.aload_n 0, 1) := by decide +kernel
theorem dX10_balance_38 : decode cX10_balance 38 = .ok (.getfield 76, 3) := by decide +kernel
theorem dX10_balance_41 : decode cX10_balance 41 = .ok (.iload_n 2, 1) := by decide +kernel
theorem dX10_balance_42 : decode cX10_balance 42 = .ok (.invokevirtual 266, 3) := by decide +kernel
theorem dX10_balance_45 : decode cX10_balance 45 = .ok (.isub, 1) := by decide +kernel
theorem dX10_balance_46 : decode cX10_balance 46 = .ok (.istore 4, 2) := by decide +kernel
theorem dX10_balance_48 : decode cX10_balance 48 = .ok (.iload 4, 2) := by decide +kernel
theorem dX10_balance_50 : decode cX10_balance 50 = .ok (.ifCond .ne 5, 3) := by decide +kernel
theorem dX10_balance_53 : decode cX10_balance 53 = .ok (.iconst 0, 1) := by decide +kernel
theorem dX10_balance_54 : decode cX10_balance 54 = .ok (.ireturn, 1) := by decide +kernel
set_option maxHeartbeats 4000000 in
set_option maxRecDepth 100000 in
theorem k_balance (l : Launch) (dC : Nat → ClassId) (dI : Nat → Nat → Nat) (cy : Nat → ClassId) (ad : Nat → Nat) (n0 : Int32) (n1 : Int32)  : Met l yX10_balance (wl yX10_balance cX10_balance 5 (some .int)) ({ frames := 2, cells := 0, slots := 0, locals := 128 }) (Pr (dC, dI) vwCl cy [(ad 0, .inr (11, [.ref (ad 1), .ref (ad 4), .ref (ad 5), .ref (ad 10), .ref (ad 23), .ref (ad 24), .ref (ad 25), .ref (ad 27), .ref (ad 28), .ref (ad 29), .ref (ad 30), .ref (ad 31), .ref (ad 54), .int 0, .int (-1), .int 0, .int 0])), (ad 31, .inr (10, [.ref (ad 32), .ref (ad 38), .ref (ad 49)])), (ad 32, .inr (2, [.ref (ad 33), .ref (ad 34), .ref (ad 35), .ref (ad 36), .ref (ad 37), .int 0, .int 0, .int 60, .int 10]))] [.ref (ad 0), .int n0, .int n1]) (Ri (fun r => r = balF n0 n1)) 0 0 (fun _ => False) := by
  refine mr RX10 rfl (by decide +kernel) (Nat.le_of_ble_eq_true rfl) ?_
  intro p e s m below meth c hx hb hr hlocks av9 hav hts hown hml hK hP hS Q9 hQ9 ls hl
  have hl : lv_has ls 5 [(0, .ref (ad 0)), (1, .int n0), (2, .int n1)] := hl
  refine lv_aload_n hx hb dX10_balance_0 rfl (lv_at hl 0 rfl) ?_
  refine gf_X10_76 hx hb hts hown hK hP 0 rfl rfl dX10_balance_1 ?_
  refine gf_X10_94 hx hb hts hown hK hP 1 rfl rfl dX10_balance_4 ?_
  refine jr_i (rVr (As := []) (rest := []) (ci := 2) ⟨hx, hb, hml, hown, hts⟩ (k_allMen l dC dI cy ad ) (cw_X10_263 hts rfl rfl ⟨Nat.le_of_ble_eq_true rfl, Nat.le_of_ble_eq_true rfl⟩) hP hK [2] rfl rfl rfl rfl hl.1 rfl (Nat.le_of_ble_eq_true rfl) dX10_balance_7 ⟨Nat.le_of_ble_eq_true rfl, Nat.le_of_ble_eq_true rfl⟩) hP hS (fun r_1 H locs hp_2 hP hS => ?_)
  refine as_i 0 hp_2 ?_
  refine lv_istore_n (lv' := [(3, .int 0), (0, .ref (ad 0)), (1, .int n0), (2, .int n1)]) hx hb dX10_balance_10 rfl hl (by decide) rfl (fun ls hl => ?_)
  refine lv_iload_n hx hb dX10_balance_11 rfl (lv_at hl 2 rfl) ?_
  refine lv_iload_n hx hb dX10_balance_12 rfl (lv_at hl 3 rfl) ?_
  refine lv_iand hx hb dX10_balance_13 ?_
  refine lv_if_ne (tgt := 27) hx hb dX10_balance_14 (by decide) (fun c_3 => ?_) (fun c_3 => ?_)
  · skip
    refine lv_iconst (v := (-1)) hx hb dX10_balance_27 (by decide) ?_
    rw [hQ9]
    exact rr_i hx hb hr hlocks (by unfold balF; simp only [c_3, if_true, if_false, not_false_eq_true]) hS dX10_balance_28
  · skip
    refine lv_iload_n hx hb dX10_balance_17 rfl (lv_at hl 2 rfl) ?_
    refine lv_iload_n hx hb dX10_balance_18 rfl (lv_at hl 3 rfl) ?_
    refine lv_ior hx hb dX10_balance_19 ?_
    refine lv_iload_n hx hb dX10_balance_20 rfl (lv_at hl 0 rfl) ?_
    refine lv_iconst (v := (-1)) hx hb dX10_balance_21 (by decide) ?_
    refine lv_ixor hx hb dX10_balance_22 ?_
    refine as_i (-1) (by decide) ?_
    refine lv_iand hx hb dX10_balance_23 ?_
    refine lv_if_eq (tgt := 29) hx hb dX10_balance_24 (by decide) (fun c_4 => ?_) (fun c_4 => ?_)
    · skip
      refine lv_aload_n hx hb dX10_balance_29 rfl (lv_at hl 1 rfl) ?_
      refine gf_X10_76 hx hb hts hown hK hP 0 rfl rfl dX10_balance_30 ?_
      refine lv_iload_n hx hb dX10_balance_33 rfl (lv_at hl 2 rfl) ?_
      refine jr_i (rVr (As := [.int n0]) (rest := []) (ci := 10) ⟨hx, hb, hml, hown, hts⟩ (k_weightOfAll l dC dI cy ad n0 ) (cw_X10_266 hts rfl rfl ⟨Nat.le_of_ble_eq_true rfl, Nat.le_of_ble_eq_true rfl⟩) hP hK [1, 2] rfl rfl rfl rfl hl.1 rfl (Nat.le_of_ble_eq_true rfl) dX10_balance_34 ⟨Nat.le_of_ble_eq_true rfl, Nat.le_of_ble_eq_true rfl⟩) hP hS (fun r_5 H locs hp_6 hP hS => ?_)
      refine as_i 0 hp_6 ?_
      refine lv_aload_n hx hb dX10_balance_37 rfl (lv_at hl 1 rfl) ?_
      refine gf_X10_76 hx hb hts hown hK hP 0 rfl rfl dX10_balance_38 ?_
      refine lv_iload_n hx hb dX10_balance_41 rfl (lv_at hl 3 rfl) ?_
      refine jr_i (rVr (As := [.int n1]) (rest := [.int 0]) (ci := 10) ⟨hx, hb, hml, hown, hts⟩ (k_weightOfAll l dC dI cy ad n1 ) (cw_X10_266 hts rfl rfl ⟨Nat.le_of_ble_eq_true rfl, Nat.le_of_ble_eq_true rfl⟩) hP hK [1, 2] rfl rfl rfl rfl hl.1 rfl (Nat.le_of_ble_eq_true rfl) dX10_balance_42 ⟨Nat.le_of_ble_eq_true rfl, Nat.le_of_ble_eq_true rfl⟩) hP hS (fun r_7 H locs hp_8 hP hS => ?_)
      refine as_i 0 hp_8 ?_
      refine lv_isub hx hb dX10_balance_45 ?_
      refine as_i 0 (by decide) ?_
      refine lv_istore (lv' := [(4, .int 0), (3, .int 0), (0, .ref (ad 0)), (1, .int n0), (2, .int n1)]) hx hb dX10_balance_46 hl (by decide) rfl (fun ls hl => ?_)
      refine lv_iload hx hb dX10_balance_48 (lv_at hl 0 rfl) ?_
      refine lv_if_ne (tgt := 55) hx hb dX10_balance_50 (by decide) (fun c9 => absurd c9 (by decide)) (fun _ => ?_)
      refine lv_iconst (v := 0) hx hb dX10_balance_53 (by decide) ?_
      rw [hQ9]
      exact rr_i hx hb hr hlocks (by unfold balF; simp only [c_3, c_4, if_true, if_false, not_false_eq_true]) hS dX10_balance_54
    · skip
      refine lv_iconst (v := (-1)) hx hb dX10_balance_27 (by decide) ?_
      rw [hQ9]
      exact rr_i hx hb hr hlocks (by unfold balF; simp only [c_3, c_4, if_true, if_false, not_false_eq_true]) hS dX10_balance_28
theorem two_of {x : Int32} (h : ¬ x < 0) (h2 : ¬ (2 : Int32) ≤ x) : x = 0 ∨ x = 1 := by
  obtain ⟨j, hj, rfl⟩ := nI_of h
  have h3 : ¬ nI 2 ≤ nI j := h2
  rw [nI_leI (by decide) hj] at h3
  have h4 : j = 0 ∨ j = 1 := by omega
  rcases h4 with rfl | rfl
  · exact Or.inl rfl
  · exact Or.inr rfl
abbrev cX10_restore : ByteArray := prog_1_method_41_code
def yX10_restore : MethodName := ⟨RX10, "restore", "(I)Z"⟩
theorem t1345 : Cond.code yX10_restore cX10_restore 2 (some .boolean) ∈ GW := gw_mem 1459 (by decide +kernel) (by decide +kernel)
theorem dX10_restore_0 : decode cX10_restore 0 = .ok (.iload_n 1, 1) := by decide +kernel
theorem dX10_restore_1 : decode cX10_restore 1 = .ok (.ifCond .lt 17, 3) := by decide +kernel
theorem dX10_restore_18 : decode cX10_restore 18 = .ok (.iconst 0, 1) := by decide +kernel
theorem dX10_restore_19 : decode cX10_restore 19 = .ok (.ireturn, 1) := by decide +kernel
theorem dX10_restore_4 : decode cX10_restore 4 = .ok (.iload_n 1, 1) := by decide +kernel
theorem dX10_restore_5 : decode cX10_restore 5 = .ok (.iconst 2, 1) := by decide +kernel
theorem dX10_restore_6 : decode cX10_restore 6 = .ok (.if_icmp .ge 12, 3) := by decide +kernel
theorem dX10_restore_9 : decode cX10_restore 9 = .ok (.aload_n 0, 1) := by decide +kernel
theorem dX10_restore_10 : decode cX10_restore 10 = .ok (.getfield 71, 3) := by decide +kernel
theorem t487 : Cond.fieldLink RX10 71 "LikenessPound" "imageKept" "[Z" ∈ GW := gw_mem 601 (by decide +kernel) (by decide +kernel)
theorem gf_X10_71 {p : Program} {l : Launch} {e : Env} {R : Room} {s : State} {m : MethodId} {args : Array Value} {below : List Frame} {meth : Method} {c : Code} {H : Heap} {locs : List Loc} {cells slots : Nat} {Q : State → Prop} {cc : ByteArray} {pc : Nat} {ls : Array Slot} {rest : List Value} {D : va_G} {a : Nat} {tys : List (ClassId × FieldType)} {ws : va_W} (hx : p.tables.exec = Jvm.exec) (hb : c.code = cc) (hts : ∀ w ∈ GW, w.before args s = true) (hown : s.vm.findClass RX10 = some m.cls) (hK : va_K D vwCl tys s) (hP : va_P D vwCl ws H) (q0 : Nat) {fs : List Value} (he : ws[q0]? = some (a, .inr (11, fs))) {v : Value} (hv : fs[10]? = some v) (hdg : decode cc pc = .ok (.getfield 71, 3)) (kk : W p l e R s m args below meth c H locs cells slots Q (F0 m (pc + 3) ls (v :: rest))) : W p l e R s m args below meth c H locs cells slots Q (F0 m pc ls (.ref a :: rest)) := va_get (C := RX10) (T := TX10) (N := 17) (ci := 11) hx hb hts inX10 hown hK hP q0 he rfl 10 (by decide) (hts _ t487) (fun _ h => h) hv hdg kk
theorem dX10_restore_13 : decode cX10_restore 13 = .ok (.iload_n 1, 1) := by decide +kernel
theorem dX10_restore_14 : decode cX10_restore 14 = .ok (.baload, 1) := by decide +kernel
theorem dX10_restore_15 : decode cX10_restore 15 = .ok (.ifCond .ne 5, 3) := by decide +kernel
set_option maxHeartbeats 4000000 in
set_option maxRecDepth 100000 in
theorem k_restore (l : Launch) (dC : Nat → ClassId) (dI : Nat → Nat → Nat) (cy : Nat → ClassId) (ad : Nat → Nat) (ai : Nat → Nat → Int32) (n0 : Int32) (hk : ∀ j : Nat, ai 30 j = 0) : Met l yX10_restore (wl yX10_restore cX10_restore 2 (some .boolean)) ({ frames := 1, cells := 0, slots := 0, locals := 64 }) (Pr (dC, dI) vwCl cy [(ad 0, .inr (11, [.ref (ad 1), .ref (ad 4), .ref (ad 5), .ref (ad 10), .ref (ad 23), .ref (ad 24), .ref (ad 25), .ref (ad 27), .ref (ad 28), .ref (ad 29), .ref (ad 30), .ref (ad 31), .ref (ad 54), .int 0, .int (-1), .int 0, .int 0])), (ad 30, .inl (cy 2, 2, .inl (ai 30)))] [.ref (ad 0), .int n0]) (Ri (fun r => r = 0)) 0 0 (fun _ => False) := by
  refine mr RX10 rfl (by decide +kernel) (Nat.le_of_ble_eq_true rfl) ?_
  intro p e s m below meth c hx hb hr hlocks av9 hav hts hown hml hK hP hS Q9 hQ9 ls hl
  have hl : lv_has ls 2 [(0, .ref (ad 0)), (1, .int n0)] := hl
  refine lv_iload_n hx hb dX10_restore_0 rfl (lv_at hl 1 rfl) ?_
  refine lv_if_lt (tgt := 18) hx hb dX10_restore_1 (by decide) (fun c_1 => ?_) (fun c_1 => ?_)
  · skip
    refine lv_iconst (v := 0) hx hb dX10_restore_18 (by decide) ?_
    rw [hQ9]
    exact rr_z hx hb hr hlocks (Or.inl rfl) rfl hS dX10_restore_19
  · skip
    refine lv_iload_n hx hb dX10_restore_4 rfl (lv_at hl 1 rfl) ?_
    refine lv_iconst (v := 2) hx hb dX10_restore_5 (by decide) ?_
    refine lv_icmp_ge (tgt := 18) hx hb dX10_restore_6 (by decide) (fun c_2 => ?_) (fun c_2 => ?_)
    · skip
      refine lv_iconst (v := 0) hx hb dX10_restore_18 (by decide) ?_
      rw [hQ9]
      exact rr_z hx hb hr hlocks (Or.inl rfl) rfl hS dX10_restore_19
    · skip
      have h9 : n0 = 0 ∨ n0 = 1 := two_of c_1 c_2
      rcases h9 with rfl | rfl
      · skip
        refine lv_aload_n hx hb dX10_restore_9 rfl (lv_at hl 0 rfl) ?_
        refine gf_X10_71 hx hb hts hown hK hP 0 rfl rfl dX10_restore_10 ?_
        refine lv_iload_n hx hb dX10_restore_13 rfl (lv_at hl 1 rfl) ?_
        refine va_zald hx hb hK hP 1 2 rfl rfl (vp_in_nI (n := 0) (N := 2) (by decide) (by decide)) dX10_restore_14 ?_
        refine as_i 0 ((congrArg (ai 30) (show (0 : Int32).toNatClampNeg = 0 from rfl)).trans (hk 0)) ?_
        refine lv_if_ne (tgt := 20) hx hb dX10_restore_15 (by decide) (fun c9 => absurd c9 (by decide)) (fun _ => ?_)
        refine lv_iconst (v := 0) hx hb dX10_restore_18 (by decide) ?_
        rw [hQ9]
        exact rr_z hx hb hr hlocks (Or.inl rfl) rfl hS dX10_restore_19
      · skip
        refine lv_aload_n hx hb dX10_restore_9 rfl (lv_at hl 0 rfl) ?_
        refine gf_X10_71 hx hb hts hown hK hP 0 rfl rfl dX10_restore_10 ?_
        refine lv_iload_n hx hb dX10_restore_13 rfl (lv_at hl 1 rfl) ?_
        refine va_zald hx hb hK hP 1 2 rfl rfl (vp_in_nI (n := 1) (N := 2) (by decide) (by decide)) dX10_restore_14 ?_
        refine as_i 0 ((congrArg (ai 30) (show (1 : Int32).toNatClampNeg = 1 from rfl)).trans (hk 1)) ?_
        refine lv_if_ne (tgt := 20) hx hb dX10_restore_15 (by decide) (fun c9 => absurd c9 (by decide)) (fun _ => ?_)
        refine lv_iconst (v := 0) hx hb dX10_restore_18 (by decide) ?_
        rw [hQ9]
        exact rr_z hx hb hr hlocks (Or.inl rfl) rfl hS dX10_restore_19
