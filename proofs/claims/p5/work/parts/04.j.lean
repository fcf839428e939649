def RX1 : String := "LikenessPound$Colony"
def RJ4 : String := "java/lang/StringBuilder"
def TJ4 : u_T := fun k => match k with
  | 0 => ("java/lang/AbstractStringBuilder", "value", "[B", false)
  | 1 => ("java/lang/AbstractStringBuilder", "coder", "B", false)
  | 2 => ("java/lang/AbstractStringBuilder", "maybeLatin1", "Z", false)
  | _ => ("java/lang/AbstractStringBuilder", "count", "I", false)
def tyJ4 : Nat → FieldType := fun k => match k with
  | 0 => .array .byte
  | 1 => .byte
  | 2 => .boolean
  | _ => .int
theorem nmJ4 : ∀ a, a < 4 → ∀ b, b < 4 → a ≠ b → (TJ4 a).2.1 ≠ (TJ4 b).2.1 := by decide +kernel
theorem tkJ4 : ∀ k, k < 4 → parseFieldDescriptor (TJ4 k).2.2.1 = some (tyJ4 k) := by decide +kernel
theorem inJ4 : ∀ w ∈ u_ws RJ4 TJ4 4, w ∈ GW := gw_sub [465, 467, 469, 471] (by decide +kernel) (by decide +kernel)
def RX0 : String := "LikenessPound$BookText"
def TX0 : u_T := fun k => match k with
  | 0 => ("LikenessPound$BookText", "who", "[I", true)
  | 1 => ("LikenessPound$BookText", "verb", "[I", true)
  | 2 => ("LikenessPound$BookText", "whom", "[I", true)
  | 3 => ("LikenessPound$BookText", "what", "[I", true)
  | 4 => ("LikenessPound$BookText", "lines", "I", false)
  | 5 => ("LikenessPound$BookText", "judged", "Z", false)
  | 6 => ("LikenessPound$BookText", "why", "I", false)
  | 7 => ("LikenessPound$BookText", "lived", "I", false)
  | 8 => ("LikenessPound$BookText", "yearThen", "I", false)
  | _ => ("LikenessPound$BookText", "seenThen", "I", false)
def tyX0 : Nat → FieldType := fun k => match k with
  | 0 => .array .int
  | 1 => .array .int
  | 2 => .array .int
  | 3 => .array .int
  | 4 => .int
  | 5 => .boolean
  | 6 => .int
  | 7 => .int
  | 8 => .int
  | _ => .int
theorem nmX0 : ∀ a, a < 10 → ∀ b, b < 10 → a ≠ b → (TX0 a).2.1 ≠ (TX0 b).2.1 := by decide +kernel
theorem tkX0 : ∀ k, k < 10 → parseFieldDescriptor (TX0 k).2.2.1 = some (tyX0 k) := by decide +kernel
theorem inX0 : ∀ w ∈ u_ws RX0 TX0 10, w ∈ GW := gw_sub [304, 306, 308, 310, 312, 314, 316, 318, 320, 322] (by decide +kernel) (by decide +kernel)
def TX1 : u_T := fun k => match k with
  | 0 => ("LikenessPound$Colony", "manCode", "[J", true)
  | 1 => ("LikenessPound$Colony", "deedCode", "[J", true)
  | 2 => ("LikenessPound$Colony", "weight", "[I", true)
  | 3 => ("LikenessPound$Colony", "crime", "[Z", true)
  | 4 => ("LikenessPound$Colony", "kin", "[I", true)
  | 5 => ("LikenessPound$Colony", "men", "I", false)
  | 6 => ("LikenessPound$Colony", "deeds", "I", false)
  | 7 => ("LikenessPound$Colony", "room", "I", false)
  | _ => ("LikenessPound$Colony", "faint", "I", false)
def tyX1 : Nat → FieldType := fun k => match k with
  | 0 => .array .long
  | 1 => .array .long
  | 2 => .array .int
  | 3 => .array .boolean
  | 4 => .array .int
  | 5 => .int
  | 6 => .int
  | 7 => .int
  | _ => .int
theorem nmX1 : ∀ a, a < 9 → ∀ b, b < 9 → a ≠ b → (TX1 a).2.1 ≠ (TX1 b).2.1 := by decide +kernel
theorem tkX1 : ∀ k, k < 9 → parseFieldDescriptor (TX1 k).2.2.1 = some (tyX1 k) := by decide +kernel
theorem inX1 : ∀ w ∈ u_ws RX1 TX1 9, w ∈ GW := gw_sub [525, 527, 529, 531, 533, 535, 537, 539, 541] (by decide +kernel) (by decide +kernel)
def RX2 : String := "LikenessPound$ColonyText"
def TX2 : u_T := fun k => match k with
  | 0 => ("LikenessPound$ColonyText", "lines", "I", false)
  | 1 => ("LikenessPound$ColonyText", "first", "I", false)
  | 2 => ("LikenessPound$ColonyText", "second", "I", false)
  | 3 => ("LikenessPound$ColonyText", "roomTold", "Z", false)
  | _ => ("LikenessPound$ColonyText", "faintTold", "Z", false)
def tyX2 : Nat → FieldType := fun k => match k with
  | 0 => .int
  | 1 => .int
  | 2 => .int
  | 3 => .boolean
  | _ => .boolean
theorem nmX2 : ∀ a, a < 5 → ∀ b, b < 5 → a ≠ b → (TX2 a).2.1 ≠ (TX2 b).2.1 := by decide +kernel
theorem tkX2 : ∀ k, k < 5 → parseFieldDescriptor (TX2 k).2.2.1 = some (tyX2 k) := by decide +kernel
theorem inX2 : ∀ w ∈ u_ws RX2 TX2 5, w ∈ GW := gw_sub [272, 274, 276, 278, 280] (by decide +kernel) (by decide +kernel)
def RX3 : String := "LikenessPound$Lenders"
def TX3 : u_T := fun k => match k with
  | _ => ("LikenessPound$Lenders", "loan", "[I", true)
def tyX3 : Nat → FieldType := fun k => match k with
  | _ => .array .int
theorem nmX3 : ∀ a, a < 1 → ∀ b, b < 1 → a ≠ b → (TX3 a).2.1 ≠ (TX3 b).2.1 := by decide +kernel
theorem tkX3 : ∀ k, k < 1 → parseFieldDescriptor (TX3 k).2.2.1 = some (tyX3 k) := by decide +kernel
theorem inX3 : ∀ w ∈ u_ws RX3 TX3 1, w ∈ GW := gw_sub [424] (by decide +kernel) (by decide +kernel)
def RX4 : String := "LikenessPound$Life"
def TX4 : u_T := fun k => match k with
  | 0 => ("LikenessPound$Life", "age", "[I", true)
  | 1 => ("LikenessPound$Life", "did", "[I", true)
  | 2 => ("LikenessPound$Life", "owed", "[I", true)
  | 3 => ("LikenessPound$Life", "lentTo", "[I", true)
  | 4 => ("LikenessPound$Life", "lentDeed", "[I", true)
  | 5 => ("LikenessPound$Life", "sat", "[I", true)
  | 6 => ("LikenessPound$Life", "keptWhite", "[I", true)
  | 7 => ("LikenessPound$Life", "keptDark", "[I", true)
  | 8 => ("LikenessPound$Life", "keptYear", "[I", true)
  | 9 => ("LikenessPound$Life", "keptAge", "[I", true)
  | _ => ("LikenessPound$Life", "year", "I", false)
def tyX4 : Nat → FieldType := fun k => match k with
  | 0 => .array .int
  | 1 => .array .int
  | 2 => .array .int
  | 3 => .array .int
  | 4 => .array .int
  | 5 => .array .int
  | 6 => .array .int
  | 7 => .array .int
  | 8 => .array .int
  | 9 => .array .int
  | _ => .int
theorem nmX4 : ∀ a, a < 11 → ∀ b, b < 11 → a ≠ b → (TX4 a).2.1 ≠ (TX4 b).2.1 := by decide +kernel
theorem tkX4 : ∀ k, k < 11 → parseFieldDescriptor (TX4 k).2.2.1 = some (tyX4 k) := by decide +kernel
theorem inX4 : ∀ w ∈ u_ws RX4 TX4 11, w ∈ GW := gw_sub [384, 386, 388, 390, 392, 394, 396, 398, 400, 402, 404] (by decide +kernel) (by decide +kernel)
def RX5 : String := "LikenessPound$Past"
def TX5 : u_T := fun k => match k with
  | 0 => ("LikenessPound$Past", "lives", "[LLikenessPound$Life;", true)
  | 1 => ("LikenessPound$Past", "size", "I", false)
  | _ => ("LikenessPound$Past", "next", "I", false)
def tyX5 : Nat → FieldType := fun k => match k with
  | 0 => .array (.object "LikenessPound$Life")
  | 1 => .int
  | _ => .int
theorem nmX5 : ∀ a, a < 3 → ∀ b, b < 3 → a ≠ b → (TX5 a).2.1 ≠ (TX5 b).2.1 := by decide +kernel
theorem tkX5 : ∀ k, k < 3 → parseFieldDescriptor (TX5 k).2.2.1 = some (tyX5 k) := by decide +kernel
theorem inX5 : ∀ w ∈ u_ws RX5 TX5 3, w ∈ GW := gw_sub [410, 412, 414] (by decide +kernel) (by decide +kernel)
def RX6 : String := "LikenessPound$Sentence"
def TX6 : u_T := fun k => match k with
  | 0 => ("LikenessPound$Sentence", "step", "[I", true)
  | 1 => ("LikenessPound$Sentence", "sign", "[I", true)
  | 2 => ("LikenessPound$Sentence", "number", "[I", true)
  | 3 => ("LikenessPound$Sentence", "waiting", "[I", true)
  | 4 => ("LikenessPound$Sentence", "steps", "I", false)
  | _ => ("LikenessPound$Sentence", "ones", "I", false)
def tyX6 : Nat → FieldType := fun k => match k with
  | 0 => .array .int
  | 1 => .array .int
  | 2 => .array .int
  | 3 => .array .int
  | 4 => .int
  | _ => .int
theorem nmX6 : ∀ a, a < 6 → ∀ b, b < 6 → a ≠ b → (TX6 a).2.1 ≠ (TX6 b).2.1 := by decide +kernel
theorem tkX6 : ∀ k, k < 6 → parseFieldDescriptor (TX6 k).2.2.1 = some (tyX6 k) := by decide +kernel
theorem inX6 : ∀ w ∈ u_ws RX6 TX6 6, w ∈ GW := gw_sub [560, 562, 564, 566, 568, 570] (by decide +kernel) (by decide +kernel)
def RX7 : String := "LikenessPound$Sums"
def TX7 : u_T := fun k => match k with
  | 0 => ("LikenessPound$Sums", "most", "[I", true)
  | 1 => ("LikenessPound$Sums", "fewest", "[I", true)
  | _ => ("LikenessPound$Sums", "ways", "[J", true)
def tyX7 : Nat → FieldType := fun k => match k with
  | 0 => .array .int
  | 1 => .array .int
  | _ => .array .long
theorem nmX7 : ∀ a, a < 3 → ∀ b, b < 3 → a ≠ b → (TX7 a).2.1 ≠ (TX7 b).2.1 := by decide +kernel
theorem tkX7 : ∀ k, k < 3 → parseFieldDescriptor (TX7 k).2.2.1 = some (tyX7 k) := by decide +kernel
theorem inX7 : ∀ w ∈ u_ws RX7 TX7 3, w ∈ GW := gw_sub [437, 439, 441] (by decide +kernel) (by decide +kernel)
def RX8 : String := "LikenessPound$Tape"
def TX8 : u_T := fun k => match k with
  | 0 => ("LikenessPound$Tape", "bytes", "[I", true)
  | 1 => ("LikenessPound$Tape", "wordCodes", "[J", true)
  | 2 => ("LikenessPound$Tape", "length", "I", false)
  | 3 => ("LikenessPound$Tape", "limit", "I", false)
  | 4 => ("LikenessPound$Tape", "at", "I", false)
  | 5 => ("LikenessPound$Tape", "kind", "I", false)
  | 6 => ("LikenessPound$Tape", "start", "I", false)
  | 7 => ("LikenessPound$Tape", "word", "I", false)
  | 8 => ("LikenessPound$Tape", "code", "J", false)
  | 9 => ("LikenessPound$Tape", "number", "I", false)
  | 10 => ("LikenessPound$Tape", "faultKind", "I", false)
  | _ => ("LikenessPound$Tape", "faultPlace", "I", false)
def tyX8 : Nat → FieldType := fun k => match k with
  | 0 => .array .int
  | 1 => .array .long
  | 2 => .int
  | 3 => .int
  | 4 => .int
  | 5 => .int
  | 6 => .int
  | 7 => .int
  | 8 => .long
  | 9 => .int
  | 10 => .int
  | _ => .int
theorem nmX8 : ∀ a, a < 12 → ∀ b, b < 12 → a ≠ b → (TX8 a).2.1 ≠ (TX8 b).2.1 := by decide +kernel
theorem tkX8 : ∀ k, k < 12 → parseFieldDescriptor (TX8 k).2.2.1 = some (tyX8 k) := by decide +kernel
theorem inX8 : ∀ w ∈ u_ws RX8 TX8 12, w ∈ GW := gw_sub [232, 234, 236, 238, 240, 242, 244, 246, 248, 250, 252, 254] (by decide +kernel) (by decide +kernel)
def RX9 : String := "LikenessPound$World"
def TX9 : u_T := fun k => match k with
  | 0 => ("LikenessPound$World", "colony", "LLikenessPound$Colony;", true)
  | 1 => ("LikenessPound$World", "life", "LLikenessPound$Life;", true)
  | _ => ("LikenessPound$World", "sentence", "LLikenessPound$Sentence;", true)
def tyX9 : Nat → FieldType := fun k => match k with
  | 0 => .object "LikenessPound$Colony"
  | 1 => .object "LikenessPound$Life"
  | _ => .object "LikenessPound$Sentence"
theorem nmX9 : ∀ a, a < 3 → ∀ b, b < 3 → a ≠ b → (TX9 a).2.1 ≠ (TX9 b).2.1 := by decide +kernel
theorem tkX9 : ∀ k, k < 3 → parseFieldDescriptor (TX9 k).2.2.1 = some (tyX9 k) := by decide +kernel
theorem inX9 : ∀ w ∈ u_ws RX9 TX9 3, w ∈ GW := gw_sub [584, 586, 588] (by decide +kernel) (by decide +kernel)
def RX10 : String := "LikenessPound"
def TX10 : u_T := fun k => match k with
  | 0 => ("LikenessPound", "tape", "LLikenessPound$Tape;", true)
  | 1 => ("LikenessPound", "colonyText", "LLikenessPound$ColonyText;", true)
  | 2 => ("LikenessPound", "bookText", "LLikenessPound$BookText;", true)
  | 3 => ("LikenessPound", "past", "LLikenessPound$Past;", true)
  | 4 => ("LikenessPound", "lenders", "LLikenessPound$Lenders;", true)
  | 5 => ("LikenessPound", "sums", "LLikenessPound$Sums;", true)
  | 6 => ("LikenessPound", "captionText", "Ljava/lang/StringBuilder;", true)
  | 7 => ("LikenessPound", "mayRow", "[I", true)
  | 8 => ("LikenessPound", "careerRow", "[I", true)
  | 9 => ("LikenessPound", "images", "[LLikenessPound$World;", true)
  | 10 => ("LikenessPound", "imageKept", "[Z", true)
  | 11 => ("LikenessPound", "world", "LLikenessPound$World;", false)
  | 12 => ("LikenessPound", "draft", "LLikenessPound$World;", false)
  | 13 => ("LikenessPound", "latestFault", "I", false)
  | 14 => ("LikenessPound", "latestHelp", "I", false)
  | 15 => ("LikenessPound", "mayDeeds", "I", false)
  | _ => ("LikenessPound", "careerDeeds", "I", false)
def tyX10 : Nat → FieldType := fun k => match k with
  | 0 => .object "LikenessPound$Tape"
  | 1 => .object "LikenessPound$ColonyText"
  | 2 => .object "LikenessPound$BookText"
  | 3 => .object "LikenessPound$Past"
  | 4 => .object "LikenessPound$Lenders"
  | 5 => .object "LikenessPound$Sums"
  | 6 => .object "java/lang/StringBuilder"
  | 7 => .array .int
  | 8 => .array .int
  | 9 => .array (.object "LikenessPound$World")
  | 10 => .array .boolean
  | 11 => .object "LikenessPound$World"
  | 12 => .object "LikenessPound$World"
  | 13 => .int
  | 14 => .int
  | 15 => .int
  | _ => .int
theorem nmX10 : ∀ a, a < 17 → ∀ b, b < 17 → a ≠ b → (TX10 a).2.1 ≠ (TX10 b).2.1 := by decide +kernel
theorem tkX10 : ∀ k, k < 17 → parseFieldDescriptor (TX10 k).2.2.1 = some (tyX10 k) := by decide +kernel
theorem inX10 : ∀ w ∈ u_ws RX10 TX10 17, w ∈ GW := gw_sub [608, 610, 612, 614, 616, 618, 620, 622, 624, 626, 628, 630, 632, 634, 636, 638, 640] (by decide +kernel) (by decide +kernel)
def RX11 : String := "LikenessPoundModel"
def TX11 : u_T := fun k => match k with
  | 0 => ("LikenessPoundModel", "thrown", "I", false)
  | 1 => ("LikenessPoundModel", "tape", "[I", true)
  | 2 => ("LikenessPoundModel", "taped", "I", false)
  | 3 => ("LikenessPoundModel", "size", "I", false)
  | 4 => ("LikenessPoundModel", "limit", "I", false)
  | 5 => ("LikenessPoundModel", "to", "I", false)
  | 6 => ("LikenessPoundModel", "from", "I", false)
  | 7 => ("LikenessPoundModel", "kind", "I", false)
  | 8 => ("LikenessPoundModel", "number", "I", false)
  | 9 => ("LikenessPoundModel", "sign", "I", false)
  | 10 => ("LikenessPoundModel", "fault", "I", false)
  | 11 => ("LikenessPoundModel", "place", "I", false)
  | 12 => ("LikenessPoundModel", "word", "J", false)
  | 13 => ("LikenessPoundModel", "told", "I", false)
  | 14 => ("LikenessPoundModel", "now", "[I", true)
  | 15 => ("LikenessPoundModel", "read", "[I", true)
  | 16 => ("LikenessPoundModel", "kept", "[I", true)
  | 17 => ("LikenessPoundModel", "snaps", "[I", true)
  | 18 => ("LikenessPoundModel", "aside", "[I", true)
  | 19 => ("LikenessPoundModel", "name", "[J", true)
  | 20 => ("LikenessPoundModel", "readName", "[J", true)
  | 21 => ("LikenessPoundModel", "keptName", "[J", true)
  | 22 => ("LikenessPoundModel", "isKept", "[Z", true)
  | 23 => ("LikenessPoundModel", "onces", "[Z", true)
  | 24 => ("LikenessPoundModel", "snapMany", "I", false)
  | 25 => ("LikenessPoundModel", "helping", "I", false)
  | 26 => ("LikenessPoundModel", "ways", "[J", true)
  | 27 => ("LikenessPoundModel", "fewest", "[I", true)
  | 28 => ("LikenessPoundModel", "maybe", "[I", true)
  | 29 => ("LikenessPoundModel", "maybeMany", "I", false)
  | 30 => ("LikenessPoundModel", "doing", "[I", true)
  | 31 => ("LikenessPoundModel", "career", "[I", true)
  | 32 => ("LikenessPoundModel", "careerMost", "I", false)
  | 33 => ("LikenessPoundModel", "careerTimes", "I", false)
  | 34 => ("LikenessPoundModel", "careerMany", "I", false)
  | 35 => ("LikenessPoundModel", "text", "[I", true)
  | 36 => ("LikenessPoundModel", "texts", "I", false)
  | 37 => ("LikenessPoundModel", "seed", "I", false)
  | 38 => ("LikenessPoundModel", "line", "[I", true)
  | 39 => ("LikenessPoundModel", "written", "[I", true)
  | 40 => ("LikenessPoundModel", "lineMany", "I", false)
  | 41 => ("LikenessPoundModel", "hasWritten", "Z", false)
  | 42 => ("LikenessPoundModel", "node", "[I", true)
  | 43 => ("LikenessPoundModel", "nodes", "I", false)
  | 44 => ("LikenessPoundModel", "onesMany", "I", false)
  | 45 => ("LikenessPoundModel", "within", "I", false)
  | _ => ("LikenessPoundModel", "top", "I", false)
def tyX11 : Nat → FieldType := fun k => match k with
  | 0 => .int
  | 1 => .array .int
  | 2 => .int
  | 3 => .int
  | 4 => .int
  | 5 => .int
  | 6 => .int
  | 7 => .int
  | 8 => .int
  | 9 => .int
  | 10 => .int
  | 11 => .int
  | 12 => .long
  | 13 => .int
  | 14 => .array .int
  | 15 => .array .int
  | 16 => .array .int
  | 17 => .array .int
  | 18 => .array .int
  | 19 => .array .long
  | 20 => .array .long
  | 21 => .array .long
  | 22 => .array .boolean
  | 23 => .array .boolean
  | 24 => .int
  | 25 => .int
  | 26 => .array .long
  | 27 => .array .int
  | 28 => .array .int
  | 29 => .int
  | 30 => .array .int
  | 31 => .array .int
  | 32 => .int
  | 33 => .int
  | 34 => .int
  | 35 => .array .int
  | 36 => .int
  | 37 => .int
  | 38 => .array .int
  | 39 => .array .int
  | 40 => .int
  | 41 => .boolean
  | 42 => .array .int
  | 43 => .int
  | 44 => .int
  | 45 => .int
  | _ => .int
theorem nmX11 : ∀ a, a < 47 → ∀ b, b < 47 → a ≠ b → (TX11 a).2.1 ≠ (TX11 b).2.1 := by decide +kernel
theorem tkX11 : ∀ k, k < 47 → parseFieldDescriptor (TX11 k).2.2.1 = some (tyX11 k) := by decide +kernel
theorem inX11 : ∀ w ∈ u_ws RX11 TX11 47, w ∈ GW := gw_sub [1603, 1605, 1607, 1609, 1611, 1613, 1615, 1617, 1619, 1621, 1623, 1625, 1627, 1629, 1631, 1633, 1635, 1637, 1639, 1641, 1643, 1645, 1647, 1649, 1651, 1653, 1655, 1657, 1659, 1661, 1663, 1665, 1667, 1669, 1671, 1673, 1675, 1677, 1679, 1681, 1683, 1685, 1687, 1689, 1691, 1693, 1695] (by decide +kernel) (by decide +kernel)
abbrev vwCl : List vw_C := [(RJ4, TJ4, 4), (RX0, TX0, 10), (RX1, TX1, 9), (RX2, TX2, 5), (RX3, TX3, 1), (RX4, TX4, 11), (RX5, TX5, 3), (RX6, TX6, 6), (RX7, TX7, 3), (RX8, TX8, 12), (RX9, TX9, 3), (RX10, TX10, 17), (RX11, TX11, 47)]
