theorem goodIn_r {big : List Cond} (ws : List Cond) (ps : List Nat) (hp : ws = ps.filterMap (fun i => big[i]?)) (h : ws.all goodWord = true) : GoodIn big ws := by
  intro w hw
  have h1 := List.all_eq_true.mp h w hw
  rw [hp] at hw
  obtain ⟨i, -, hi⟩ := List.mem_filterMap.mp hw
  have hm : w ∈ big := by first | exact List.mem_of_getElem? hi | exact List.getElem?_mem hi
  exact ⟨hm, good_of_word h1⟩
def RX0 : String := "CapitalCase$History"
def TX0 : u_T := fun k => match k with
  | 0 => ("CapitalCase$History", "rows", "[LCapitalCase$Town;", true)
  | 1 => ("CapitalCase$History", "next", "I", false)
  | _ => ("CapitalCase$History", "count", "I", false)
def tyX0 : Nat → FieldType := fun k => match k with
  | 0 => .array (.object "CapitalCase$Town")
  | 1 => .int
  | _ => .int
theorem nmX0 : ∀ a, a < 3 → ∀ b, b < 3 → a ≠ b → (TX0 a).2.1 ≠ (TX0 b).2.1 := by decide +kernel
theorem tyX0_ok : ∀ k, k < 3 → parseFieldDescriptor (TX0 k).2.2.1 = some (tyX0 k) := by decide +kernel
theorem inX0 : ∀ w ∈ u_ws RX0 TX0 3, w ∈ lw_tbl := fun w h => (goodIn_r (big := lw_tbl) (u_ws RX0 TX0 3) [388, 390, 392] (by decide +kernel) (by decide +kernel) w h).1
def RX1 : String := "CapitalCase$Judge"
def TX1 : u_T := fun k => match k with
  | 0 => ("CapitalCase$Judge", "script", "LCapitalCase$Script;", true)
  | 1 => ("CapitalCase$Judge", "vars", "[I", true)
  | _ => ("CapitalCase$Judge", "stack", "[I", true)
def tyX1 : Nat → FieldType := fun k => match k with
  | 0 => .object "CapitalCase$Script"
  | 1 => .array .int
  | _ => .array .int
theorem nmX1 : ∀ a, a < 3 → ∀ b, b < 3 → a ≠ b → (TX1 a).2.1 ≠ (TX1 b).2.1 := by decide +kernel
theorem tyX1_ok : ∀ k, k < 3 → parseFieldDescriptor (TX1 k).2.2.1 = some (tyX1 k) := by decide +kernel
theorem inX1 : ∀ w ∈ u_ws RX1 TX1 3, w ∈ lw_tbl := fun w h => (goodIn_r (big := lw_tbl) (u_ws RX1 TX1 3) [425, 427, 429] (by decide +kernel) (by decide +kernel) w h).1
def RX2 : String := "CapitalCase$Parser"
def TX2 : u_T := fun k => match k with
  | 0 => ("CapitalCase$Parser", "script", "LCapitalCase$Script;", true)
  | 1 => ("CapitalCase$Parser", "tokens", "LCapitalCase$Tokens;", true)
  | 2 => ("CapitalCase$Parser", "text", "[B", true)
  | 3 => ("CapitalCase$Parser", "at", "I", false)
  | 4 => ("CapitalCase$Parser", "fault", "I", false)
  | 5 => ("CapitalCase$Parser", "faultAt", "I", false)
  | 6 => ("CapitalCase$Parser", "laterFault", "I", false)
  | 7 => ("CapitalCase$Parser", "laterFaultAt", "I", false)
  | 8 => ("CapitalCase$Parser", "names", "[I", true)
  | _ => ("CapitalCase$Parser", "nameCount", "I", false)
def tyX2 : Nat → FieldType := fun k => match k with
  | 0 => .object "CapitalCase$Script"
  | 1 => .object "CapitalCase$Tokens"
  | 2 => .array .byte
  | 3 => .int
  | 4 => .int
  | 5 => .int
  | 6 => .int
  | 7 => .int
  | 8 => .array .int
  | _ => .int
theorem nmX2 : ∀ a, a < 10 → ∀ b, b < 10 → a ≠ b → (TX2 a).2.1 ≠ (TX2 b).2.1 := by decide +kernel
theorem tyX2_ok : ∀ k, k < 10 → parseFieldDescriptor (TX2 k).2.2.1 = some (tyX2 k) := by decide +kernel
theorem inX2 : ∀ w ∈ u_ws RX2 TX2 10, w ∈ lw_tbl := fun w h => (goodIn_r (big := lw_tbl) (u_ws RX2 TX2 10) [293, 295, 297, 299, 301, 303, 305, 307, 309, 311] (by decide +kernel) (by decide +kernel) w h).1
def RX3 : String := "CapitalCase$Planner"
def TX3 : u_T := fun k => match k with
  | 0 => ("CapitalCase$Planner", "script", "LCapitalCase$Script;", true)
  | 1 => ("CapitalCase$Planner", "judge", "LCapitalCase$Judge;", true)
  | 2 => ("CapitalCase$Planner", "free", "[I", true)
  | 3 => ("CapitalCase$Planner", "picks", "[I", true)
  | 4 => ("CapitalCase$Planner", "pays", "[I", true)
  | 5 => ("CapitalCase$Planner", "clashes", "I", false)
  | 6 => ("CapitalCase$Planner", "most", "I", false)
  | 7 => ("CapitalCase$Planner", "mask", "I", false)
  | 8 => ("CapitalCase$Planner", "looked", "I", false)
  | 9 => ("CapitalCase$Planner", "givers", "[I", true)
  | 10 => ("CapitalCase$Planner", "ranks", "[I", true)
  | _ => ("CapitalCase$Planner", "giverCount", "[I", true)
def tyX3 : Nat → FieldType := fun k => match k with
  | 0 => .object "CapitalCase$Script"
  | 1 => .object "CapitalCase$Judge"
  | 2 => .array .int
  | 3 => .array .int
  | 4 => .array .int
  | 5 => .int
  | 6 => .int
  | 7 => .int
  | 8 => .int
  | 9 => .array .int
  | 10 => .array .int
  | _ => .array .int
theorem nmX3 : ∀ a, a < 12 → ∀ b, b < 12 → a ≠ b → (TX3 a).2.1 ≠ (TX3 b).2.1 := by decide +kernel
theorem tyX3_ok : ∀ k, k < 12 → parseFieldDescriptor (TX3 k).2.2.1 = some (tyX3 k) := by decide +kernel
theorem inX3 : ∀ w ∈ u_ws RX3 TX3 12, w ∈ lw_tbl := fun w h => (goodIn_r (big := lw_tbl) (u_ws RX3 TX3 12) [470, 472, 474, 476, 478, 480, 482, 484, 486, 488, 490, 492] (by decide +kernel) (by decide +kernel) w h).1
def RX4 : String := "CapitalCase$Press"
def TX4 : u_T := fun k => match k with
  | 0 => ("CapitalCase$Press", "script", "LCapitalCase$Script;", true)
  | _ => ("CapitalCase$Press", "judge", "LCapitalCase$Judge;", true)
def tyX4 : Nat → FieldType := fun k => match k with
  | 0 => .object "CapitalCase$Script"
  | _ => .object "CapitalCase$Judge"
theorem nmX4 : ∀ a, a < 2 → ∀ b, b < 2 → a ≠ b → (TX4 a).2.1 ≠ (TX4 b).2.1 := by decide +kernel
theorem tyX4_ok : ∀ k, k < 2 → parseFieldDescriptor (TX4 k).2.2.1 = some (tyX4 k) := by decide +kernel
theorem inX4 : ∀ w ∈ u_ws RX4 TX4 2, w ∈ lw_tbl := fun w h => (goodIn_r (big := lw_tbl) (u_ws RX4 TX4 2) [440, 442] (by decide +kernel) (by decide +kernel) w h).1
def RX5 : String := "CapitalCase$Prints"
def TX5 : u_T := fun k => match k with
  | 0 => ("CapitalCase$Prints", "letters", "[I", true)
  | 1 => ("CapitalCase$Prints", "wears", "[I", true)
  | 2 => ("CapitalCase$Prints", "sos", "[Z", true)
  | _ => ("CapitalCase$Prints", "count", "I", false)
def tyX5 : Nat → FieldType := fun k => match k with
  | 0 => .array .int
  | 1 => .array .int
  | 2 => .array .boolean
  | _ => .int
theorem nmX5 : ∀ a, a < 4 → ∀ b, b < 4 → a ≠ b → (TX5 a).2.1 ≠ (TX5 b).2.1 := by decide +kernel
theorem tyX5_ok : ∀ k, k < 4 → parseFieldDescriptor (TX5 k).2.2.1 = some (tyX5 k) := by decide +kernel
theorem inX5 : ∀ w ∈ u_ws RX5 TX5 4, w ∈ lw_tbl := fun w h => (goodIn_r (big := lw_tbl) (u_ws RX5 TX5 4) [406, 408, 410, 412] (by decide +kernel) (by decide +kernel) w h).1
def RX6 : String := "CapitalCase$Script"
def TX6 : u_T := fun k => match k with
  | 0 => ("CapitalCase$Script", "houses", "I", false)
  | 1 => ("CapitalCase$Script", "verses", "I", false)
  | 2 => ("CapitalCase$Script", "thieves", "I", false)
  | 3 => ("CapitalCase$Script", "seed", "I", false)
  | 4 => ("CapitalCase$Script", "spoils", "I", false)
  | 5 => ("CapitalCase$Script", "pieces", "[I", true)
  | 6 => ("CapitalCase$Script", "value", "[I", true)
  | 7 => ("CapitalCase$Script", "due", "[I", true)
  | 8 => ("CapitalCase$Script", "wide", "[I", true)
  | 9 => ("CapitalCase$Script", "wanted", "[I", true)
  | 10 => ("CapitalCase$Script", "needs", "[I", true)
  | 11 => ("CapitalCase$Script", "lawStart", "[I", true)
  | 12 => ("CapitalCase$Script", "step", "[I", true)
  | 13 => ("CapitalCase$Script", "operand", "[I", true)
  | _ => ("CapitalCase$Script", "steps", "I", false)
def tyX6 : Nat → FieldType := fun k => match k with
  | 0 => .int
  | 1 => .int
  | 2 => .int
  | 3 => .int
  | 4 => .int
  | 5 => .array .int
  | 6 => .array .int
  | 7 => .array .int
  | 8 => .array .int
  | 9 => .array .int
  | 10 => .array .int
  | 11 => .array .int
  | 12 => .array .int
  | 13 => .array .int
  | _ => .int
theorem nmX6 : ∀ a, a < 15 → ∀ b, b < 15 → a ≠ b → (TX6 a).2.1 ≠ (TX6 b).2.1 := by decide +kernel
theorem tyX6_ok : ∀ k, k < 15 → parseFieldDescriptor (TX6 k).2.2.1 = some (tyX6 k) := by decide +kernel
theorem inX6 : ∀ w ∈ u_ws RX6 TX6 15, w ∈ lw_tbl := fun w h => (goodIn_r (big := lw_tbl) (u_ws RX6 TX6 15) [221, 223, 227, 229, 225, 231, 233, 235, 237, 239, 241, 243, 245, 247, 249] (by decide +kernel) (by decide +kernel) w h).1
def RX7 : String := "CapitalCase$Tokens"
def TX7 : u_T := fun k => match k with
  | 0 => ("CapitalCase$Tokens", "kind", "[I", true)
  | 1 => ("CapitalCase$Tokens", "place", "[I", true)
  | _ => ("CapitalCase$Tokens", "size", "[I", true)
def tyX7 : Nat → FieldType := fun k => match k with
  | 0 => .array .int
  | 1 => .array .int
  | _ => .array .int
theorem nmX7 : ∀ a, a < 3 → ∀ b, b < 3 → a ≠ b → (TX7 a).2.1 ≠ (TX7 b).2.1 := by decide +kernel
theorem tyX7_ok : ∀ k, k < 3 → parseFieldDescriptor (TX7 k).2.2.1 = some (tyX7 k) := by decide +kernel
theorem inX7 : ∀ w ∈ u_ws RX7 TX7 3, w ∈ lw_tbl := fun w h => (goodIn_r (big := lw_tbl) (u_ws RX7 TX7 3) [274, 276, 278] (by decide +kernel) (by decide +kernel) w h).1
def RX8 : String := "CapitalCase$Town"
def TX8 : u_T := fun k => match k with
  | 0 => ("CapitalCase$Town", "has", "[I", true)
  | 1 => ("CapitalCase$Town", "used", "[I", true)
  | 2 => ("CapitalCase$Town", "worn", "[I", true)
  | 3 => ("CapitalCase$Town", "lent", "[I", true)
  | 4 => ("CapitalCase$Town", "from", "[I", true)
  | 5 => ("CapitalCase$Town", "set", "I", false)
  | 6 => ("CapitalCase$Town", "done", "I", false)
  | 7 => ("CapitalCase$Town", "day", "I", false)
  | 8 => ("CapitalCase$Town", "paid", "I", false)
  | _ => ("CapitalCase$Town", "gone", "I", false)
def tyX8 : Nat → FieldType := fun k => match k with
  | 0 => .array .int
  | 1 => .array .int
  | 2 => .array .int
  | 3 => .array .int
  | 4 => .array .int
  | 5 => .int
  | 6 => .int
  | 7 => .int
  | 8 => .int
  | _ => .int
theorem nmX8 : ∀ a, a < 10 → ∀ b, b < 10 → a ≠ b → (TX8 a).2.1 ≠ (TX8 b).2.1 := by decide +kernel
theorem tyX8_ok : ∀ k, k < 10 → parseFieldDescriptor (TX8 k).2.2.1 = some (tyX8 k) := by decide +kernel
theorem inX8 : ∀ w ∈ u_ws RX8 TX8 10, w ∈ lw_tbl := fun w h => (goodIn_r (big := lw_tbl) (u_ws RX8 TX8 10) [355, 357, 359, 361, 363, 365, 367, 369, 371, 373] (by decide +kernel) (by decide +kernel) w h).1
def RX9 : String := "CapitalCase$Trade"
def TX9 : u_T := fun k => match k with
  | 0 => ("CapitalCase$Trade", "script", "LCapitalCase$Script;", true)
  | 1 => ("CapitalCase$Trade", "bargains", "I", false)
  | _ => ("CapitalCase$Trade", "first", "I", false)
def tyX9 : Nat → FieldType := fun k => match k with
  | 0 => .object "CapitalCase$Script"
  | 1 => .int
  | _ => .int
theorem nmX9 : ∀ a, a < 3 → ∀ b, b < 3 → a ≠ b → (TX9 a).2.1 ≠ (TX9 b).2.1 := by decide +kernel
theorem tyX9_ok : ∀ k, k < 3 → parseFieldDescriptor (TX9 k).2.2.1 = some (tyX9 k) := by decide +kernel
theorem inX9 : ∀ w ∈ u_ws RX9 TX9 3, w ∈ lw_tbl := fun w h => (goodIn_r (big := lw_tbl) (u_ws RX9 TX9 3) [546, 548, 550] (by decide +kernel) (by decide +kernel) w h).1
def RX10 : String := "CapitalCase$TwoDays"
def TX10 : u_T := fun k => match k with
  | 0 => ("CapitalCase$TwoDays", "script", "LCapitalCase$Script;", true)
  | 1 => ("CapitalCase$TwoDays", "judge", "LCapitalCase$Judge;", true)
  | 2 => ("CapitalCase$TwoDays", "press", "LCapitalCase$Press;", true)
  | 3 => ("CapitalCase$TwoDays", "first", "LCapitalCase$Planner;", true)
  | 4 => ("CapitalCase$TwoDays", "second", "LCapitalCase$Planner;", true)
  | 5 => ("CapitalCase$TwoDays", "after", "LCapitalCase$Town;", true)
  | 6 => ("CapitalCase$TwoDays", "most", "I", false)
  | 7 => ("CapitalCase$TwoDays", "mask", "I", false)
  | _ => ("CapitalCase$TwoDays", "paysLater", "[I", true)
def tyX10 : Nat → FieldType := fun k => match k with
  | 0 => .object "CapitalCase$Script"
  | 1 => .object "CapitalCase$Judge"
  | 2 => .object "CapitalCase$Press"
  | 3 => .object "CapitalCase$Planner"
  | 4 => .object "CapitalCase$Planner"
  | 5 => .object "CapitalCase$Town"
  | 6 => .int
  | 7 => .int
  | _ => .array .int
theorem nmX10 : ∀ a, a < 9 → ∀ b, b < 9 → a ≠ b → (TX10 a).2.1 ≠ (TX10 b).2.1 := by decide +kernel
theorem tyX10_ok : ∀ k, k < 9 → parseFieldDescriptor (TX10 k).2.2.1 = some (tyX10 k) := by decide +kernel
theorem inX10 : ∀ w ∈ u_ws RX10 TX10 9, w ∈ lw_tbl := fun w h => (goodIn_r (big := lw_tbl) (u_ws RX10 TX10 9) [516, 518, 520, 522, 524, 526, 528, 530, 532] (by decide +kernel) (by decide +kernel) w h).1
def RX11 : String := "CapitalCase"
def TX11 : u_T := fun k => match k with
  | 0 => ("CapitalCase", "script", "LCapitalCase$Script;", true)
  | 1 => ("CapitalCase", "town", "LCapitalCase$Town;", true)
  | 2 => ("CapitalCase", "scratch", "LCapitalCase$Town;", true)
  | 3 => ("CapitalCase", "press", "LCapitalCase$Press;", true)
  | 4 => ("CapitalCase", "planner", "LCapitalCase$Planner;", true)
  | 5 => ("CapitalCase", "judge", "LCapitalCase$Judge;", true)
  | 6 => ("CapitalCase", "tapeSize", "I", false)
  | 7 => ("CapitalCase", "tape", "[B", true)
  | 8 => ("CapitalCase", "history", "LCapitalCase$History;", true)
  | 9 => ("CapitalCase", "faultPlace", "I", false)
  | 10 => ("CapitalCase", "parser", "LCapitalCase$Parser;", true)
  | 11 => ("CapitalCase", "slots", "[LCapitalCase$Town;", true)
  | 12 => ("CapitalCase", "held", "[Z", true)
  | 13 => ("CapitalCase", "prints", "LCapitalCase$Prints;", true)
  | 14 => ("CapitalCase", "pairOfDays", "LCapitalCase$TwoDays;", true)
  | _ => ("CapitalCase", "trade", "LCapitalCase$Trade;", true)
def tyX11 : Nat → FieldType := fun k => match k with
  | 0 => .object "CapitalCase$Script"
  | 1 => .object "CapitalCase$Town"
  | 2 => .object "CapitalCase$Town"
  | 3 => .object "CapitalCase$Press"
  | 4 => .object "CapitalCase$Planner"
  | 5 => .object "CapitalCase$Judge"
  | 6 => .int
  | 7 => .array .byte
  | 8 => .object "CapitalCase$History"
  | 9 => .int
  | 10 => .object "CapitalCase$Parser"
  | 11 => .array (.object "CapitalCase$Town")
  | 12 => .array .boolean
  | 13 => .object "CapitalCase$Prints"
  | 14 => .object "CapitalCase$TwoDays"
  | _ => .object "CapitalCase$Trade"
theorem nmX11 : ∀ a, a < 16 → ∀ b, b < 16 → a ≠ b → (TX11 a).2.1 ≠ (TX11 b).2.1 := by decide +kernel
theorem tyX11_ok : ∀ k, k < 16 → parseFieldDescriptor (TX11 k).2.2.1 = some (tyX11 k) := by decide +kernel
theorem inX11 : ∀ w ∈ u_ws RX11 TX11 16, w ∈ lw_tbl := fun w h => (goodIn_r (big := lw_tbl) (u_ws RX11 TX11 16) [575, 579, 581, 593, 595, 591, 571, 569, 583, 573, 577, 585, 587, 589, 597, 599] (by decide +kernel) (by decide +kernel) w h).1
def RX12 : String := "CapitalCaseModel"
def TX12 : u_T := fun k => match k with
  | 0 => ("CapitalCaseModel", "row", "[I", true)
  | 1 => ("CapitalCaseModel", "now", "[I", true)
  | 2 => ("CapitalCaseModel", "live", "I", false)
  | 3 => ("CapitalCaseModel", "houses", "[I", true)
  | 4 => ("CapitalCaseModel", "verses", "[I", true)
  | 5 => ("CapitalCaseModel", "seed", "[I", true)
  | 6 => ("CapitalCaseModel", "lots", "I", false)
  | 7 => ("CapitalCaseModel", "isStill", "Z", false)
  | 8 => ("CapitalCaseModel", "shut", "I", false)
  | 9 => ("CapitalCaseModel", "thieves", "[I", true)
  | 10 => ("CapitalCaseModel", "undos", "I", false)
  | 11 => ("CapitalCaseModel", "history", "[I", true)
  | 12 => ("CapitalCaseModel", "taped", "I", false)
  | 13 => ("CapitalCaseModel", "tape", "[B", true)
  | 14 => ("CapitalCaseModel", "paysBy", "[I", true)
  | 15 => ("CapitalCaseModel", "wearsBy", "[I", true)
  | 16 => ("CapitalCaseModel", "thrown", "I", false)
  | 17 => ("CapitalCaseModel", "text", "[B", true)
  | 18 => ("CapitalCaseModel", "size", "I", false)
  | 19 => ("CapitalCaseModel", "tKind", "[I", true)
  | 20 => ("CapitalCaseModel", "tPlace", "[I", true)
  | 21 => ("CapitalCaseModel", "tValue", "[I", true)
  | 22 => ("CapitalCaseModel", "tName", "[J", true)
  | 23 => ("CapitalCaseModel", "keys", "[J", true)
  | 24 => ("CapitalCaseModel", "tokens", "I", false)
  | 25 => ("CapitalCaseModel", "t", "I", false)
  | 26 => ("CapitalCaseModel", "open", "I", false)
  | 27 => ("CapitalCaseModel", "fault", "I", false)
  | 28 => ("CapitalCaseModel", "faultPlace", "I", false)
  | 29 => ("CapitalCaseModel", "worst", "I", false)
  | 30 => ("CapitalCaseModel", "worstPlace", "I", false)
  | 31 => ("CapitalCaseModel", "place", "I", false)
  | 32 => ("CapitalCaseModel", "side", "I", false)
  | 33 => ("CapitalCaseModel", "names", "I", false)
  | 34 => ("CapitalCaseModel", "nameOf", "[J", true)
  | 35 => ("CapitalCaseModel", "piecesTold", "[I", true)
  | 36 => ("CapitalCaseModel", "longOf", "[I", true)
  | 37 => ("CapitalCaseModel", "wantsOf", "[I", true)
  | 38 => ("CapitalCaseModel", "valueOf", "[I", true)
  | 39 => ("CapitalCaseModel", "dueOf", "[I", true)
  | 40 => ("CapitalCaseModel", "spoils", "[I", true)
  | 41 => ("CapitalCaseModel", "lawFirst", "[I", true)
  | 42 => ("CapitalCaseModel", "lawLast", "[I", true)
  | 43 => ("CapitalCaseModel", "branches", "I", false)
  | 44 => ("CapitalCaseModel", "hasTest", "[Z", true)
  | 45 => ("CapitalCaseModel", "testFrom", "[I", true)
  | 46 => ("CapitalCaseModel", "testMid", "[I", true)
  | 47 => ("CapitalCaseModel", "testTo", "[I", true)
  | 48 => ("CapitalCaseModel", "termTo", "[I", true)
  | 49 => ("CapitalCaseModel", "codes", "I", false)
  | 50 => ("CapitalCaseModel", "code", "[I", true)
  | 51 => ("CapitalCaseModel", "codeInt", "[I", true)
  | 52 => ("CapitalCaseModel", "letters", "[I", true)
  | 53 => ("CapitalCaseModel", "lettersMany", "I", false)
  | 54 => ("CapitalCaseModel", "waits", "[I", true)
  | 55 => ("CapitalCaseModel", "waiting", "I", false)
  | 56 => ("CapitalCaseModel", "variables", "[I", true)
  | 57 => ("CapitalCaseModel", "pile", "[I", true)
  | 58 => ("CapitalCaseModel", "isBroken", "Z", false)
  | 59 => ("CapitalCaseModel", "alikeMany", "I", false)
  | 60 => ("CapitalCaseModel", "wentNow", "[Z", true)
  | 61 => ("CapitalCaseModel", "ahead", "[I", true)
  | 62 => ("CapitalCaseModel", "bestSum", "I", false)
  | 63 => ("CapitalCaseModel", "bestSet", "I", false)
  | 64 => ("CapitalCaseModel", "tolds", "I", false)
  | 65 => ("CapitalCaseModel", "toldLetter", "[I", true)
  | 66 => ("CapitalCaseModel", "toldWorn", "[I", true)
  | 67 => ("CapitalCaseModel", "toldSo", "[Z", true)
  | 68 => ("CapitalCaseModel", "isHeld", "[Z", true)
  | _ => ("CapitalCaseModel", "heldRows", "[I", true)
def tyX12 : Nat → FieldType := fun k => match k with
  | 0 => .array .int
  | 1 => .array .int
  | 2 => .int
  | 3 => .array .int
  | 4 => .array .int
  | 5 => .array .int
  | 6 => .int
  | 7 => .boolean
  | 8 => .int
  | 9 => .array .int
  | 10 => .int
  | 11 => .array .int
  | 12 => .int
  | 13 => .array .byte
  | 14 => .array .int
  | 15 => .array .int
  | 16 => .int
  | 17 => .array .byte
  | 18 => .int
  | 19 => .array .int
  | 20 => .array .int
  | 21 => .array .int
  | 22 => .array .long
  | 23 => .array .long
  | 24 => .int
  | 25 => .int
  | 26 => .int
  | 27 => .int
  | 28 => .int
  | 29 => .int
  | 30 => .int
  | 31 => .int
  | 32 => .int
  | 33 => .int
  | 34 => .array .long
  | 35 => .array .int
  | 36 => .array .int
  | 37 => .array .int
  | 38 => .array .int
  | 39 => .array .int
  | 40 => .array .int
  | 41 => .array .int
  | 42 => .array .int
  | 43 => .int
  | 44 => .array .boolean
  | 45 => .array .int
  | 46 => .array .int
  | 47 => .array .int
  | 48 => .array .int
  | 49 => .int
  | 50 => .array .int
  | 51 => .array .int
  | 52 => .array .int
  | 53 => .int
  | 54 => .array .int
  | 55 => .int
  | 56 => .array .int
  | 57 => .array .int
  | 58 => .boolean
  | 59 => .int
  | 60 => .array .boolean
  | 61 => .array .int
  | 62 => .int
  | 63 => .int
  | 64 => .int
  | 65 => .array .int
  | 66 => .array .int
  | 67 => .array .boolean
  | 68 => .array .boolean
  | _ => .array .int
theorem nmX12 : ∀ a, a < 70 → ∀ b, b < 70 → a ≠ b → (TX12 a).2.1 ≠ (TX12 b).2.1 := by decide +kernel
theorem tyX12_ok : ∀ k, k < 70 → parseFieldDescriptor (TX12 k).2.2.1 = some (tyX12 k) := by decide +kernel
theorem inX12 : ∀ w ∈ u_ws RX12 TX12 70, w ∈ lw_tbl := fun w h => (goodIn_r (big := lw_tbl) (u_ws RX12 TX12 70) [1453, 1451, 1387, 1395, 1399, 1413, 1455, 1457, 1459, 1411, 1469, 1471, 1355, 1353, 1467, 1465, 1351, 1357, 1359, 1361, 1363, 1365, 1367, 1369, 1371, 1373, 1375, 1377, 1379, 1381, 1383, 1385, 1389, 1391, 1393, 1397, 1401, 1403, 1405, 1407, 1409, 1415, 1417, 1419, 1421, 1423, 1425, 1427, 1429, 1431, 1433, 1435, 1437, 1439, 1441, 1443, 1445, 1447, 1449, 1461, 1463, 1473, 1475, 1477, 1479, 1481, 1483, 1485, 1487, 1489] (by decide +kernel) (by decide +kernel) w h).1
abbrev vwCl : List vw_C := [(RX0, TX0, 3), (RX1, TX1, 3), (RX2, TX2, 10), (RX3, TX3, 12), (RX4, TX4, 2), (RX5, TX5, 4), (RX6, TX6, 15), (RX7, TX7, 3), (RX8, TX8, 10), (RX9, TX9, 3), (RX10, TX10, 9), (RX11, TX11, 16), (RX12, TX12, 70)]
