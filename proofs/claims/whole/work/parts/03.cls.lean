def RX0 : String := "WellQueue$Flow"
def TX0 : u_T := fun k => match k with
  | 0 => ("WellQueue$Flow", "line", "[I", true)
  | 1 => ("WellQueue$Flow", "fell", "[I", true)
  | 2 => ("WellQueue$Flow", "choices", "[I", true)
  | _ => ("WellQueue$Flow", "named", "[I", true)
def tyX0 : Nat → FieldType := fun k => match k with
  | 0 => .array .int
  | 1 => .array .int
  | 2 => .array .int
  | _ => .array .int
abbrev wsX00 : List Cond := u_ws RX0 TX0 4
theorem nmX0 : ∀ a, a < 4 → ∀ b, b < 4 → a ≠ b → (TX0 a).2.1 ≠ (TX0 b).2.1 := by decide +kernel
theorem tyX0_ok : ∀ k, k < 4 → parseFieldDescriptor (TX0 k).2.2.1 = some (tyX0 k) := by decide +kernel
def RX1 : String := "WellQueue$Law"
def TX1 : u_T := fun k => match k with
  | 0 => ("WellQueue$Law", "size", "I", false)
  | 1 => ("WellQueue$Law", "code", "[I", true)
  | _ => ("WellQueue$Law", "stack", "[I", true)
def tyX1 : Nat → FieldType := fun k => match k with
  | 0 => .int
  | 1 => .array .int
  | _ => .array .int
abbrev wsX10 : List Cond := u_ws RX1 TX1 3
theorem nmX1 : ∀ a, a < 3 → ∀ b, b < 3 → a ≠ b → (TX1 a).2.1 ≠ (TX1 b).2.1 := by decide +kernel
theorem tyX1_ok : ∀ k, k < 3 → parseFieldDescriptor (TX1 k).2.2.1 = some (tyX1 k) := by decide +kernel
def RX2 : String := "WellQueue$Orders"
def TX2 : u_T := fun k => match k with
  | 0 => ("WellQueue$Orders", "known", "Z", false)
  | 1 => ("WellQueue$Orders", "any", "Z", false)
  | 2 => ("WellQueue$Orders", "most", "I", false)
  | 3 => ("WellQueue$Orders", "many", "I", false)
  | 4 => ("WellQueue$Orders", "bestRow", "[I", true)
  | 5 => ("WellQueue$Orders", "least", "I", false)
  | 6 => ("WellQueue$Orders", "row", "[I", true)
  | 7 => ("WellQueue$Orders", "asked", "[I", true)
  | 8 => ("WellQueue$Orders", "told", "LWellQueue$Told;", false)
  | 9 => ("WellQueue$Orders", "state", "LWellQueue$State;", false)
  | _ => ("WellQueue$Orders", "flow", "LWellQueue$Flow;", false)
def tyX2 : Nat → FieldType := fun k => match k with
  | 0 => .boolean
  | 1 => .boolean
  | 2 => .int
  | 3 => .int
  | 4 => .array .int
  | 5 => .int
  | 6 => .array .int
  | 7 => .array .int
  | 8 => .object "WellQueue$Told"
  | 9 => .object "WellQueue$State"
  | _ => .object "WellQueue$Flow"
abbrev wsX20 : List Cond := u_ws RX2 TX2 11
theorem nmX2 : ∀ a, a < 11 → ∀ b, b < 11 → a ≠ b → (TX2 a).2.1 ≠ (TX2 b).2.1 := by decide +kernel
theorem tyX2_ok : ∀ k, k < 11 → parseFieldDescriptor (TX2 k).2.2.1 = some (tyX2 k) := by decide +kernel
def RX3 : String := "WellQueue$Plot"
def TX3 : u_T := fun k => match k with
  | 0 => ("WellQueue$Plot", "least", "I", false)
  | 1 => ("WellQueue$Plot", "worst", "[I", true)
  | 2 => ("WellQueue$Plot", "any", "Z", false)
  | 3 => ("WellQueue$Plot", "many", "I", false)
  | 4 => ("WellQueue$Plot", "victimPlace", "I", false)
  | 5 => ("WellQueue$Plot", "places", "[I", true)
  | 6 => ("WellQueue$Plot", "goods", "[I", true)
  | 7 => ("WellQueue$Plot", "told", "LWellQueue$Told;", false)
  | 8 => ("WellQueue$Plot", "state", "LWellQueue$State;", false)
  | _ => ("WellQueue$Plot", "flow", "LWellQueue$Flow;", false)
def tyX3 : Nat → FieldType := fun k => match k with
  | 0 => .int
  | 1 => .array .int
  | 2 => .boolean
  | 3 => .int
  | 4 => .int
  | 5 => .array .int
  | 6 => .array .int
  | 7 => .object "WellQueue$Told"
  | 8 => .object "WellQueue$State"
  | _ => .object "WellQueue$Flow"
abbrev wsX30 : List Cond := u_ws RX3 TX3 10
theorem nmX3 : ∀ a, a < 10 → ∀ b, b < 10 → a ≠ b → (TX3 a).2.1 ≠ (TX3 b).2.1 := by decide +kernel
theorem tyX3_ok : ∀ k, k < 10 → parseFieldDescriptor (TX3 k).2.2.1 = some (tyX3 k) := by decide +kernel
def RX4 : String := "WellQueue$Reader"
def TX4 : u_T := fun k => match k with
  | 0 => ("WellQueue$Reader", "fault", "I", false)
  | 1 => ("WellQueue$Reader", "faultPlace", "I", false)
  | 2 => ("WellQueue$Reader", "told", "LWellQueue$Told;", true)
  | 3 => ("WellQueue$Reader", "state", "LWellQueue$State;", true)
  | 4 => ("WellQueue$Reader", "list", "[C", true)
  | 5 => ("WellQueue$Reader", "text", "[B", false)
  | 6 => ("WellQueue$Reader", "length", "I", false)
  | 7 => ("WellQueue$Reader", "at", "I", false)
  | 8 => ("WellQueue$Reader", "kind", "I", false)
  | 9 => ("WellQueue$Reader", "start", "I", false)
  | _ => ("WellQueue$Reader", "number", "I", false)
def tyX4 : Nat → FieldType := fun k => match k with
  | 0 => .int
  | 1 => .int
  | 2 => .object "WellQueue$Told"
  | 3 => .object "WellQueue$State"
  | 4 => .array .char
  | 5 => .array .byte
  | 6 => .int
  | 7 => .int
  | 8 => .int
  | 9 => .int
  | _ => .int
abbrev wsX40 : List Cond := u_ws RX4 TX4 11
theorem nmX4 : ∀ a, a < 11 → ∀ b, b < 11 → a ≠ b → (TX4 a).2.1 ≠ (TX4 b).2.1 := by decide +kernel
theorem tyX4_ok : ∀ k, k < 11 → parseFieldDescriptor (TX4 k).2.2.1 = some (tyX4 k) := by decide +kernel
def RX5 : String := "WellQueue$Scene"
def TX5 : u_T := fun k => match k with
  | 0 => ("WellQueue$Scene", "told", "LWellQueue$Told;", true)
  | 1 => ("WellQueue$Scene", "state", "LWellQueue$State;", true)
  | 2 => ("WellQueue$Scene", "undoable", "I", false)
  | 3 => ("WellQueue$Scene", "eldest", "I", false)
  | _ => ("WellQueue$Scene", "kept", "[LWellQueue$State;", true)
def tyX5 : Nat → FieldType := fun k => match k with
  | 0 => .object "WellQueue$Told"
  | 1 => .object "WellQueue$State"
  | 2 => .int
  | 3 => .int
  | _ => .array (.object "WellQueue$State")
abbrev wsX50 : List Cond := u_ws RX5 TX5 5
theorem nmX5 : ∀ a, a < 5 → ∀ b, b < 5 → a ≠ b → (TX5 a).2.1 ≠ (TX5 b).2.1 := by decide +kernel
theorem tyX5_ok : ∀ k, k < 5 → parseFieldDescriptor (TX5 k).2.2.1 = some (tyX5 k) := by decide +kernel
def RX6 : String := "WellQueue$Secrets"
def TX6 : u_T := fun k => match k with
  | 0 => ("WellQueue$Secrets", "options", "[I", true)
  | 1 => ("WellQueue$Secrets", "guessed", "[I", true)
  | 2 => ("WellQueue$Secrets", "came", "[I", true)
  | 3 => ("WellQueue$Secrets", "toldOf", "[Z", true)
  | 4 => ("WellQueue$Secrets", "counted", "[J", false)
  | 5 => ("WellQueue$Secrets", "next", "[J", false)
  | 6 => ("WellQueue$Secrets", "told", "LWellQueue$Told;", false)
  | 7 => ("WellQueue$Secrets", "state", "LWellQueue$State;", false)
  | _ => ("WellQueue$Secrets", "flow", "LWellQueue$Flow;", false)
def tyX6 : Nat → FieldType := fun k => match k with
  | 0 => .array .int
  | 1 => .array .int
  | 2 => .array .int
  | 3 => .array .boolean
  | 4 => .array .long
  | 5 => .array .long
  | 6 => .object "WellQueue$Told"
  | 7 => .object "WellQueue$State"
  | _ => .object "WellQueue$Flow"
abbrev wsX60 : List Cond := u_ws RX6 TX6 9
theorem nmX6 : ∀ a, a < 9 → ∀ b, b < 9 → a ≠ b → (TX6 a).2.1 ≠ (TX6 b).2.1 := by decide +kernel
theorem tyX6_ok : ∀ k, k < 9 → parseFieldDescriptor (TX6 k).2.2.1 = some (tyX6 k) := by decide +kernel
def RX7 : String := "WellQueue$Shares"
def TX7 : u_T := fun k => match k with
  | 0 => ("WellQueue$Shares", "worths", "[I", true)
  | 1 => ("WellQueue$Shares", "asked", "[I", true)
  | 2 => ("WellQueue$Shares", "line", "[I", true)
  | 3 => ("WellQueue$Shares", "all", "I", false)
  | _ => ("WellQueue$Shares", "told", "LWellQueue$Told;", false)
def tyX7 : Nat → FieldType := fun k => match k with
  | 0 => .array .int
  | 1 => .array .int
  | 2 => .array .int
  | 3 => .int
  | _ => .object "WellQueue$Told"
abbrev wsX70 : List Cond := u_ws RX7 TX7 5
theorem nmX7 : ∀ a, a < 5 → ∀ b, b < 5 → a ≠ b → (TX7 a).2.1 ≠ (TX7 b).2.1 := by decide +kernel
theorem tyX7_ok : ∀ k, k < 5 → parseFieldDescriptor (TX7 k).2.2.1 = some (tyX7 k) := by decide +kernel
def RX8 : String := "WellQueue$State"
def TX8 : u_T := fun k => match k with
  | 0 => ("WellQueue$State", "standing", "I", false)
  | 1 => ("WellQueue$State", "day", "I", false)
  | 2 => ("WellQueue$State", "ring", "Z", false)
  | 3 => ("WellQueue$State", "slept", "I", false)
  | 4 => ("WellQueue$State", "queue", "[I", true)
  | 5 => ("WellQueue$State", "asks", "[I", true)
  | 6 => ("WellQueue$State", "gold", "[I", true)
  | 7 => ("WellQueue$State", "total", "[I", true)
  | _ => ("WellQueue$State", "sleptAsking", "[I", true)
def tyX8 : Nat → FieldType := fun k => match k with
  | 0 => .int
  | 1 => .int
  | 2 => .boolean
  | 3 => .int
  | 4 => .array .int
  | 5 => .array .int
  | 6 => .array .int
  | 7 => .array .int
  | _ => .array .int
abbrev wsX80 : List Cond := u_ws RX8 TX8 9
theorem nmX8 : ∀ a, a < 9 → ∀ b, b < 9 → a ≠ b → (TX8 a).2.1 ≠ (TX8 b).2.1 := by decide +kernel
theorem tyX8_ok : ∀ k, k < 9 → parseFieldDescriptor (TX8 k).2.2.1 = some (tyX8 k) := by decide +kernel
def RX9 : String := "WellQueue$Told"
def TX9 : u_T := fun k => match k with
  | 0 => ("WellQueue$Told", "lines", "I", false)
  | 1 => ("WellQueue$Told", "goods", "I", false)
  | 2 => ("WellQueue$Told", "people", "I", false)
  | 3 => ("WellQueue$Told", "aparts", "I", false)
  | 4 => ("WellQueue$Told", "way", "I", false)
  | 5 => ("WellQueue$Told", "ruin", "I", false)
  | 6 => ("WellQueue$Told", "night", "Z", false)
  | 7 => ("WellQueue$Told", "age", "[I", true)
  | 8 => ("WellQueue$Told", "apart", "[I", true)
  | 9 => ("WellQueue$Told", "law", "LWellQueue$Law;", true)
  | 10 => ("WellQueue$Told", "worths", "[I", true)
  | _ => ("WellQueue$Told", "likings", "[I", true)
def tyX9 : Nat → FieldType := fun k => match k with
  | 0 => .int
  | 1 => .int
  | 2 => .int
  | 3 => .int
  | 4 => .int
  | 5 => .int
  | 6 => .boolean
  | 7 => .array .int
  | 8 => .array .int
  | 9 => .object "WellQueue$Law"
  | 10 => .array .int
  | _ => .array .int
abbrev wsX90 : List Cond := u_ws RX9 TX9 12
theorem nmX9 : ∀ a, a < 12 → ∀ b, b < 12 → a ≠ b → (TX9 a).2.1 ≠ (TX9 b).2.1 := by decide +kernel
theorem tyX9_ok : ∀ k, k < 12 → parseFieldDescriptor (TX9 k).2.2.1 = some (tyX9 k) := by decide +kernel
def RX10 : String := "WellQueue$Tray"
def TX10 : u_T := fun k => match k with
  | 0 => ("WellQueue$Tray", "missing", "Z", false)
  | 1 => ("WellQueue$Tray", "many", "I", false)
  | 2 => ("WellQueue$Tray", "sort", "I", false)
  | _ => ("WellQueue$Tray", "numbers", "[J", true)
def tyX10 : Nat → FieldType := fun k => match k with
  | 0 => .boolean
  | 1 => .int
  | 2 => .int
  | _ => .array .long
abbrev wsX100 : List Cond := u_ws RX10 TX10 4
theorem nmX10 : ∀ a, a < 4 → ∀ b, b < 4 → a ≠ b → (TX10 a).2.1 ≠ (TX10 b).2.1 := by decide +kernel
theorem tyX10_ok : ∀ k, k < 4 → parseFieldDescriptor (TX10 k).2.2.1 = some (tyX10 k) := by decide +kernel
def RX11 : String := "WellQueue"
def TX11 : u_T := fun k => match k with
  | 0 => ("WellQueue", "tape", "[B", true)
  | 1 => ("WellQueue", "taped", "I", false)
  | 2 => ("WellQueue", "fault", "I", false)
  | 3 => ("WellQueue", "faultPlace", "I", false)
  | 4 => ("WellQueue", "now", "LWellQueue$Scene;", true)
  | 5 => ("WellQueue", "told", "LWellQueue$Told;", true)
  | 6 => ("WellQueue", "state", "LWellQueue$State;", true)
  | 7 => ("WellQueue", "trial", "LWellQueue$State;", true)
  | 8 => ("WellQueue", "images", "[LWellQueue$Scene;", true)
  | 9 => ("WellQueue", "imaged", "[Z", true)
  | 10 => ("WellQueue", "trays", "[LWellQueue$Tray;", true)
  | 11 => ("WellQueue", "reader", "LWellQueue$Reader;", true)
  | 12 => ("WellQueue", "flow", "LWellQueue$Flow;", true)
  | 13 => ("WellQueue", "orderings", "LWellQueue$Orders;", true)
  | 14 => ("WellQueue", "plotting", "LWellQueue$Plot;", true)
  | 15 => ("WellQueue", "sharing", "LWellQueue$Shares;", true)
  | 16 => ("WellQueue", "guesses", "LWellQueue$Secrets;", true)
  | 17 => ("WellQueue", "rounds", "I", false)
  | 18 => ("WellQueue", "quiet", "Z", false)
  | _ => ("WellQueue", "drawn", "I", false)
def tyX11 : Nat → FieldType := fun k => match k with
  | 0 => .array .byte
  | 1 => .int
  | 2 => .int
  | 3 => .int
  | 4 => .object "WellQueue$Scene"
  | 5 => .object "WellQueue$Told"
  | 6 => .object "WellQueue$State"
  | 7 => .object "WellQueue$State"
  | 8 => .array (.object "WellQueue$Scene")
  | 9 => .array .boolean
  | 10 => .array (.object "WellQueue$Tray")
  | 11 => .object "WellQueue$Reader"
  | 12 => .object "WellQueue$Flow"
  | 13 => .object "WellQueue$Orders"
  | 14 => .object "WellQueue$Plot"
  | 15 => .object "WellQueue$Shares"
  | 16 => .object "WellQueue$Secrets"
  | 17 => .int
  | 18 => .boolean
  | _ => .int
abbrev wsX110 : List Cond := u_ws RX11 TX11 20
theorem nmX11 : ∀ a, a < 20 → ∀ b, b < 20 → a ≠ b → (TX11 a).2.1 ≠ (TX11 b).2.1 := by decide +kernel
theorem tyX11_ok : ∀ k, k < 20 → parseFieldDescriptor (TX11 k).2.2.1 = some (tyX11 k) := by decide +kernel
def RX12 : String := "WellQueueModel"
def TX12 : u_T := fun k => match k with
  | 0 => ("WellQueueModel", "known", "[I", true)
  | 1 => ("WellQueueModel", "fresh", "[I", true)
  | 2 => ("WellQueueModel", "images", "[I", true)
  | 3 => ("WellQueueModel", "isImage", "[Z", true)
  | 4 => ("WellQueueModel", "thrown", "I", false)
  | 5 => ("WellQueueModel", "tape", "[I", true)
  | 6 => ("WellQueueModel", "taped", "I", false)
  | 7 => ("WellQueueModel", "length", "I", false)
  | 8 => ("WellQueueModel", "head", "I", false)
  | 9 => ("WellQueueModel", "begin", "I", false)
  | 10 => ("WellQueueModel", "token", "I", false)
  | 11 => ("WellQueueModel", "value", "I", false)
  | 12 => ("WellQueueModel", "bad", "I", false)
  | 13 => ("WellQueueModel", "badPlace", "I", false)
  | 14 => ("WellQueueModel", "faultKind", "I", false)
  | 15 => ("WellQueueModel", "faultPlace", "I", false)
  | 16 => ("WellQueueModel", "deep", "I", false)
  | 17 => ("WellQueueModel", "stack", "[I", true)
  | 18 => ("WellQueueModel", "asked", "[I", true)
  | 19 => ("WellQueueModel", "fell", "[I", true)
  | 20 => ("WellQueueModel", "levels", "[I", true)
  | 21 => ("WellQueueModel", "tradeHalf", "I", false)
  | 22 => ("WellQueueModel", "tradePayer", "I", false)
  | 23 => ("WellQueueModel", "tradePaid", "I", false)
  | 24 => ("WellQueueModel", "state", "I", false)
  | 25 => ("WellQueueModel", "bestRow", "[I", true)
  | 26 => ("WellQueueModel", "bestFall", "I", false)
  | 27 => ("WellQueueModel", "orderMany", "I", false)
  | 28 => ("WellQueueModel", "orderLeast", "I", false)
  | 29 => ("WellQueueModel", "isOrder", "Z", false)
  | 30 => ("WellQueueModel", "plotters", "[I", true)
  | 31 => ("WellQueueModel", "plotGoods", "[I", true)
  | 32 => ("WellQueueModel", "plotBest", "[I", true)
  | 33 => ("WellQueueModel", "plotMany", "I", false)
  | 34 => ("WellQueueModel", "plotLeast", "I", false)
  | 35 => ("WellQueueModel", "isPlot", "Z", false)
  | 36 => ("WellQueueModel", "promised", "[I", true)
  | 37 => ("WellQueueModel", "fellThen", "[I", true)
  | 38 => ("WellQueueModel", "guardFall", "I", false)
  | 39 => ("WellQueueModel", "nowAsked", "[I", true)
  | 40 => ("WellQueueModel", "row", "[I", true)
  | 41 => ("WellQueueModel", "setWorth", "[I", true)
  | 42 => ("WellQueueModel", "rowBest", "I", false)
  | 43 => ("WellQueueModel", "isRow", "Z", false)
  | 44 => ("WellQueueModel", "ruinedIn", "[I", true)
  | 45 => ("WellQueueModel", "secretBits", "[I", true)
  | 46 => ("WellQueueModel", "secretMany", "J", false)
  | 47 => ("WellQueueModel", "tSort", "[I", true)
  | 48 => ("WellQueueModel", "tMany", "[I", true)
  | _ => ("WellQueueModel", "numbers", "[J", true)
def tyX12 : Nat → FieldType := fun k => match k with
  | 0 => .array .int
  | 1 => .array .int
  | 2 => .array .int
  | 3 => .array .boolean
  | 4 => .int
  | 5 => .array .int
  | 6 => .int
  | 7 => .int
  | 8 => .int
  | 9 => .int
  | 10 => .int
  | 11 => .int
  | 12 => .int
  | 13 => .int
  | 14 => .int
  | 15 => .int
  | 16 => .int
  | 17 => .array .int
  | 18 => .array .int
  | 19 => .array .int
  | 20 => .array .int
  | 21 => .int
  | 22 => .int
  | 23 => .int
  | 24 => .int
  | 25 => .array .int
  | 26 => .int
  | 27 => .int
  | 28 => .int
  | 29 => .boolean
  | 30 => .array .int
  | 31 => .array .int
  | 32 => .array .int
  | 33 => .int
  | 34 => .int
  | 35 => .boolean
  | 36 => .array .int
  | 37 => .array .int
  | 38 => .int
  | 39 => .array .int
  | 40 => .array .int
  | 41 => .array .int
  | 42 => .int
  | 43 => .boolean
  | 44 => .array .int
  | 45 => .array .int
  | 46 => .long
  | 47 => .array .int
  | 48 => .array .int
  | _ => .array .long
abbrev wsX120 : List Cond := u_ws RX12 TX12 50
theorem nmX12 : ∀ a, a < 50 → ∀ b, b < 50 → a ≠ b → (TX12 a).2.1 ≠ (TX12 b).2.1 := by decide +kernel
theorem tyX12_ok : ∀ k, k < 50 → parseFieldDescriptor (TX12 k).2.2.1 = some (tyX12 k) := by decide +kernel
def RL : String := "WellQueueLaw"
abbrev vwCl : List vw_C := [(RX0, TX0, 4), (RX1, TX1, 3), (RX2, TX2, 11), (RX3, TX3, 10), (RX4, TX4, 11), (RX5, TX5, 5), (RX6, TX6, 9), (RX7, TX7, 5), (RX8, TX8, 9), (RX9, TX9, 12), (RX10, TX10, 4), (RX11, TX11, 20), (RX12, TX12, 50)]
