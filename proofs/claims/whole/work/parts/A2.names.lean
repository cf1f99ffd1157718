/-! classes and fields (printed names) -/
theorem goodIn_r {big : List Cond} (ws : List Cond) (ps : List Nat) (hp : ws = ps.filterMap (fun i => big[i]?)) (h : ws.all goodWord = true) : GoodIn big ws := by
  intro w hw
  have h1 := List.all_eq_true.mp h w hw
  rw [hp] at hw
  obtain ⟨i, -, hi⟩ := List.mem_filterMap.mp hw
  have hm : w ∈ big := by first | exact List.mem_of_getElem? hi | exact List.getElem?_mem hi
  exact ⟨hm, good_of_word h1⟩
def RX0 : String := "FathomNight$Catch"
def TX0 : u_T := fun k => match k with
  | 0 => ("FathomNight$Catch", "rows", "I", false)
  | _ => ("FathomNight$Catch", "row", "[I", true)
def tyX0 : Nat → FieldType := fun k => match k with
  | 0 => .int
  | _ => .array .int
theorem nmX0 : ∀ a, a < 2 → ∀ b, b < 2 → a ≠ b → (TX0 a).2.1 ≠ (TX0 b).2.1 := by decide +kernel
theorem tyX0_ok : ∀ k, k < 2 → parseFieldDescriptor (TX0 k).2.2.1 = some (tyX0 k) := by decide +kernel
theorem tyX0_fl : ∀ k, k < 2 → rTyOK (tyX0 k) = true := by decide +kernel
def RX1 : String := "FathomNight$Law"
def TX1 : u_T := fun k => match k with
  | 0 => ("FathomNight$Law", "mark", "I", false)
  | 1 => ("FathomNight$Law", "cap", "I", false)
  | 2 => ("FathomNight$Law", "fine", "I", false)
  | 3 => ("FathomNight$Law", "free", "I", false)
  | 4 => ("FathomNight$Law", "shared", "Z", false)
  | _ => ("FathomNight$Law", "rates", "[I", true)
def tyX1 : Nat → FieldType := fun k => match k with
  | 0 => .int
  | 1 => .int
  | 2 => .int
  | 3 => .int
  | 4 => .boolean
  | _ => .array .int
theorem nmX1 : ∀ a, a < 6 → ∀ b, b < 6 → a ≠ b → (TX1 a).2.1 ≠ (TX1 b).2.1 := by decide +kernel
theorem tyX1_ok : ∀ k, k < 6 → parseFieldDescriptor (TX1 k).2.2.1 = some (tyX1 k) := by decide +kernel
theorem tyX1_fl : ∀ k, k < 6 → rTyOK (tyX1 k) = true := by decide +kernel
def RX2 : String := "FathomNight$Night"
def TX2 : u_T := fun k => match k with
  | 0 => ("FathomNight$Night", "street", "LFathomNight$Street;", false)
  | 1 => ("FathomNight$Night", "law", "LFathomNight$Law;", false)
  | 2 => ("FathomNight$Night", "trail", "LFathomNight$Trail;", false)
  | 3 => ("FathomNight$Night", "depths", "[I", true)
  | 4 => ("FathomNight$Night", "standin", "[I", true)
  | 5 => ("FathomNight$Night", "dues", "[I", true)
  | _ => ("FathomNight$Night", "bedReadings", "[I", true)
def tyX2 : Nat → FieldType := fun k => match k with
  | 0 => .object "FathomNight$Street"
  | 1 => .object "FathomNight$Law"
  | 2 => .object "FathomNight$Trail"
  | 3 => .array .int
  | 4 => .array .int
  | 5 => .array .int
  | _ => .array .int
theorem nmX2 : ∀ a, a < 7 → ∀ b, b < 7 → a ≠ b → (TX2 a).2.1 ≠ (TX2 b).2.1 := by decide +kernel
theorem tyX2_ok : ∀ k, k < 7 → parseFieldDescriptor (TX2 k).2.2.1 = some (tyX2 k) := by decide +kernel
theorem tyX2_fl : ∀ k, k < 7 → rTyOK (tyX2 k) = true := by decide +kernel
def RX3 : String := "FathomNight$Plans"
def TX3 : u_T := fun k => match k with
  | 0 => ("FathomNight$Plans", "night", "LFathomNight$Night;", true)
  | 1 => ("FathomNight$Plans", "changed", "LFathomNight$Street;", true)
  | 2 => ("FathomNight$Plans", "best", "I", false)
  | 3 => ("FathomNight$Plans", "bestAt", "I", false)
  | 4 => ("FathomNight$Plans", "bestRow", "[I", true)
  | 5 => ("FathomNight$Plans", "found", "I", false)
  | 6 => ("FathomNight$Plans", "drawnDue", "[I", true)
  | 7 => ("FathomNight$Plans", "row", "[I", true)
  | 8 => ("FathomNight$Plans", "lain", "[I", true)
  | 9 => ("FathomNight$Plans", "alone", "[I", true)
  | _ => ("FathomNight$Plans", "beside", "[I", true)
def tyX3 : Nat → FieldType := fun k => match k with
  | 0 => .object "FathomNight$Night"
  | 1 => .object "FathomNight$Street"
  | 2 => .int
  | 3 => .int
  | 4 => .array .int
  | 5 => .int
  | 6 => .array .int
  | 7 => .array .int
  | 8 => .array .int
  | 9 => .array .int
  | _ => .array .int
theorem nmX3 : ∀ a, a < 11 → ∀ b, b < 11 → a ≠ b → (TX3 a).2.1 ≠ (TX3 b).2.1 := by decide +kernel
theorem tyX3_ok : ∀ k, k < 11 → parseFieldDescriptor (TX3 k).2.2.1 = some (tyX3 k) := by decide +kernel
theorem tyX3_fl : ∀ k, k < 11 → rTyOK (tyX3 k) = true := by decide +kernel
def RX4 : String := "FathomNight$Reader"
def TX4 : u_T := fun k => match k with
  | 0 => ("FathomNight$Reader", "tape", "[B", true)
  | 1 => ("FathomNight$Reader", "length", "I", false)
  | 2 => ("FathomNight$Reader", "at", "I", false)
  | 3 => ("FathomNight$Reader", "kind", "I", false)
  | 4 => ("FathomNight$Reader", "start", "I", false)
  | _ => ("FathomNight$Reader", "number", "I", false)
def tyX4 : Nat → FieldType := fun k => match k with
  | 0 => .array .byte
  | 1 => .int
  | 2 => .int
  | 3 => .int
  | 4 => .int
  | _ => .int
theorem nmX4 : ∀ a, a < 6 → ∀ b, b < 6 → a ≠ b → (TX4 a).2.1 ≠ (TX4 b).2.1 := by decide +kernel
theorem tyX4_ok : ∀ k, k < 6 → parseFieldDescriptor (TX4 k).2.2.1 = some (tyX4 k) := by decide +kernel
theorem tyX4_fl : ∀ k, k < 6 → rTyOK (tyX4 k) = true := by decide +kernel
def RX5 : String := "FathomNight$Round"
def TX5 : u_T := fun k => match k with
  | 0 => ("FathomNight$Round", "house", "I", false)
  | 1 => ("FathomNight$Round", "unit", "I", false)
  | 2 => ("FathomNight$Round", "acts", "I", false)
  | 3 => ("FathomNight$Round", "kind", "[I", true)
  | _ => ("FathomNight$Round", "number", "[I", true)
def tyX5 : Nat → FieldType := fun k => match k with
  | 0 => .int
  | 1 => .int
  | 2 => .int
  | 3 => .array .int
  | _ => .array .int
theorem nmX5 : ∀ a, a < 5 → ∀ b, b < 5 → a ≠ b → (TX5 a).2.1 ≠ (TX5 b).2.1 := by decide +kernel
theorem tyX5_ok : ∀ k, k < 5 → parseFieldDescriptor (TX5 k).2.2.1 = some (tyX5 k) := by decide +kernel
theorem tyX5_fl : ∀ k, k < 5 → rTyOK (tyX5 k) = true := by decide +kernel
def RX6 : String := "FathomNight$Scribe"
def TX6 : u_T := fun k => match k with
  | 0 => ("FathomNight$Scribe", "reader", "LFathomNight$Reader;", true)
  | 1 => ("FathomNight$Scribe", "numbers", "[I", true)
  | 2 => ("FathomNight$Scribe", "street", "LFathomNight$Street;", true)
  | 3 => ("FathomNight$Scribe", "law", "LFathomNight$Law;", true)
  | 4 => ("FathomNight$Scribe", "round", "LFathomNight$Round;", true)
  | 5 => ("FathomNight$Scribe", "caught", "LFathomNight$Catch;", true)
  | 6 => ("FathomNight$Scribe", "fault", "I", false)
  | 7 => ("FathomNight$Scribe", "place", "I", false)
  | 8 => ("FathomNight$Scribe", "housesToldOf", "I", false)
  | _ => ("FathomNight$Scribe", "sleepersToldOf", "I", false)
def tyX6 : Nat → FieldType := fun k => match k with
  | 0 => .object "FathomNight$Reader"
  | 1 => .array .int
  | 2 => .object "FathomNight$Street"
  | 3 => .object "FathomNight$Law"
  | 4 => .object "FathomNight$Round"
  | 5 => .object "FathomNight$Catch"
  | 6 => .int
  | 7 => .int
  | 8 => .int
  | _ => .int
theorem nmX6 : ∀ a, a < 10 → ∀ b, b < 10 → a ≠ b → (TX6 a).2.1 ≠ (TX6 b).2.1 := by decide +kernel
theorem tyX6_ok : ∀ k, k < 10 → parseFieldDescriptor (TX6 k).2.2.1 = some (tyX6 k) := by decide +kernel
theorem tyX6_fl : ∀ k, k < 10 → rTyOK (tyX6 k) = true := by decide +kernel
def RX7 : String := "FathomNight$Street"
def TX7 : u_T := fun k => match k with
  | 0 => ("FathomNight$Street", "houses", "I", false)
  | 1 => ("FathomNight$Street", "cats", "I", false)
  | 2 => ("FathomNight$Street", "doors", "[I", true)
  | 3 => ("FathomNight$Street", "sleepers", "I", false)
  | 4 => ("FathomNight$Street", "manner", "[I", true)
  | 5 => ("FathomNight$Street", "house", "[I", true)
  | 6 => ("FathomNight$Street", "bed", "[I", true)
  | 7 => ("FathomNight$Street", "lies", "[I", true)
  | 8 => ("FathomNight$Street", "rises", "[I", true)
  | 9 => ("FathomNight$Street", "sink", "[I", true)
  | 10 => ("FathomNight$Street", "deep", "[I", true)
  | 11 => ("FathomNight$Street", "poppy", "[I", true)
  | 12 => ("FathomNight$Street", "stands", "[I", true)
  | 13 => ("FathomNight$Street", "wines", "I", false)
  | 14 => ("FathomNight$Street", "drinker", "[I", true)
  | _ => ("FathomNight$Street", "drunkAt", "[I", true)
def tyX7 : Nat → FieldType := fun k => match k with
  | 0 => .int
  | 1 => .int
  | 2 => .array .int
  | 3 => .int
  | 4 => .array .int
  | 5 => .array .int
  | 6 => .array .int
  | 7 => .array .int
  | 8 => .array .int
  | 9 => .array .int
  | 10 => .array .int
  | 11 => .array .int
  | 12 => .array .int
  | 13 => .int
  | 14 => .array .int
  | _ => .array .int
theorem nmX7 : ∀ a, a < 16 → ∀ b, b < 16 → a ≠ b → (TX7 a).2.1 ≠ (TX7 b).2.1 := by decide +kernel
theorem tyX7_ok : ∀ k, k < 16 → parseFieldDescriptor (TX7 k).2.2.1 = some (tyX7 k) := by decide +kernel
theorem tyX7_fl : ∀ k, k < 16 → rTyOK (tyX7 k) = true := by decide +kernel
def RX8 : String := "FathomNight$Told"
def TX8 : u_T := fun k => match k with
  | 0 => ("FathomNight$Told", "tape", "[B", true)
  | 1 => ("FathomNight$Told", "length", "I", false)
  | 2 => ("FathomNight$Told", "fault", "I", false)
  | 3 => ("FathomNight$Told", "place", "I", false)
  | 4 => ("FathomNight$Told", "counts", "[I", true)
  | 5 => ("FathomNight$Told", "streets", "[LFathomNight$Street;", true)
  | 6 => ("FathomNight$Told", "laws", "[LFathomNight$Law;", true)
  | 7 => ("FathomNight$Told", "rounds", "[LFathomNight$Round;", true)
  | _ => ("FathomNight$Told", "catches", "[LFathomNight$Catch;", true)
def tyX8 : Nat → FieldType := fun k => match k with
  | 0 => .array .byte
  | 1 => .int
  | 2 => .int
  | 3 => .int
  | 4 => .array .int
  | 5 => .array (.object "FathomNight$Street")
  | 6 => .array (.object "FathomNight$Law")
  | 7 => .array (.object "FathomNight$Round")
  | _ => .array (.object "FathomNight$Catch")
theorem nmX8 : ∀ a, a < 9 → ∀ b, b < 9 → a ≠ b → (TX8 a).2.1 ≠ (TX8 b).2.1 := by decide +kernel
theorem tyX8_ok : ∀ k, k < 9 → parseFieldDescriptor (TX8 k).2.2.1 = some (tyX8 k) := by decide +kernel
theorem tyX8_fl : ∀ k, k < 9 → rTyOK (tyX8 k) = true := by decide +kernel
def RX9 : String := "FathomNight$Trail"
def TX9 : u_T := fun k => match k with
  | 0 => ("FathomNight$Trail", "house", "I", false)
  | 1 => ("FathomNight$Trail", "unit", "I", false)
  | 2 => ("FathomNight$Trail", "stop", "I", false)
  | 3 => ("FathomNight$Trail", "came", "[I", true)
  | 4 => ("FathomNight$Trail", "sounded", "[I", true)
  | 5 => ("FathomNight$Trail", "times", "[I", true)
  | 6 => ("FathomNight$Trail", "soundedAt", "[I", true)
  | _ => ("FathomNight$Trail", "soundings", "I", false)
def tyX9 : Nat → FieldType := fun k => match k with
  | 0 => .int
  | 1 => .int
  | 2 => .int
  | 3 => .array .int
  | 4 => .array .int
  | 5 => .array .int
  | 6 => .array .int
  | _ => .int
theorem nmX9 : ∀ a, a < 8 → ∀ b, b < 8 → a ≠ b → (TX9 a).2.1 ≠ (TX9 b).2.1 := by decide +kernel
theorem tyX9_ok : ∀ k, k < 8 → parseFieldDescriptor (TX9 k).2.2.1 = some (tyX9 k) := by decide +kernel
theorem tyX9_fl : ∀ k, k < 8 → rTyOK (tyX9 k) = true := by decide +kernel
def RX10 : String := "FathomNight$Ways"
def TX10 : u_T := fun k => match k with
  | 0 => ("FathomNight$Ways", "soldSum", "I", false)
  | 1 => ("FathomNight$Ways", "soldHouses", "I", false)
  | 2 => ("FathomNight$Ways", "soldRow", "[I", true)
  | 3 => ("FathomNight$Ways", "street", "LFathomNight$Street;", false)
  | 4 => ("FathomNight$Ways", "row", "[I", true)
  | 5 => ("FathomNight$Ways", "charges", "[I", true)
  | 6 => ("FathomNight$Ways", "most", "[I", true)
  | 7 => ("FathomNight$Ways", "above", "[I", true)
  | 8 => ("FathomNight$Ways", "now", "[J", false)
  | 9 => ("FathomNight$Ways", "next", "[J", false)
  | 10 => ("FathomNight$Ways", "ended", "[J", true)
  | 11 => ("FathomNight$Ways", "fewest", "[I", true)
  | _ => ("FathomNight$Ways", "fewestBySet", "[I", true)
def tyX10 : Nat → FieldType := fun k => match k with
  | 0 => .int
  | 1 => .int
  | 2 => .array .int
  | 3 => .object "FathomNight$Street"
  | 4 => .array .int
  | 5 => .array .int
  | 6 => .array .int
  | 7 => .array .int
  | 8 => .array .long
  | 9 => .array .long
  | 10 => .array .long
  | 11 => .array .int
  | _ => .array .int
theorem nmX10 : ∀ a, a < 13 → ∀ b, b < 13 → a ≠ b → (TX10 a).2.1 ≠ (TX10 b).2.1 := by decide +kernel
theorem tyX10_ok : ∀ k, k < 13 → parseFieldDescriptor (TX10 k).2.2.1 = some (tyX10 k) := by decide +kernel
theorem tyX10_fl : ∀ k, k < 13 → rTyOK (tyX10 k) = true := by decide +kernel
def RX11 : String := "FathomNight"
def TX11 : u_T := fun k => match k with
  | 0 => ("FathomNight", "told", "LFathomNight$Told;", true)
  | 1 => ("FathomNight", "images", "[LFathomNight$Told;", true)
  | 2 => ("FathomNight", "scribe", "LFathomNight$Scribe;", true)
  | 3 => ("FathomNight", "noLaw", "LFathomNight$Law;", true)
  | 4 => ("FathomNight", "trail", "LFathomNight$Trail;", true)
  | 5 => ("FathomNight", "still", "LFathomNight$Trail;", true)
  | 6 => ("FathomNight", "night", "LFathomNight$Night;", true)
  | 7 => ("FathomNight", "plans", "LFathomNight$Plans;", true)
  | _ => ("FathomNight", "ways", "LFathomNight$Ways;", true)
def tyX11 : Nat → FieldType := fun k => match k with
  | 0 => .object "FathomNight$Told"
  | 1 => .array (.object "FathomNight$Told")
  | 2 => .object "FathomNight$Scribe"
  | 3 => .object "FathomNight$Law"
  | 4 => .object "FathomNight$Trail"
  | 5 => .object "FathomNight$Trail"
  | 6 => .object "FathomNight$Night"
  | 7 => .object "FathomNight$Plans"
  | _ => .object "FathomNight$Ways"
theorem nmX11 : ∀ a, a < 9 → ∀ b, b < 9 → a ≠ b → (TX11 a).2.1 ≠ (TX11 b).2.1 := by decide +kernel
theorem tyX11_ok : ∀ k, k < 9 → parseFieldDescriptor (TX11 k).2.2.1 = some (tyX11 k) := by decide +kernel
theorem tyX11_fl : ∀ k, k < 9 → rTyOK (tyX11 k) = true := by decide +kernel
def RX12 : String := "FathomNightModel"
def TX12 : u_T := fun k => match k with
  | 0 => ("FathomNightModel", "all", "[I", true)
  | 1 => ("FathomNightModel", "has", "[Z", true)
  | 2 => ("FathomNightModel", "size", "I", false)
  | 3 => ("FathomNightModel", "next", "I", false)
  | 4 => ("FathomNightModel", "where", "I", false)
  | 5 => ("FathomNightModel", "token", "I", false)
  | 6 => ("FathomNightModel", "number", "I", false)
  | 7 => ("FathomNightModel", "word", "I", false)
  | 8 => ("FathomNightModel", "wrong", "Z", false)
  | 9 => ("FathomNightModel", "farHouse", "I", false)
  | 10 => ("FathomNightModel", "farSleeper", "I", false)
  | 11 => ("FathomNightModel", "read", "[I", true)
  | 12 => ("FathomNightModel", "s0", "I", false)
  | 13 => ("FathomNightModel", "lies", "[I", true)
  | 14 => ("FathomNightModel", "rises", "[I", true)
  | 15 => ("FathomNightModel", "standIn", "[I", true)
  | 16 => ("FathomNightModel", "drinks", "[I", true)
  | 17 => ("FathomNightModel", "drunk", "[I", true)
  | 18 => ("FathomNightModel", "wined", "I", false)
  | 19 => ("FathomNightModel", "alarmed", "I", false)
  | 20 => ("FathomNightModel", "alarm", "I", false)
  | 21 => ("FathomNightModel", "alarm2", "I", false)
  | 22 => ("FathomNightModel", "woken", "[I", true)
  | 23 => ("FathomNightModel", "l0", "I", false)
  | 24 => ("FathomNightModel", "r0", "I", false)
  | 25 => ("FathomNightModel", "at", "I", false)
  | 26 => ("FathomNightModel", "unit", "I", false)
  | 27 => ("FathomNightModel", "readings", "I", false)
  | 28 => ("FathomNightModel", "wakings", "I", false)
  | 29 => ("FathomNightModel", "done", "I", false)
  | 30 => ("FathomNightModel", "isAbove", "Z", false)
  | 31 => ("FathomNightModel", "isTaxed", "Z", false)
  | 32 => ("FathomNightModel", "dues", "[I", true)
  | 33 => ("FathomNightModel", "latest", "[I", true)
  | 34 => ("FathomNightModel", "readNow", "[I", true)
  | 35 => ("FathomNightModel", "byWatch", "[I", true)
  | 36 => ("FathomNightModel", "best", "[I", true)
  | 37 => ("FathomNightModel", "row", "[I", true)
  | 38 => ("FathomNightModel", "bestRow", "[I", true)
  | 39 => ("FathomNightModel", "bestLength", "I", false)
  | 40 => ("FathomNightModel", "bestSum", "I", false)
  | 41 => ("FathomNightModel", "unitAt", "[I", true)
  | 42 => ("FathomNightModel", "sumAt", "[I", true)
  | 43 => ("FathomNightModel", "tryAt", "[I", true)
  | 44 => ("FathomNightModel", "c0", "I", false)
  | 45 => ("FathomNightModel", "rows", "[I", true)
  | 46 => ("FathomNightModel", "then", "[I", true)
  | 47 => ("FathomNightModel", "rich", "[I", true)
  | 48 => ("FathomNightModel", "riches", "I", false)
  | 49 => ("FathomNightModel", "x0", "I", false)
  | 50 => ("FathomNightModel", "sums", "[I", true)
  | 51 => ("FathomNightModel", "ways", "[I", true)
  | _ => ("FathomNightModel", "trips", "[I", true)
def tyX12 : Nat → FieldType := fun k => match k with
  | 0 => .array .int
  | 1 => .array .boolean
  | 2 => .int
  | 3 => .int
  | 4 => .int
  | 5 => .int
  | 6 => .int
  | 7 => .int
  | 8 => .boolean
  | 9 => .int
  | 10 => .int
  | 11 => .array .int
  | 12 => .int
  | 13 => .array .int
  | 14 => .array .int
  | 15 => .array .int
  | 16 => .array .int
  | 17 => .array .int
  | 18 => .int
  | 19 => .int
  | 20 => .int
  | 21 => .int
  | 22 => .array .int
  | 23 => .int
  | 24 => .int
  | 25 => .int
  | 26 => .int
  | 27 => .int
  | 28 => .int
  | 29 => .int
  | 30 => .boolean
  | 31 => .boolean
  | 32 => .array .int
  | 33 => .array .int
  | 34 => .array .int
  | 35 => .array .int
  | 36 => .array .int
  | 37 => .array .int
  | 38 => .array .int
  | 39 => .int
  | 40 => .int
  | 41 => .array .int
  | 42 => .array .int
  | 43 => .array .int
  | 44 => .int
  | 45 => .array .int
  | 46 => .array .int
  | 47 => .array .int
  | 48 => .int
  | 49 => .int
  | 50 => .array .int
  | 51 => .array .int
  | _ => .array .int
theorem nmX12 : ∀ a, a < 53 → ∀ b, b < 53 → a ≠ b → (TX12 a).2.1 ≠ (TX12 b).2.1 := by decide +kernel
theorem tyX12_ok : ∀ k, k < 53 → parseFieldDescriptor (TX12 k).2.2.1 = some (tyX12 k) := by decide +kernel
theorem tyX12_fl : ∀ k, k < 53 → rTyOK (tyX12 k) = true := by decide +kernel
abbrev rcl : List vw_C := [(RX0, TX0, 2), (RX1, TX1, 6), (RX2, TX2, 7), (RX3, TX3, 11), (RX4, TX4, 6), (RX5, TX5, 5), (RX6, TX6, 10), (RX7, TX7, 16), (RX8, TX8, 9), (RX9, TX9, 8), (RX10, TX10, 13), (RX11, TX11, 9), (RX12, TX12, 53)]
def CNL : List String := ["FathomNight$Catch", "FathomNight$Law", "FathomNight$Night", "FathomNight$Plans", "FathomNight$Reader", "FathomNight$Round", "FathomNight$Scribe", "FathomNight$Street", "FathomNight$Told", "FathomNight$Trail", "FathomNight$Ways", "FathomNight", "FathomNightModel", "java/lang/String", "java/lang/Math", "java/lang/Integer", "java/util/Arrays", "java/lang/StringLatin1", "jdk/internal/util/Preconditions", "FathomNightLaw", "java/lang/StringUTF16"]
def cnm (c : Nat) : String := CNL.getD c ""
