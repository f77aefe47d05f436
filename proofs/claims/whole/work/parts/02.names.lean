def RX0 : String := "FireSale$Book"
def TX0 : u_T := fun k => match k with
  | 0 => ("FireSale$Book", "assets", "I", false)
  | 1 => ("FireSale$Book", "houses", "I", false)
  | 2 => ("FireSale$Book", "curves", "[I", true)
  | 3 => ("FireSale$Book", "facts", "[I", true)
  | 4 => ("FireSale$Book", "holdings", "[I", true)
  | 5 => ("FireSale$Book", "loans", "[I", true)
  | 6 => ("FireSale$Book", "laid", "[I", true)
  | _ => ("FireSale$Book", "items", "[I", true)
def tyX0 : Nat → FieldType := fun k => match k with
  | 0 => .int
  | 1 => .int
  | 2 => .array .int
  | 3 => .array .int
  | 4 => .array .int
  | 5 => .array .int
  | 6 => .array .int
  | _ => .array .int
theorem nmX0 : ∀ a, a < 8 → ∀ b, b < 8 → a ≠ b → (TX0 a).2.1 ≠ (TX0 b).2.1 := by decide +kernel
theorem tyX0_ok : ∀ k, k < 8 → parseFieldDescriptor (TX0 k).2.2.1 = some (tyX0 k) := by decide +kernel
def RX1 : String := "FireSale$Market"
def TX1 : u_T := fun k => match k with
  | 0 => ("FireSale$Market", "assets", "I", false)
  | 1 => ("FireSale$Market", "houses", "I", false)
  | 2 => ("FireSale$Market", "forced", "I", false)
  | 3 => ("FireSale$Market", "tops", "[I", true)
  | 4 => ("FireSale$Market", "slopes", "[I", true)
  | 5 => ("FireSale$Market", "caps", "[I", true)
  | 6 => ("FireSale$Market", "bought", "[I", true)
  | 7 => ("FireSale$Market", "held", "[I", true)
  | 8 => ("FireSale$Market", "prices", "[I", true)
  | 9 => ("FireSale$Market", "own", "[I", true)
  | 10 => ("FireSale$Market", "pieces", "[I", true)
  | 11 => ("FireSale$Market", "facts", "[I", true)
  | 12 => ("FireSale$Market", "holdings", "[I", true)
  | _ => ("FireSale$Market", "loans", "[I", true)
def tyX1 : Nat → FieldType := fun k => match k with
  | 0 => .int
  | 1 => .int
  | 2 => .int
  | 3 => .array .int
  | 4 => .array .int
  | 5 => .array .int
  | 6 => .array .int
  | 7 => .array .int
  | 8 => .array .int
  | 9 => .array .int
  | 10 => .array .int
  | 11 => .array .int
  | 12 => .array .int
  | _ => .array .int
theorem nmX1 : ∀ a, a < 14 → ∀ b, b < 14 → a ≠ b → (TX1 a).2.1 ≠ (TX1 b).2.1 := by decide +kernel
theorem tyX1_ok : ∀ k, k < 14 → parseFieldDescriptor (TX1 k).2.2.1 = some (tyX1 k) := by decide +kernel
def RX2 : String := "FireSale$Speller"
def TX2 : u_T := fun k => match k with
  | 0 => ("FireSale$Speller", "bytes", "[I", true)
  | _ => ("FireSale$Speller", "size", "I", false)
def tyX2 : Nat → FieldType := fun k => match k with
  | 0 => .array .int
  | _ => .int
theorem nmX2 : ∀ a, a < 2 → ∀ b, b < 2 → a ≠ b → (TX2 a).2.1 ≠ (TX2 b).2.1 := by decide +kernel
theorem tyX2_ok : ∀ k, k < 2 → parseFieldDescriptor (TX2 k).2.2.1 = some (tyX2 k) := by decide +kernel
def RX3 : String := "FireSale$State"
def TX3 : u_T := fun k => match k with
  | 0 => ("FireSale$State", "sold", "[I", true)
  | _ => ("FireSale$State", "fallen", "I", false)
def tyX3 : Nat → FieldType := fun k => match k with
  | 0 => .array .int
  | _ => .int
theorem nmX3 : ∀ a, a < 2 → ∀ b, b < 2 → a ≠ b → (TX3 a).2.1 ≠ (TX3 b).2.1 := by decide +kernel
theorem tyX3_ok : ∀ k, k < 2 → parseFieldDescriptor (TX3 k).2.2.1 = some (tyX3 k) := by decide +kernel
def RX4 : String := "FireSale$Tape"
def TX4 : u_T := fun k => match k with
  | 0 => ("FireSale$Tape", "bytes", "[I", true)
  | 1 => ("FireSale$Tape", "size", "I", false)
  | 2 => ("FireSale$Tape", "at", "I", false)
  | 3 => ("FireSale$Tape", "fault", "I", false)
  | 4 => ("FireSale$Tape", "wordStart", "I", false)
  | 5 => ("FireSale$Tape", "wordEnd", "I", false)
  | _ => ("FireSale$Tape", "numberStart", "I", false)
def tyX4 : Nat → FieldType := fun k => match k with
  | 0 => .array .int
  | 1 => .int
  | 2 => .int
  | 3 => .int
  | 4 => .int
  | 5 => .int
  | _ => .int
theorem nmX4 : ∀ a, a < 7 → ∀ b, b < 7 → a ≠ b → (TX4 a).2.1 ≠ (TX4 b).2.1 := by decide +kernel
theorem tyX4_ok : ∀ k, k < 7 → parseFieldDescriptor (TX4 k).2.2.1 = some (tyX4 k) := by decide +kernel
def RX5 : String := "FireSale"
def TX5 : u_T := fun k => match k with
  | 0 => ("FireSale", "tape", "LFireSale$Tape;", true)
  | 1 => ("FireSale", "speller", "LFireSale$Speller;", true)
  | 2 => ("FireSale", "book", "LFireSale$Book;", true)
  | 3 => ("FireSale", "draft", "LFireSale$Book;", true)
  | 4 => ("FireSale", "past", "[LFireSale$Book;", true)
  | 5 => ("FireSale", "pastNext", "I", false)
  | 6 => ("FireSale", "pastCount", "I", false)
  | 7 => ("FireSale", "market", "LFireSale$Market;", true)
  | 8 => ("FireSale", "found", "LFireSale$State;", true)
  | 9 => ("FireSale", "spare", "LFireSale$State;", true)
  | 10 => ("FireSale", "firstFallen", "[I", true)
  | 11 => ("FireSale", "parts", "[I", true)
  | 12 => ("FireSale", "gifts", "[I", true)
  | _ => ("FireSale", "bestGifts", "[I", true)
def tyX5 : Nat → FieldType := fun k => match k with
  | 0 => .object "FireSale$Tape"
  | 1 => .object "FireSale$Speller"
  | 2 => .object "FireSale$Book"
  | 3 => .object "FireSale$Book"
  | 4 => .array (.object "FireSale$Book")
  | 5 => .int
  | 6 => .int
  | 7 => .object "FireSale$Market"
  | 8 => .object "FireSale$State"
  | 9 => .object "FireSale$State"
  | 10 => .array .int
  | 11 => .array .int
  | 12 => .array .int
  | _ => .array .int
theorem nmX5 : ∀ a, a < 14 → ∀ b, b < 14 → a ≠ b → (TX5 a).2.1 ≠ (TX5 b).2.1 := by decide +kernel
theorem tyX5_ok : ∀ k, k < 14 → parseFieldDescriptor (TX5 k).2.2.1 = some (tyX5 k) := by decide +kernel
def RX6 : String := "FireSaleModel"
def TX6 : u_T := fun k => match k with
  | 0 => ("FireSaleModel", "thrown", "I", false)
  | 1 => ("FireSaleModel", "now", "[I", true)
  | 2 => ("FireSaleModel", "aside", "[I", true)
  | 3 => ("FireSaleModel", "undos", "[I", true)
  | 4 => ("FireSaleModel", "undoMany", "I", false)
  | 5 => ("FireSaleModel", "tape", "[I", true)
  | 6 => ("FireSaleModel", "taped", "I", false)
  | 7 => ("FireSaleModel", "size", "I", false)
  | 8 => ("FireSaleModel", "at", "I", false)
  | 9 => ("FireSaleModel", "token", "I", false)
  | 10 => ("FireSaleModel", "from", "I", false)
  | 11 => ("FireSaleModel", "value", "I", false)
  | 12 => ("FireSaleModel", "fault", "I", false)
  | 13 => ("FireSaleModel", "sold", "[I", true)
  | 14 => ("FireSaleModel", "sells", "[I", true)
  | 15 => ("FireSaleModel", "fallen", "I", false)
  | 16 => ("FireSaleModel", "willFall", "I", false)
  | 17 => ("FireSaleModel", "rounds", "I", false)
  | 18 => ("FireSaleModel", "coins", "[I", true)
  | 19 => ("FireSaleModel", "extraOf", "I", false)
  | 20 => ("FireSaleModel", "extraCap", "I", false)
  | 21 => ("FireSaleModel", "extraShock", "I", false)
  | 22 => ("FireSaleModel", "buyerOf", "I", false)
  | 23 => ("FireSaleModel", "buys", "I", false)
  | 24 => ("FireSaleModel", "part", "I", false)
  | 25 => ("FireSaleModel", "forced", "I", false)
  | 26 => ("FireSaleModel", "left", "[I", true)
  | 27 => ("FireSaleModel", "prices", "[I", true)
  | 28 => ("FireSaleModel", "musts", "[I", true)
  | 29 => ("FireSaleModel", "fell", "[I", true)
  | 30 => ("FireSaleModel", "leastLost", "I", false)
  | 31 => ("FireSaleModel", "gifts", "[I", true)
  | 32 => ("FireSaleModel", "bestGifts", "[I", true)
  | 33 => ("FireSaleModel", "spelt", "[I", true)
  | _ => ("FireSaleModel", "speltMany", "I", false)
def tyX6 : Nat → FieldType := fun k => match k with
  | 0 => .int
  | 1 => .array .int
  | 2 => .array .int
  | 3 => .array .int
  | 4 => .int
  | 5 => .array .int
  | 6 => .int
  | 7 => .int
  | 8 => .int
  | 9 => .int
  | 10 => .int
  | 11 => .int
  | 12 => .int
  | 13 => .array .int
  | 14 => .array .int
  | 15 => .int
  | 16 => .int
  | 17 => .int
  | 18 => .array .int
  | 19 => .int
  | 20 => .int
  | 21 => .int
  | 22 => .int
  | 23 => .int
  | 24 => .int
  | 25 => .int
  | 26 => .array .int
  | 27 => .array .int
  | 28 => .array .int
  | 29 => .array .int
  | 30 => .int
  | 31 => .array .int
  | 32 => .array .int
  | 33 => .array .int
  | _ => .int
theorem nmX6 : ∀ a, a < 35 → ∀ b, b < 35 → a ≠ b → (TX6 a).2.1 ≠ (TX6 b).2.1 := by decide +kernel
theorem tyX6_ok : ∀ k, k < 35 → parseFieldDescriptor (TX6 k).2.2.1 = some (tyX6 k) := by decide +kernel
abbrev vwCl : List vw_C := [(RX0, TX0, 8), (RX1, TX1, 14), (RX2, TX2, 2), (RX3, TX3, 2), (RX4, TX4, 7), (RX5, TX5, 14), (RX6, TX6, 35)]
theorem fs_inX0 : ∀ w ∈ u_ws RX0 TX0 8, w ∈ lw_tbl.filter goodWord := by decide +kernel
theorem fs_inX1 : ∀ w ∈ u_ws RX1 TX1 14, w ∈ lw_tbl.filter goodWord := by decide +kernel
theorem fs_inX2 : ∀ w ∈ u_ws RX2 TX2 2, w ∈ lw_tbl.filter goodWord := by decide +kernel
theorem fs_inX3 : ∀ w ∈ u_ws RX3 TX3 2, w ∈ lw_tbl.filter goodWord := by decide +kernel
theorem fs_inX4 : ∀ w ∈ u_ws RX4 TX4 7, w ∈ lw_tbl.filter goodWord := by decide +kernel
theorem fs_inX5 : ∀ w ∈ u_ws RX5 TX5 14, w ∈ lw_tbl.filter goodWord := by decide +kernel
theorem fs_inX6 : ∀ w ∈ u_ws RX6 TX6 35, w ∈ lw_tbl.filter goodWord := by decide +kernel
