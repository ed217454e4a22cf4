def ab_R0 : String := "SeasonSeat$Carriage"
def ab_T0 : u_T := fun k => match k with
  | 0 => ("SeasonSeat$Carriage", "riders", "I", false)
  | 1 => ("SeasonSeat$Carriage", "lines", "I", false)
  | 2 => ("SeasonSeat$Carriage", "month", "I", false)
  | 3 => ("SeasonSeat$Carriage", "seasons", "I", false)
  | 4 => ("SeasonSeat$Carriage", "warm", "I", false)
  | 5 => ("SeasonSeat$Carriage", "classes", "[I", true)
  | 6 => ("SeasonSeat$Carriage", "likes", "[I", true)
  | 7 => ("SeasonSeat$Carriage", "warmsLaw", "[I", false)
  | _ => ("SeasonSeat$Carriage", "mayLaw", "[I", false)
def ab_y0 : Nat → FieldType := fun k => match k with
  | 0 => .int
  | 1 => .int
  | 2 => .int
  | 3 => .int
  | 4 => .int
  | 5 => .array .int
  | 6 => .array .int
  | 7 => .array .int
  | _ => .array .int
def ab_R1 : String := "SeasonSeat$Climate"
def ab_T1 : u_T := fun k => match k with
  | 0 => ("SeasonSeat$Climate", "seatings", "LSeasonSeat$Seatings;", true)
  | 1 => ("SeasonSeat$Climate", "remembers", "Z", true)
  | 2 => ("SeasonSeat$Climate", "carriage", "LSeasonSeat$Carriage;", false)
  | 3 => ("SeasonSeat$Climate", "seasons", "I", false)
  | 4 => ("SeasonSeat$Climate", "month", "I", false)
  | 5 => ("SeasonSeat$Climate", "stamp", "I", false)
  | 6 => ("SeasonSeat$Climate", "behinds", "[I", false)
  | 7 => ("SeasonSeat$Climate", "warmths", "[I", true)
  | 8 => ("SeasonSeat$Climate", "leaves", "[I", true)
  | 9 => ("SeasonSeat$Climate", "ahead", "[I", true)
  | 10 => ("SeasonSeat$Climate", "names", "[I", true)
  | _ => ("SeasonSeat$Climate", "pile", "[I", true)
def ab_y1 : Nat → FieldType := fun k => match k with
  | 0 => .object "SeasonSeat$Seatings"
  | 1 => .boolean
  | 2 => .object "SeasonSeat$Carriage"
  | 3 => .int
  | 4 => .int
  | 5 => .int
  | 6 => .array .int
  | 7 => .array .int
  | 8 => .array .int
  | 9 => .array .int
  | 10 => .array .int
  | _ => .array .int
def ab_R2 : String := "SeasonSeat$Forcing"
def ab_T2 : u_T := fun k => match k with
  | 0 => ("SeasonSeat$Forcing", "ranks", "[I", true)
  | 1 => ("SeasonSeat$Forcing", "queue", "[I", true)
  | 2 => ("SeasonSeat$Forcing", "escapes", "[I", true)
  | 3 => ("SeasonSeat$Forcing", "firstEdge", "[I", true)
  | 4 => ("SeasonSeat$Forcing", "nextEdge", "[I", true)
  | 5 => ("SeasonSeat$Forcing", "solvedStart", "I", false)
  | 6 => ("SeasonSeat$Forcing", "solvedRider", "I", false)
  | 7 => ("SeasonSeat$Forcing", "solvedWarmth", "I", false)
  | _ => ("SeasonSeat$Forcing", "queued", "I", false)
def ab_y2 : Nat → FieldType := fun k => match k with
  | 0 => .array .int
  | 1 => .array .int
  | 2 => .array .int
  | 3 => .array .int
  | 4 => .array .int
  | 5 => .int
  | 6 => .int
  | 7 => .int
  | _ => .int
def ab_R3 : String := "SeasonSeat$Idling"
def ab_T3 : u_T := fun k => match k with
  | 0 => ("SeasonSeat$Idling", "course", "[I", true)
  | 1 => ("SeasonSeat$Idling", "seen", "[I", true)
  | 2 => ("SeasonSeat$Idling", "entry", "I", false)
  | 3 => ("SeasonSeat$Idling", "period", "I", false)
  | 4 => ("SeasonSeat$Idling", "cases", "[I", false)
  | 5 => ("SeasonSeat$Idling", "later", "[I", false)
  | _ => ("SeasonSeat$Idling", "allCases", "I", false)
def ab_y3 : Nat → FieldType := fun k => match k with
  | 0 => .array .int
  | 1 => .array .int
  | 2 => .int
  | 3 => .int
  | 4 => .array .int
  | 5 => .array .int
  | _ => .int
def ab_R4 : String := "SeasonSeat$Past"
def ab_T4 : u_T := fun k => match k with
  | 0 => ("SeasonSeat$Past", "stands", "[LSeasonSeat$Stand;", true)
  | 1 => ("SeasonSeat$Past", "next", "I", false)
  | _ => ("SeasonSeat$Past", "size", "I", false)
def ab_y4 : Nat → FieldType := fun k => match k with
  | 0 => .array (.object "SeasonSeat$Stand")
  | 1 => .int
  | _ => .int
def ab_R5 : String := "SeasonSeat$Reader"
def ab_T5 : u_T := fun k => match k with
  | 0 => ("SeasonSeat$Reader", "text", "[B", false)
  | 1 => ("SeasonSeat$Reader", "length", "I", false)
  | 2 => ("SeasonSeat$Reader", "at", "I", false)
  | 3 => ("SeasonSeat$Reader", "start", "I", false)
  | 4 => ("SeasonSeat$Reader", "kind", "I", false)
  | 5 => ("SeasonSeat$Reader", "value", "I", false)
  | 6 => ("SeasonSeat$Reader", "faultKind", "I", false)
  | 7 => ("SeasonSeat$Reader", "faultPlace", "I", false)
  | 8 => ("SeasonSeat$Reader", "told", "LSeasonSeat$Carriage;", false)
  | 9 => ("SeasonSeat$Reader", "inMay", "Z", false)
  | 10 => ("SeasonSeat$Reader", "nested", "I", false)
  | 11 => ("SeasonSeat$Reader", "law", "[I", true)
  | _ => ("SeasonSeat$Reader", "lawLength", "I", false)
def ab_y5 : Nat → FieldType := fun k => match k with
  | 0 => .array .byte
  | 1 => .int
  | 2 => .int
  | 3 => .int
  | 4 => .int
  | 5 => .int
  | 6 => .int
  | 7 => .int
  | 8 => .object "SeasonSeat$Carriage"
  | 9 => .boolean
  | 10 => .int
  | 11 => .array .int
  | _ => .int
def ab_R6 : String := "SeasonSeat$Rows"
def ab_T6 : u_T := fun k => match k with
  | 0 => ("SeasonSeat$Rows", "seatings", "LSeasonSeat$Seatings;", true)
  | 1 => ("SeasonSeat$Rows", "codes", "[I", true)
  | 2 => ("SeasonSeat$Rows", "standOf", "[I", true)
  | 3 => ("SeasonSeat$Rows", "from", "[I", true)
  | 4 => ("SeasonSeat$Rows", "next", "[I", true)
  | 5 => ("SeasonSeat$Rows", "tried", "[I", true)
  | 6 => ("SeasonSeat$Rows", "longest", "[I", true)
  | 7 => ("SeasonSeat$Rows", "path", "[I", true)
  | 8 => ("SeasonSeat$Rows", "laws", "LSeasonSeat$Climate;", false)
  | 9 => ("SeasonSeat$Rows", "stamp", "I", false)
  | 10 => ("SeasonSeat$Rows", "ways", "I", false)
  | 11 => ("SeasonSeat$Rows", "riders", "I", false)
  | 12 => ("SeasonSeat$Rows", "known", "I", false)
  | 13 => ("SeasonSeat$Rows", "opened", "I", false)
  | _ => ("SeasonSeat$Rows", "starts", "I", false)
def ab_y6 : Nat → FieldType := fun k => match k with
  | 0 => .object "SeasonSeat$Seatings"
  | 1 => .array .int
  | 2 => .array .int
  | 3 => .array .int
  | 4 => .array .int
  | 5 => .array .int
  | 6 => .array .int
  | 7 => .array .int
  | 8 => .object "SeasonSeat$Climate"
  | 9 => .int
  | 10 => .int
  | 11 => .int
  | 12 => .int
  | 13 => .int
  | _ => .int
def ab_R7 : String := "SeasonSeat$Seatings"
def ab_T7 : u_T := fun k => match k with
  | 0 => ("SeasonSeat$Seatings", "seats", "[I", true)
  | 1 => ("SeasonSeat$Seatings", "riders", "[I", true)
  | 2 => ("SeasonSeat$Seatings", "changes", "[I", true)
  | _ => ("SeasonSeat$Seatings", "orders", "[I", true)
def ab_y7 : Nat → FieldType := fun k => match k with
  | 0 => .array .int
  | 1 => .array .int
  | 2 => .array .int
  | _ => .array .int
def ab_R8 : String := "SeasonSeat$Stand"
def ab_T8 : u_T := fun k => match k with
  | 0 => ("SeasonSeat$Stand", "seasons", "I", false)
  | 1 => ("SeasonSeat$Stand", "warm", "I", false)
  | 2 => ("SeasonSeat$Stand", "seating", "I", false)
  | 3 => ("SeasonSeat$Stand", "month", "I", false)
  | _ => ("SeasonSeat$Stand", "stops", "I", false)
def ab_y8 : Nat → FieldType := fun k => match k with
  | 0 => .int
  | 1 => .int
  | 2 => .int
  | 3 => .int
  | _ => .int
def ab_R9 : String := "SeasonSeat$Trading"
def ab_T9 : u_T := fun k => match k with
  | 0 => ("SeasonSeat$Trading", "carriage", "LSeasonSeat$Carriage;", true)
  | 1 => ("SeasonSeat$Trading", "seasons", "I", true)
  | 2 => ("SeasonSeat$Trading", "points", "[I", true)
  | 3 => ("SeasonSeat$Trading", "ticket", "[I", true)
  | _ => ("SeasonSeat$Trading", "time", "[I", true)
def ab_y9 : Nat → FieldType := fun k => match k with
  | 0 => .object "SeasonSeat$Carriage"
  | 1 => .int
  | 2 => .array .int
  | 3 => .array .int
  | _ => .array .int
def ab_R10 : String := "SeasonSeat$Tray"
def ab_T10 : u_T := fun k => match k with
  | 0 => ("SeasonSeat$Tray", "numbers", "[J", true)
  | 1 => ("SeasonSeat$Tray", "sort", "I", false)
  | _ => ("SeasonSeat$Tray", "size", "I", false)
def ab_y10 : Nat → FieldType := fun k => match k with
  | 0 => .array .long
  | 1 => .int
  | _ => .int
def ab_R11 : String := "SeasonSeat"
def ab_T11 : u_T := fun k => match k with
  | 0 => ("SeasonSeat", "tape", "[B", true)
  | 1 => ("SeasonSeat", "tapeLength", "I", false)
  | 2 => ("SeasonSeat", "carriage", "LSeasonSeat$Carriage;", false)
  | 3 => ("SeasonSeat", "now", "LSeasonSeat$Stand;", true)
  | 4 => ("SeasonSeat", "trial", "LSeasonSeat$Stand;", true)
  | 5 => ("SeasonSeat", "past", "LSeasonSeat$Past;", true)
  | 6 => ("SeasonSeat", "drawn", "I", false)
  | 7 => ("SeasonSeat", "trays", "[LSeasonSeat$Tray;", true)
  | 8 => ("SeasonSeat", "imageCarriages", "[LSeasonSeat$Carriage;", true)
  | 9 => ("SeasonSeat", "imageStands", "[LSeasonSeat$Stand;", true)
  | 10 => ("SeasonSeat", "reader", "LSeasonSeat$Reader;", true)
  | 11 => ("SeasonSeat", "seatings", "LSeasonSeat$Seatings;", true)
  | 12 => ("SeasonSeat", "climate", "LSeasonSeat$Climate;", true)
  | 13 => ("SeasonSeat", "supposed", "LSeasonSeat$Climate;", true)
  | 14 => ("SeasonSeat", "idling", "LSeasonSeat$Idling;", true)
  | 15 => ("SeasonSeat", "rowsKnown", "LSeasonSeat$Rows;", false)
  | _ => ("SeasonSeat", "forcingKnown", "LSeasonSeat$Forcing;", false)
def ab_y11 : Nat → FieldType := fun k => match k with
  | 0 => .array .byte
  | 1 => .int
  | 2 => .object "SeasonSeat$Carriage"
  | 3 => .object "SeasonSeat$Stand"
  | 4 => .object "SeasonSeat$Stand"
  | 5 => .object "SeasonSeat$Past"
  | 6 => .int
  | 7 => .array (.object "SeasonSeat$Tray")
  | 8 => .array (.object "SeasonSeat$Carriage")
  | 9 => .array (.object "SeasonSeat$Stand")
  | 10 => .object "SeasonSeat$Reader"
  | 11 => .object "SeasonSeat$Seatings"
  | 12 => .object "SeasonSeat$Climate"
  | 13 => .object "SeasonSeat$Climate"
  | 14 => .object "SeasonSeat$Idling"
  | 15 => .object "SeasonSeat$Rows"
  | _ => .object "SeasonSeat$Forcing"
def ab_R12 : String := "SeasonSeatModel"
def ab_T12 : u_T := fun k => match k with
  | 0 => ("SeasonSeatModel", "thrown", "I", false)
  | 1 => ("SeasonSeatModel", "all", "[I", true)
  | 2 => ("SeasonSeatModel", "hasImage", "[Z", true)
  | 3 => ("SeasonSeatModel", "tape", "[I", true)
  | 4 => ("SeasonSeatModel", "fresh", "[I", true)
  | 5 => ("SeasonSeatModel", "taped", "I", false)
  | 6 => ("SeasonSeatModel", "at", "I", false)
  | 7 => ("SeasonSeatModel", "behind", "I", false)
  | 8 => ("SeasonSeatModel", "size", "I", false)
  | 9 => ("SeasonSeatModel", "kind", "I", false)
  | 10 => ("SeasonSeatModel", "number", "I", false)
  | 11 => ("SeasonSeatModel", "wrong", "I", false)
  | 12 => ("SeasonSeatModel", "wrongAt", "I", false)
  | 13 => ("SeasonSeatModel", "faultKind", "I", false)
  | 14 => ("SeasonSeatModel", "faultPlace", "I", false)
  | 15 => ("SeasonSeatModel", "reading", "I", false)
  | 16 => ("SeasonSeatModel", "reckoned", "[I", true)
  | 17 => ("SeasonSeatModel", "words", "[I", true)
  | 18 => ("SeasonSeatModel", "was", "[I", true)
  | 19 => ("SeasonSeatModel", "toldWhy", "I", false)
  | 20 => ("SeasonSeatModel", "x", "I", false)
  | 21 => ("SeasonSeatModel", "row", "[I", true)
  | 22 => ("SeasonSeatModel", "indexOf", "[I", true)
  | 23 => ("SeasonSeatModel", "tail", "I", false)
  | 24 => ("SeasonSeatModel", "round1", "I", false)
  | 25 => ("SeasonSeatModel", "stand", "[I", true)
  | 26 => ("SeasonSeatModel", "then", "[I", true)
  | 27 => ("SeasonSeatModel", "far", "[I", true)
  | 28 => ("SeasonSeatModel", "farOther", "[I", true)
  | 29 => ("SeasonSeatModel", "standMany", "I", false)
  | 30 => ("SeasonSeatModel", "many", "[J", true)
  | 31 => ("SeasonSeatModel", "manyThen", "[J", true)
  | 32 => ("SeasonSeatModel", "placed", "[I", true)
  | 33 => ("SeasonSeatModel", "bestPlaced", "[I", true)
  | 34 => ("SeasonSeatModel", "bestLeast", "I", false)
  | 35 => ("SeasonSeatModel", "bestSum", "I", false)
  | 36 => ("SeasonSeatModel", "ticket", "[I", true)
  | 37 => ("SeasonSeatModel", "timeOf", "[I", true)
  | 38 => ("SeasonSeatModel", "pointed", "[I", true)
  | 39 => ("SeasonSeatModel", "warmBy", "[I", true)
  | 40 => ("SeasonSeatModel", "warmSum", "J", false)
  | 41 => ("SeasonSeatModel", "heatSum", "J", false)
  | 42 => ("SeasonSeatModel", "rowSort", "[I", true)
  | 43 => ("SeasonSeatModel", "rowMany", "[I", true)
  | _ => ("SeasonSeatModel", "numbers", "[J", true)
def ab_y12 : Nat → FieldType := fun k => match k with
  | 0 => .int
  | 1 => .array .int
  | 2 => .array .boolean
  | 3 => .array .int
  | 4 => .array .int
  | 5 => .int
  | 6 => .int
  | 7 => .int
  | 8 => .int
  | 9 => .int
  | 10 => .int
  | 11 => .int
  | 12 => .int
  | 13 => .int
  | 14 => .int
  | 15 => .int
  | 16 => .array .int
  | 17 => .array .int
  | 18 => .array .int
  | 19 => .int
  | 20 => .int
  | 21 => .array .int
  | 22 => .array .int
  | 23 => .int
  | 24 => .int
  | 25 => .array .int
  | 26 => .array .int
  | 27 => .array .int
  | 28 => .array .int
  | 29 => .int
  | 30 => .array .long
  | 31 => .array .long
  | 32 => .array .int
  | 33 => .array .int
  | 34 => .int
  | 35 => .int
  | 36 => .array .int
  | 37 => .array .int
  | 38 => .array .int
  | 39 => .array .int
  | 40 => .long
  | 41 => .long
  | 42 => .array .int
  | 43 => .array .int
  | _ => .array .long
def ab_cl : List vw_C := [(ab_R0, ab_T0, 9), (ab_R1, ab_T1, 12), (ab_R2, ab_T2, 9), (ab_R3, ab_T3, 7), (ab_R4, ab_T4, 3), (ab_R5, ab_T5, 13), (ab_R6, ab_T6, 15), (ab_R7, ab_T7, 4), (ab_R8, ab_T8, 5), (ab_R9, ab_T9, 5), (ab_R10, ab_T10, 3), (ab_R11, ab_T11, 17), (ab_R12, ab_T12, 45)]
def ab_ty (ci : Nat) : Nat → FieldType := match ci with
  | 0 => ab_y0
  | 1 => ab_y1
  | 2 => ab_y2
  | 3 => ab_y3
  | 4 => ab_y4
  | 5 => ab_y5
  | 6 => ab_y6
  | 7 => ab_y7
  | 8 => ab_y8
  | 9 => ab_y9
  | 10 => ab_y10
  | 11 => ab_y11
  | _ => ab_y12
def ab_good : List Cond := lw_tbl.filter goodWord
theorem ab_n0 : ∀ a, a < 9 → ∀ b, b < 9 → a ≠ b → (ab_T0 a).2.1 ≠ (ab_T0 b).2.1 := by decide +kernel
theorem ab_k0 : ∀ k, k < 9 → parseFieldDescriptor (ab_T0 k).2.2.1 = some (ab_y0 k) := by decide +kernel
set_option maxRecDepth 20000 in
theorem ab_i0 : ∀ w ∈ u_ws ab_R0 ab_T0 9, w ∈ ab_good := by decide +kernel
theorem ab_n1 : ∀ a, a < 12 → ∀ b, b < 12 → a ≠ b → (ab_T1 a).2.1 ≠ (ab_T1 b).2.1 := by decide +kernel
theorem ab_k1 : ∀ k, k < 12 → parseFieldDescriptor (ab_T1 k).2.2.1 = some (ab_y1 k) := by decide +kernel
set_option maxRecDepth 20000 in
theorem ab_i1 : ∀ w ∈ u_ws ab_R1 ab_T1 12, w ∈ ab_good := by decide +kernel
theorem ab_n2 : ∀ a, a < 9 → ∀ b, b < 9 → a ≠ b → (ab_T2 a).2.1 ≠ (ab_T2 b).2.1 := by decide +kernel
theorem ab_k2 : ∀ k, k < 9 → parseFieldDescriptor (ab_T2 k).2.2.1 = some (ab_y2 k) := by decide +kernel
set_option maxRecDepth 20000 in
theorem ab_i2 : ∀ w ∈ u_ws ab_R2 ab_T2 9, w ∈ ab_good := by decide +kernel
theorem ab_n3 : ∀ a, a < 7 → ∀ b, b < 7 → a ≠ b → (ab_T3 a).2.1 ≠ (ab_T3 b).2.1 := by decide +kernel
theorem ab_k3 : ∀ k, k < 7 → parseFieldDescriptor (ab_T3 k).2.2.1 = some (ab_y3 k) := by decide +kernel
set_option maxRecDepth 20000 in
theorem ab_i3 : ∀ w ∈ u_ws ab_R3 ab_T3 7, w ∈ ab_good := by decide +kernel
theorem ab_n4 : ∀ a, a < 3 → ∀ b, b < 3 → a ≠ b → (ab_T4 a).2.1 ≠ (ab_T4 b).2.1 := by decide +kernel
theorem ab_k4 : ∀ k, k < 3 → parseFieldDescriptor (ab_T4 k).2.2.1 = some (ab_y4 k) := by decide +kernel
set_option maxRecDepth 20000 in
theorem ab_i4 : ∀ w ∈ u_ws ab_R4 ab_T4 3, w ∈ ab_good := by decide +kernel
theorem ab_n5 : ∀ a, a < 13 → ∀ b, b < 13 → a ≠ b → (ab_T5 a).2.1 ≠ (ab_T5 b).2.1 := by decide +kernel
theorem ab_k5 : ∀ k, k < 13 → parseFieldDescriptor (ab_T5 k).2.2.1 = some (ab_y5 k) := by decide +kernel
set_option maxRecDepth 20000 in
theorem ab_i5 : ∀ w ∈ u_ws ab_R5 ab_T5 13, w ∈ ab_good := by decide +kernel
theorem ab_n6 : ∀ a, a < 15 → ∀ b, b < 15 → a ≠ b → (ab_T6 a).2.1 ≠ (ab_T6 b).2.1 := by decide +kernel
theorem ab_k6 : ∀ k, k < 15 → parseFieldDescriptor (ab_T6 k).2.2.1 = some (ab_y6 k) := by decide +kernel
set_option maxRecDepth 20000 in
theorem ab_i6 : ∀ w ∈ u_ws ab_R6 ab_T6 15, w ∈ ab_good := by decide +kernel
theorem ab_n7 : ∀ a, a < 4 → ∀ b, b < 4 → a ≠ b → (ab_T7 a).2.1 ≠ (ab_T7 b).2.1 := by decide +kernel
theorem ab_k7 : ∀ k, k < 4 → parseFieldDescriptor (ab_T7 k).2.2.1 = some (ab_y7 k) := by decide +kernel
set_option maxRecDepth 20000 in
theorem ab_i7 : ∀ w ∈ u_ws ab_R7 ab_T7 4, w ∈ ab_good := by decide +kernel
theorem ab_n8 : ∀ a, a < 5 → ∀ b, b < 5 → a ≠ b → (ab_T8 a).2.1 ≠ (ab_T8 b).2.1 := by decide +kernel
theorem ab_k8 : ∀ k, k < 5 → parseFieldDescriptor (ab_T8 k).2.2.1 = some (ab_y8 k) := by decide +kernel
set_option maxRecDepth 20000 in
theorem ab_i8 : ∀ w ∈ u_ws ab_R8 ab_T8 5, w ∈ ab_good := by decide +kernel
theorem ab_n9 : ∀ a, a < 5 → ∀ b, b < 5 → a ≠ b → (ab_T9 a).2.1 ≠ (ab_T9 b).2.1 := by decide +kernel
theorem ab_k9 : ∀ k, k < 5 → parseFieldDescriptor (ab_T9 k).2.2.1 = some (ab_y9 k) := by decide +kernel
set_option maxRecDepth 20000 in
theorem ab_i9 : ∀ w ∈ u_ws ab_R9 ab_T9 5, w ∈ ab_good := by decide +kernel
theorem ab_n10 : ∀ a, a < 3 → ∀ b, b < 3 → a ≠ b → (ab_T10 a).2.1 ≠ (ab_T10 b).2.1 := by decide +kernel
theorem ab_k10 : ∀ k, k < 3 → parseFieldDescriptor (ab_T10 k).2.2.1 = some (ab_y10 k) := by decide +kernel
set_option maxRecDepth 20000 in
theorem ab_i10 : ∀ w ∈ u_ws ab_R10 ab_T10 3, w ∈ ab_good := by decide +kernel
theorem ab_n11 : ∀ a, a < 17 → ∀ b, b < 17 → a ≠ b → (ab_T11 a).2.1 ≠ (ab_T11 b).2.1 := by decide +kernel
theorem ab_k11 : ∀ k, k < 17 → parseFieldDescriptor (ab_T11 k).2.2.1 = some (ab_y11 k) := by decide +kernel
set_option maxRecDepth 20000 in
theorem ab_i11 : ∀ w ∈ u_ws ab_R11 ab_T11 17, w ∈ ab_good := by decide +kernel
theorem ab_n12 : ∀ a, a < 45 → ∀ b, b < 45 → a ≠ b → (ab_T12 a).2.1 ≠ (ab_T12 b).2.1 := by decide +kernel
theorem ab_k12 : ∀ k, k < 45 → parseFieldDescriptor (ab_T12 k).2.2.1 = some (ab_y12 k) := by decide +kernel
set_option maxRecDepth 20000 in
theorem ab_i12 : ∀ w ∈ u_ws ab_R12 ab_T12 45, w ∈ ab_good := by decide +kernel
