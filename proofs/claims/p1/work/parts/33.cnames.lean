def RX0 : String := "AlgebraicReals$Big"
def TX0 : u_T := fun k => match k with
  | 0 => ("AlgebraicReals$Big", "d", "[I", false)
  | 1 => ("AlgebraicReals$Big", "n", "I", false)
  | _ => ("AlgebraicReals$Big", "s", "I", false)
def tyX0 : Nat → FieldType := fun k => match k with
  | 0 => .array .int
  | 1 => .int
  | _ => .int
abbrev wsX00 : List Cond := u_ws RX0 TX0 3
theorem nmX0 : ∀ a, a < 3 → ∀ b, b < 3 → a ≠ b → (TX0 a).2.1 ≠ (TX0 b).2.1 := by decide +kernel
theorem tyX0_ok : ∀ k, k < 3 → parseFieldDescriptor (TX0 k).2.2.1 = some (tyX0 k) := by decide +kernel
def RX1 : String := "AlgebraicReals$Cutte\x72"
def TX1 : u_T := fun k => match k with
  | 0 => ("AlgebraicReals$Cutte\x72", "factors", "[LAlgebraicReals$Row;", true)
  | 1 => ("AlgebraicReals$Cutte\x72", "pieces", "I", false)
  | 2 => ("AlgebraicReals$Cutte\x72", "f", "LAlgebraicReals$Row;", true)
  | 3 => ("AlgebraicReals$Cutte\x72", "g", "LAlgebraicReals$Row;", true)
  | 4 => ("AlgebraicReals$Cutte\x72", "h", "LAlgebraicReals$Row;", true)
  | 5 => ("AlgebraicReals$Cutte\x72", "v", "LAlgebraicReals$Row;", true)
  | 6 => ("AlgebraicReals$Cutte\x72", "w", "LAlgebraicReals$Row;", true)
  | 7 => ("AlgebraicReals$Cutte\x72", "grid", "[[J", true)
  | _ => ("AlgebraicReals$Cutte\x72", "pivots", "[I", true)
def tyX1 : Nat → FieldType := fun k => match k with
  | 0 => .array (.object "AlgebraicReals$Row")
  | 1 => .int
  | 2 => .object "AlgebraicReals$Row"
  | 3 => .object "AlgebraicReals$Row"
  | 4 => .object "AlgebraicReals$Row"
  | 5 => .object "AlgebraicReals$Row"
  | 6 => .object "AlgebraicReals$Row"
  | 7 => .array (.array .long)
  | _ => .array .int
abbrev wsX10 : List Cond := u_ws RX1 TX1 9
theorem nmX1 : ∀ a, a < 9 → ∀ b, b < 9 → a ≠ b → (TX1 a).2.1 ≠ (TX1 b).2.1 := by decide +kernel
theorem tyX1_ok : ∀ k, k < 9 → parseFieldDescriptor (TX1 k).2.2.1 = some (tyX1 k) := by decide +kernel
def RX2 : String := "AlgebraicReals$Norms"
def TX2 : u_T := fun k => match k with
  | 0 => ("AlgebraicReals$Norms", "left", "LAlgebraicReals$Poly;", true)
  | 1 => ("AlgebraicReals$Norms", "right", "LAlgebraicReals$Poly;", true)
  | 2 => ("AlgebraicReals$Norms", "made", "LAlgebraicReals$Poly;", true)
  | 3 => ("AlgebraicReals$Norms", "all", "LAlgebraicReals$Poly;", true)
  | 4 => ("AlgebraicReals$Norms", "repeated", "LAlgebraicReals$Poly;", true)
  | 5 => ("AlgebraicReals$Norms", "tools", "LAlgebraicReals$Tools;", true)
  | 6 => ("AlgebraicReals$Norms", "p", "LAlgebraicReals$Row;", true)
  | 7 => ("AlgebraicReals$Norms", "q", "LAlgebraicReals$Row;", true)
  | 8 => ("AlgebraicReals$Norms", "\x72", "LAlgebraicReals$Row;", true)
  | 9 => ("AlgebraicReals$Norms", "g", "LAlgebraicReals$Row;", true)
  | 10 => ("AlgebraicReals$Norms", "h", "LAlgebraicReals$Row;", true)
  | 11 => ("AlgebraicReals$Norms", "sumsOfP", "[J", true)
  | 12 => ("AlgebraicReals$Norms", "sumsOfQ", "[J", true)
  | 13 => ("AlgebraicReals$Norms", "sums", "[J", true)
  | 14 => ("AlgebraicReals$Norms", "product", "LAlgebraicReals$Big;", true)
  | 15 => ("AlgebraicReals$Norms", "t", "LAlgebraicReals$Big;", true)
  | 16 => ("AlgebraicReals$Norms", "kind", "I", false)
  | 17 => ("AlgebraicReals$Norms", "whole", "I", false)
  | _ => ("AlgebraicReals$Norms", "lead", "J", false)
def tyX2 : Nat → FieldType := fun k => match k with
  | 0 => .object "AlgebraicReals$Poly"
  | 1 => .object "AlgebraicReals$Poly"
  | 2 => .object "AlgebraicReals$Poly"
  | 3 => .object "AlgebraicReals$Poly"
  | 4 => .object "AlgebraicReals$Poly"
  | 5 => .object "AlgebraicReals$Tools"
  | 6 => .object "AlgebraicReals$Row"
  | 7 => .object "AlgebraicReals$Row"
  | 8 => .object "AlgebraicReals$Row"
  | 9 => .object "AlgebraicReals$Row"
  | 10 => .object "AlgebraicReals$Row"
  | 11 => .array .long
  | 12 => .array .long
  | 13 => .array .long
  | 14 => .object "AlgebraicReals$Big"
  | 15 => .object "AlgebraicReals$Big"
  | 16 => .int
  | 17 => .int
  | _ => .long
abbrev wsX20 : List Cond := u_ws RX2 TX2 19
theorem nmX2 : ∀ a, a < 19 → ∀ b, b < 19 → a ≠ b → (TX2 a).2.1 ≠ (TX2 b).2.1 := by decide +kernel
theorem tyX2_ok : ∀ k, k < 19 → parseFieldDescriptor (TX2 k).2.2.1 = some (tyX2 k) := by decide +kernel
def RX3 : String := "AlgebraicReals$Parte\x72"
def TX3 : u_T := fun k => match k with
  | 0 => ("AlgebraicReals$Parte\x72", "found", "[LAlgebraicReals$Poly;", true)
  | 1 => ("AlgebraicReals$Parte\x72", "size", "I", false)
  | 2 => ("AlgebraicReals$Parte\x72", "tools", "LAlgebraicReals$Tools;", true)
  | 3 => ("AlgebraicReals$Parte\x72", "cutte\x72", "LAlgebraicReals$Cutter;", true)
  | 4 => ("AlgebraicReals$Parte\x72", "rest", "LAlgebraicReals$Poly;", true)
  | 5 => ("AlgebraicReals$Parte\x72", "made", "LAlgebraicReals$Poly;", true)
  | 6 => ("AlgebraicReals$Parte\x72", "othe\x72", "LAlgebraicReals$Poly;", true)
  | 7 => ("AlgebraicReals$Parte\x72", "f", "LAlgebraicReals$Row;", true)
  | 8 => ("AlgebraicReals$Parte\x72", "g", "LAlgebraicReals$Row;", true)
  | 9 => ("AlgebraicReals$Parte\x72", "h", "LAlgebraicReals$Row;", true)
  | 10 => ("AlgebraicReals$Parte\x72", "v", "LAlgebraicReals$Row;", true)
  | 11 => ("AlgebraicReals$Parte\x72", "w", "LAlgebraicReals$Row;", true)
  | 12 => ("AlgebraicReals$Parte\x72", "shares", "[LAlgebraicReals$Row;", true)
  | 13 => ("AlgebraicReals$Parte\x72", "lifted", "[LAlgebraicReals$Poly;", true)
  | 14 => ("AlgebraicReals$Parte\x72", "low", "LAlgebraicReals$Big;", true)
  | 15 => ("AlgebraicReals$Parte\x72", "high", "LAlgebraicReals$Big;", true)
  | 16 => ("AlgebraicReals$Parte\x72", "t", "LAlgebraicReals$Big;", true)
  | 17 => ("AlgebraicReals$Parte\x72", "u", "LAlgebraicReals$Big;", true)
  | _ => ("AlgebraicReals$Parte\x72", "sum", "LAlgebraicReals$Big;", true)
def tyX3 : Nat → FieldType := fun k => match k with
  | 0 => .array (.object "AlgebraicReals$Poly")
  | 1 => .int
  | 2 => .object "AlgebraicReals$Tools"
  | 3 => .object "AlgebraicReals$Cutte\x72"
  | 4 => .object "AlgebraicReals$Poly"
  | 5 => .object "AlgebraicReals$Poly"
  | 6 => .object "AlgebraicReals$Poly"
  | 7 => .object "AlgebraicReals$Row"
  | 8 => .object "AlgebraicReals$Row"
  | 9 => .object "AlgebraicReals$Row"
  | 10 => .object "AlgebraicReals$Row"
  | 11 => .object "AlgebraicReals$Row"
  | 12 => .array (.object "AlgebraicReals$Row")
  | 13 => .array (.object "AlgebraicReals$Poly")
  | 14 => .object "AlgebraicReals$Big"
  | 15 => .object "AlgebraicReals$Big"
  | 16 => .object "AlgebraicReals$Big"
  | 17 => .object "AlgebraicReals$Big"
  | _ => .object "AlgebraicReals$Big"
abbrev wsX30 : List Cond := u_ws RX3 TX3 19
theorem nmX3 : ∀ a, a < 19 → ∀ b, b < 19 → a ≠ b → (TX3 a).2.1 ≠ (TX3 b).2.1 := by decide +kernel
theorem tyX3_ok : ∀ k, k < 19 → parseFieldDescriptor (TX3 k).2.2.1 = some (tyX3 k) := by decide +kernel
def RX4 : String := "AlgebraicReals$Poly"
def TX4 : u_T := fun k => match k with
  | 0 => ("AlgebraicReals$Poly", "c", "[LAlgebraicReals$Big;", true)
  | _ => ("AlgebraicReals$Poly", "deg", "I", false)
def tyX4 : Nat → FieldType := fun k => match k with
  | 0 => .array (.object "AlgebraicReals$Big")
  | _ => .int
abbrev wsX40 : List Cond := u_ws RX4 TX4 2
theorem nmX4 : ∀ a, a < 2 → ∀ b, b < 2 → a ≠ b → (TX4 a).2.1 ≠ (TX4 b).2.1 := by decide +kernel
theorem tyX4_ok : ∀ k, k < 2 → parseFieldDescriptor (TX4 k).2.2.1 = some (tyX4 k) := by decide +kernel
def RX5 : String := "AlgebraicReals$Real"
def TX5 : u_T := fun k => match k with
  | 0 => ("AlgebraicReals$Real", "least", "LAlgebraicReals$Poly;", true)
  | 1 => ("AlgebraicReals$Real", "lo", "LAlgebraicReals$Big;", true)
  | 2 => ("AlgebraicReals$Real", "hi", "LAlgebraicReals$Big;", true)
  | 3 => ("AlgebraicReals$Real", "e", "I", false)
  | 4 => ("AlgebraicReals$Real", "place", "I", false)
  | 5 => ("AlgebraicReals$Real", "count", "I", false)
  | _ => ("AlgebraicReals$Real", "side", "I", false)
def tyX5 : Nat → FieldType := fun k => match k with
  | 0 => .object "AlgebraicReals$Poly"
  | 1 => .object "AlgebraicReals$Big"
  | 2 => .object "AlgebraicReals$Big"
  | 3 => .int
  | 4 => .int
  | 5 => .int
  | _ => .int
abbrev wsX50 : List Cond := u_ws RX5 TX5 7
theorem nmX5 : ∀ a, a < 7 → ∀ b, b < 7 → a ≠ b → (TX5 a).2.1 ≠ (TX5 b).2.1 := by decide +kernel
theorem tyX5_ok : ∀ k, k < 7 → parseFieldDescriptor (TX5 k).2.2.1 = some (tyX5 k) := by decide +kernel
def RX6 : String := "AlgebraicReals$Row"
def TX6 : u_T := fun k => match k with
  | 0 => ("AlgebraicReals$Row", "c", "[J", false)
  | _ => ("AlgebraicReals$Row", "deg", "I", false)
def tyX6 : Nat → FieldType := fun k => match k with
  | 0 => .array .long
  | _ => .int
abbrev wsX60 : List Cond := u_ws RX6 TX6 2
theorem nmX6 : ∀ a, a < 2 → ∀ b, b < 2 → a ≠ b → (TX6 a).2.1 ≠ (TX6 b).2.1 := by decide +kernel
theorem tyX6_ok : ∀ k, k < 2 → parseFieldDescriptor (TX6 k).2.2.1 = some (tyX6 k) := by decide +kernel
def RX7 : String := "AlgebraicReals$Sturm"
def TX7 : u_T := fun k => match k with
  | 0 => ("AlgebraicReals$Sturm", "count", "I", false)
  | 1 => ("AlgebraicReals$Sturm", "tools", "LAlgebraicReals$Tools;", true)
  | 2 => ("AlgebraicReals$Sturm", "chain", "[LAlgebraicReals$Poly;", true)
  | 3 => ("AlgebraicReals$Sturm", "length", "I", false)
  | 4 => ("AlgebraicReals$Sturm", "lowest", "I", false)
  | 5 => ("AlgebraicReals$Sturm", "g", "LAlgebraicReals$Big;", true)
  | 6 => ("AlgebraicReals$Sturm", "h", "LAlgebraicReals$Big;", true)
  | 7 => ("AlgebraicReals$Sturm", "q", "LAlgebraicReals$Big;", true)
  | 8 => ("AlgebraicReals$Sturm", "t", "LAlgebraicReals$Big;", true)
  | _ => ("AlgebraicReals$Sturm", "u", "LAlgebraicReals$Big;", true)
def tyX7 : Nat → FieldType := fun k => match k with
  | 0 => .int
  | 1 => .object "AlgebraicReals$Tools"
  | 2 => .array (.object "AlgebraicReals$Poly")
  | 3 => .int
  | 4 => .int
  | 5 => .object "AlgebraicReals$Big"
  | 6 => .object "AlgebraicReals$Big"
  | 7 => .object "AlgebraicReals$Big"
  | 8 => .object "AlgebraicReals$Big"
  | _ => .object "AlgebraicReals$Big"
abbrev wsX70 : List Cond := u_ws RX7 TX7 10
theorem nmX7 : ∀ a, a < 10 → ∀ b, b < 10 → a ≠ b → (TX7 a).2.1 ≠ (TX7 b).2.1 := by decide +kernel
theorem tyX7_ok : ∀ k, k < 10 → parseFieldDescriptor (TX7 k).2.2.1 = some (tyX7 k) := by decide +kernel
def RX8 : String := "AlgebraicReals$Texts"
def TX8 : u_T := fun k => match k with
  | 0 => ("AlgebraicReals$Texts", "tape", "[I", true)
  | 1 => ("AlgebraicReals$Texts", "written", "[I", true)
  | 2 => ("AlgebraicReals$Texts", "size", "I", false)
  | 3 => ("AlgebraicReals$Texts", "length", "I", false)
  | 4 => ("AlgebraicReals$Texts", "steps", "I", false)
  | 5 => ("AlgebraicReals$Texts", "kinds", "[I", true)
  | 6 => ("AlgebraicReals$Texts", "firsts", "[I", true)
  | 7 => ("AlgebraicReals$Texts", "seconds", "[I", true)
  | 8 => ("AlgebraicReals$Texts", "position", "I", false)
  | 9 => ("AlgebraicReals$Texts", "token", "I", false)
  | 10 => ("AlgebraicReals$Texts", "place", "I", false)
  | 11 => ("AlgebraicReals$Texts", "numbe\x72", "I", false)
  | 12 => ("AlgebraicReals$Texts", "wrong", "I", false)
  | 13 => ("AlgebraicReals$Texts", "handles", "I", false)
  | _ => ("AlgebraicReals$Texts", "t", "LAlgebraicReals$Big;", true)
def tyX8 : Nat → FieldType := fun k => match k with
  | 0 => .array .int
  | 1 => .array .int
  | 2 => .int
  | 3 => .int
  | 4 => .int
  | 5 => .array .int
  | 6 => .array .int
  | 7 => .array .int
  | 8 => .int
  | 9 => .int
  | 10 => .int
  | 11 => .int
  | 12 => .int
  | 13 => .int
  | _ => .object "AlgebraicReals$Big"
abbrev wsX80 : List Cond := u_ws RX8 TX8 15
theorem nmX8 : ∀ a, a < 15 → ∀ b, b < 15 → a ≠ b → (TX8 a).2.1 ≠ (TX8 b).2.1 := by decide +kernel
theorem tyX8_ok : ∀ k, k < 15 → parseFieldDescriptor (TX8 k).2.2.1 = some (tyX8 k) := by decide +kernel
def RX9 : String := "AlgebraicReals$Tools"
def TX9 : u_T := fun k => match k with
  | 0 => ("AlgebraicReals$Tools", "a", "LAlgebraicReals$Big;", true)
  | 1 => ("AlgebraicReals$Tools", "b", "LAlgebraicReals$Big;", true)
  | 2 => ("AlgebraicReals$Tools", "q", "LAlgebraicReals$Big;", true)
  | 3 => ("AlgebraicReals$Tools", "t", "LAlgebraicReals$Big;", true)
  | 4 => ("AlgebraicReals$Tools", "u", "LAlgebraicReals$Big;", true)
  | 5 => ("AlgebraicReals$Tools", "work", "LAlgebraicReals$Poly;", true)
  | 6 => ("AlgebraicReals$Tools", "more", "[I", false)
  | _ => ("AlgebraicReals$Tools", "found", "I", false)
def tyX9 : Nat → FieldType := fun k => match k with
  | 0 => .object "AlgebraicReals$Big"
  | 1 => .object "AlgebraicReals$Big"
  | 2 => .object "AlgebraicReals$Big"
  | 3 => .object "AlgebraicReals$Big"
  | 4 => .object "AlgebraicReals$Big"
  | 5 => .object "AlgebraicReals$Poly"
  | 6 => .array .int
  | _ => .int
abbrev wsX90 : List Cond := u_ws RX9 TX9 8
theorem nmX9 : ∀ a, a < 8 → ∀ b, b < 8 → a ≠ b → (TX9 a).2.1 ≠ (TX9 b).2.1 := by decide +kernel
theorem tyX9_ok : ∀ k, k < 8 → parseFieldDescriptor (TX9 k).2.2.1 = some (tyX9 k) := by decide +kernel
def RX10 : String := "AlgebraicReals$Zones"
def TX10 : u_T := fun k => match k with
  | 0 => ("AlgebraicReals$Zones", "kind", "I", false)
  | 1 => ("AlgebraicReals$Zones", "facto\x72", "I", false)
  | 2 => ("AlgebraicReals$Zones", "e", "I", false)
  | 3 => ("AlgebraicReals$Zones", "ove\x72", "Z", false)
  | 4 => ("AlgebraicReals$Zones", "a", "LAlgebraicReals$Real;", false)
  | 5 => ("AlgebraicReals$Zones", "b", "LAlgebraicReals$Real;", false)
  | 6 => ("AlgebraicReals$Zones", "f", "LAlgebraicReals$Poly;", false)
  | 7 => ("AlgebraicReals$Zones", "x", "[LAlgebraicReals$Big;", true)
  | 8 => ("AlgebraicReals$Zones", "y", "[LAlgebraicReals$Big;", true)
  | 9 => ("AlgebraicReals$Zones", "z", "[LAlgebraicReals$Big;", true)
  | 10 => ("AlgebraicReals$Zones", "work", "[LAlgebraicReals$Big;", true)
  | 11 => ("AlgebraicReals$Zones", "t", "[LAlgebraicReals$Big;", true)
  | 12 => ("AlgebraicReals$Zones", "tools", "LAlgebraicReals$Tools;", true)
  | 13 => ("AlgebraicReals$Zones", "width", "LAlgebraicReals$Big;", true)
  | 14 => ("AlgebraicReals$Zones", "part", "LAlgebraicReals$Big;", true)
  | 15 => ("AlgebraicReals$Zones", "mid", "LAlgebraicReals$Big;", true)
  | 16 => ("AlgebraicReals$Zones", "othe\x72", "LAlgebraicReals$Big;", true)
  | 17 => ("AlgebraicReals$Zones", "atLo", "LAlgebraicReals$Big;", true)
  | 18 => ("AlgebraicReals$Zones", "atHi", "LAlgebraicReals$Big;", true)
  | 19 => ("AlgebraicReals$Zones", "atMid", "LAlgebraicReals$Big;", true)
  | _ => ("AlgebraicReals$Zones", "atOthe\x72", "LAlgebraicReals$Big;", true)
def tyX10 : Nat → FieldType := fun k => match k with
  | 0 => .int
  | 1 => .int
  | 2 => .int
  | 3 => .boolean
  | 4 => .object "AlgebraicReals$Real"
  | 5 => .object "AlgebraicReals$Real"
  | 6 => .object "AlgebraicReals$Poly"
  | 7 => .array (.object "AlgebraicReals$Big")
  | 8 => .array (.object "AlgebraicReals$Big")
  | 9 => .array (.object "AlgebraicReals$Big")
  | 10 => .array (.object "AlgebraicReals$Big")
  | 11 => .array (.object "AlgebraicReals$Big")
  | 12 => .object "AlgebraicReals$Tools"
  | 13 => .object "AlgebraicReals$Big"
  | 14 => .object "AlgebraicReals$Big"
  | 15 => .object "AlgebraicReals$Big"
  | 16 => .object "AlgebraicReals$Big"
  | 17 => .object "AlgebraicReals$Big"
  | 18 => .object "AlgebraicReals$Big"
  | 19 => .object "AlgebraicReals$Big"
  | _ => .object "AlgebraicReals$Big"
abbrev wsX100 : List Cond := u_ws RX10 TX10 21
theorem nmX10 : ∀ a, a < 21 → ∀ b, b < 21 → a ≠ b → (TX10 a).2.1 ≠ (TX10 b).2.1 := by decide +kernel
theorem tyX10_ok : ∀ k, k < 21 → parseFieldDescriptor (TX10 k).2.2.1 = some (tyX10 k) := by decide +kernel
def RX11 : String := "AlgebraicReals"
def TX11 : u_T := fun k => match k with
  | 0 => ("AlgebraicReals", "most", "I", true)
  | 1 => ("AlgebraicReals", "numbers", "[LAlgebraicReals$Real;", true)
  | 2 => ("AlgebraicReals", "count", "I", false)
  | 3 => ("AlgebraicReals", "told", "[LAlgebraicReals$Poly;", true)
  | 4 => ("AlgebraicReals", "toldCount", "I", false)
  | 5 => ("AlgebraicReals", "pieces", "[LAlgebraicReals$Poly;", true)
  | 6 => ("AlgebraicReals", "times", "[I", true)
  | 7 => ("AlgebraicReals", "pieceCount", "I", false)
  | 8 => ("AlgebraicReals", "fresh", "LAlgebraicReals$Real;", false)
  | 9 => ("AlgebraicReals", "stack", "[LAlgebraicReals$Real;", true)
  | 10 => ("AlgebraicReals", "tools", "LAlgebraicReals$Tools;", true)
  | 11 => ("AlgebraicReals", "norms", "LAlgebraicReals$Norms;", true)
  | 12 => ("AlgebraicReals", "parte\x72", "LAlgebraicReals$Parter;", true)
  | 13 => ("AlgebraicReals", "sturm", "LAlgebraicReals$Sturm;", true)
  | 14 => ("AlgebraicReals", "zones", "LAlgebraicReals$Zones;", true)
  | 15 => ("AlgebraicReals", "texts", "LAlgebraicReals$Texts;", true)
  | 16 => ("AlgebraicReals", "u", "LAlgebraicReals$Big;", true)
  | 17 => ("AlgebraicReals", "v", "LAlgebraicReals$Big;", true)
  | 18 => ("AlgebraicReals", "w", "LAlgebraicReals$Big;", true)
  | _ => ("AlgebraicReals", "scale", "LAlgebraicReals$Big;", true)
def tyX11 : Nat → FieldType := fun k => match k with
  | 0 => .int
  | 1 => .array (.object "AlgebraicReals$Real")
  | 2 => .int
  | 3 => .array (.object "AlgebraicReals$Poly")
  | 4 => .int
  | 5 => .array (.object "AlgebraicReals$Poly")
  | 6 => .array .int
  | 7 => .int
  | 8 => .object "AlgebraicReals$Real"
  | 9 => .array (.object "AlgebraicReals$Real")
  | 10 => .object "AlgebraicReals$Tools"
  | 11 => .object "AlgebraicReals$Norms"
  | 12 => .object "AlgebraicReals$Parte\x72"
  | 13 => .object "AlgebraicReals$Sturm"
  | 14 => .object "AlgebraicReals$Zones"
  | 15 => .object "AlgebraicReals$Texts"
  | 16 => .object "AlgebraicReals$Big"
  | 17 => .object "AlgebraicReals$Big"
  | 18 => .object "AlgebraicReals$Big"
  | _ => .object "AlgebraicReals$Big"
abbrev wsX110 : List Cond := u_ws RX11 TX11 20
theorem nmX11 : ∀ a, a < 20 → ∀ b, b < 20 → a ≠ b → (TX11 a).2.1 ≠ (TX11 b).2.1 := by decide +kernel
theorem tyX11_ok : ∀ k, k < 20 → parseFieldDescriptor (TX11 k).2.2.1 = some (tyX11 k) := by decide +kernel
def RJ6 : String := "java/lang/Intege\x72"
def RJ9 : String := "java/lang/Math"
def RJ0 : String := "java/lang/String"
def RJ10 : String := "java/lang/System"
def RJ7 : String := "java/util/Arrays"
abbrev cX0_init : ByteArray := prog_2_method_1_code
def yX0_init : MethodName := ⟨RX0, "<init>", "()V"⟩
abbrev cX0_clear : ByteArray := prog_2_method_2_code
def yX0_clear : MethodName := ⟨RX0, "clea\x72", "()V"⟩
abbrev cX0_put : ByteArray := prog_2_method_3_code
def yX0_put : MethodName := ⟨RX0, "put", "(J)V"⟩
abbrev cX0_copy : ByteArray := prog_2_method_4_code
def yX0_copy : MethodName := ⟨RX0, "copy", "(LAlgebraicReals$Big;)V"⟩
abbrev cX0_flip : ByteArray := prog_2_method_5_code
def yX0_flip : MethodName := ⟨RX0, "flip", "()V"⟩
abbrev cX0_isOne : ByteArray := prog_2_method_6_code
def yX0_isOne : MethodName := ⟨RX0, "isOne", "()Z"⟩
abbrev cX0_isOdd : ByteArray := prog_2_method_7_code
def yX0_isOdd : MethodName := ⟨RX0, "isOdd", "()Z"⟩
abbrev cX0_trim : ByteArray := prog_2_method_8_code
def yX0_trim : MethodName := ⟨RX0, "trim", "(I)V"⟩
abbrev cX0_size : ByteArray := prog_2_method_9_code
def yX0_size : MethodName := ⟨RX0, "size", "()I"⟩
abbrev cX0_against : ByteArray := prog_2_method_10_code
def yX0_against : MethodName := ⟨RX0, "against", "(LAlgebraicReals$Big;)I"⟩
abbrev cX0_join : ByteArray := prog_2_method_12_code
def yX0_join : MethodName := ⟨RX0, "join", "(LAlgebraicReals$Big;LAlgebraicReals$Big;I)V"⟩
abbrev cX0_gather : ByteArray := prog_2_method_13_code
def yX0_gather : MethodName := ⟨RX0, "gathe\x72", "(LAlgebraicReals$Big;LAlgebraicReals$Big;I)V"⟩
abbrev cX0_lessen : ByteArray := prog_2_method_14_code
def yX0_lessen : MethodName := ⟨RX0, "lessen", "(LAlgebraicReals$Big;LAlgebraicReals$Big;)V"⟩
abbrev cX0_grow : ByteArray := prog_2_method_16_code
def yX0_grow : MethodName := ⟨RX0, "grow", "()V"⟩
abbrev cX0_times : ByteArray := prog_2_method_17_code
def yX0_times : MethodName := ⟨RX0, "times", "(LAlgebraicReals$Big;LAlgebraicReals$Big;)V"⟩
abbrev cX0_scale : ByteArray := prog_2_method_18_code
def yX0_scale : MethodName := ⟨RX0, "scale", "(LAlgebraicReals$Big;J)V"⟩
abbrev cX0_raise : ByteArray := prog_2_method_21_code
def yX0_raise : MethodName := ⟨RX0, "raise", "(LAlgebraicReals$Big;I)V"⟩
abbrev cX0_lower : ByteArray := prog_2_method_22_code
def yX0_lower : MethodName := ⟨RX0, "lowe\x72", "(LAlgebraicReals$Big;IZ)V"⟩
abbrev cX0_rest : ByteArray := prog_2_method_23_code
def yX0_rest : MethodName := ⟨RX0, "rest", "(LAlgebraicReals$Big;LAlgebraicReals$Big;LAlgebraicReals$Big;)V"⟩
abbrev cX0_digit : ByteArray := prog_2_method_24_code
def yX0_digit : MethodName := ⟨RX0, "digit", "(LAlgebraicReals$Big;II)I"⟩
abbrev cX0_takes : ByteArray := prog_2_method_25_code
def yX0_takes : MethodName := ⟨RX0, "takes", "(LAlgebraicReals$Big;JII)Z"⟩
abbrev cX0_restore : ByteArray := prog_2_method_26_code
def yX0_restore : MethodName := ⟨RX0, "restore", "(LAlgebraicReals$Big;II)V"⟩
abbrev cX1_init : ByteArray := prog_3_method_1_code
def yX1_init : MethodName := ⟨RX1, "<init>", "()V"⟩
abbrev cX2_init : ByteArray := prog_4_method_1_code
def yX2_init : MethodName := ⟨RX2, "<init>", "(LAlgebraicReals$Tools;)V"⟩
abbrev cX2_cosines : ByteArray := prog_4_method_13_code
def yX2_cosines : MethodName := ⟨RX2, "cosines", "(IILAlgebraicReals$Poly;)V"⟩
abbrev cX2_square : ByteArray := prog_4_method_14_code
def yX2_square : MethodName := ⟨RX2, "square", "(I)I"⟩
abbrev cX3_init : ByteArray := prog_5_method_1_code
def yX3_init : MethodName := ⟨RX3, "<init>", "(LAlgebraicReals$Tools;)V"⟩
abbrev cX4_init : ByteArray := prog_6_method_1_code
def yX4_init : MethodName := ⟨RX4, "<init>", "()V"⟩
abbrev cX4_copy : ByteArray := prog_6_method_2_code
def yX4_copy : MethodName := ⟨RX4, "copy", "(LAlgebraicReals$Poly;)V"⟩
abbrev cX4_trim : ByteArray := prog_6_method_3_code
def yX4_trim : MethodName := ⟨RX4, "trim", "(I)V"⟩
abbrev cX4_lead : ByteArray := prog_6_method_4_code
def yX4_lead : MethodName := ⟨RX4, "lead", "()LAlgebraicReals$Big;"⟩
abbrev cX4_monomial : ByteArray := prog_6_method_11_code
def yX4_monomial : MethodName := ⟨RX4, "monomial", "(I)V"⟩
abbrev cX5_init : ByteArray := prog_7_method_1_code
def yX5_init : MethodName := ⟨RX5, "<init>", "()V"⟩
abbrev cX5_single : ByteArray := prog_7_method_3_code
def yX5_single : MethodName := ⟨RX5, "single", "()V"⟩
abbrev cX6_init : ByteArray := prog_8_method_1_code
def yX6_init : MethodName := ⟨RX6, "<init>", "()V"⟩
abbrev cX6_shared : ByteArray := prog_8_method_2_code
def yX6_shared : MethodName := ⟨RX6, "shared", "(II)I"⟩
abbrev cX6_units : ByteArray := prog_8_method_3_code
def yX6_units : MethodName := ⟨RX6, "units", "(II)I"⟩
abbrev cX7_init : ByteArray := prog_9_method_1_code
def yX7_init : MethodName := ⟨RX7, "<init>", "(LAlgebraicReals$Tools;)V"⟩
abbrev cX7_build : ByteArray := prog_9_method_2_code
def yX7_build : MethodName := ⟨RX7, "build", "(LAlgebraicReals$Poly;)V"⟩
abbrev cX7_multiply : ByteArray := prog_9_method_3_code
def yX7_multiply : MethodName := ⟨RX7, "multiply", "(LAlgebraicReals$Big;LAlgebraicReals$Big;I)V"⟩
abbrev cX7_advance : ByteArray := prog_9_method_4_code
def yX7_advance : MethodName := ⟨RX7, "advance", "(LAlgebraicReals$Big;I)V"⟩
abbrev cX7_changesFar : ByteArray := prog_9_method_5_code
def yX7_changesFar : MethodName := ⟨RX7, "changesFa\x72", "(Z)I"⟩
abbrev cX7_upTo : ByteArray := prog_9_method_6_code
def yX7_upTo : MethodName := ⟨RX7, "upTo", "(LAlgebraicReals$Big;LAlgebraicReals$Big;I)I"⟩
abbrev cX7_locate : ByteArray := prog_9_method_7_code
def yX7_locate : MethodName := ⟨RX7, "locate", "(ILAlgebraicReals$Big;LAlgebraicReals$Big;)I"⟩
abbrev cX8_init : ByteArray := prog_10_method_1_code
def yX8_init : MethodName := ⟨RX8, "<init>", "()V"⟩
abbrev cX8_take : ByteArray := prog_10_method_2_code
def yX8_take : MethodName := ⟨RX8, "take", "(I)V"⟩
abbrev cX8_parse : ByteArray := prog_10_method_3_code
def yX8_parse : MethodName := ⟨RX8, "parse", "(I)I"⟩
abbrev cX8_refuse : ByteArray := prog_10_method_4_code
def yX8_refuse : MethodName := ⟨RX8, "refuse", "()Z"⟩
abbrev cX8_advance : ByteArray := prog_10_method_6_code
def yX8_advance : MethodName := ⟨RX8, "advance", "()V"⟩
abbrev cX8_minus : ByteArray := prog_10_method_10_code
def yX8_minus : MethodName := ⟨RX8, "minus", "()Z"⟩
abbrev cX8_sum : ByteArray := prog_10_method_12_code
def yX8_sum : MethodName := ⟨RX8, "sum", "(I)Z"⟩
abbrev cX8_product : ByteArray := prog_10_method_13_code
def yX8_product : MethodName := ⟨RX8, "product", "(I)Z"⟩
abbrev cX8_raised : ByteArray := prog_10_method_14_code
def yX8_raised : MethodName := ⟨RX8, "raised", "(I)Z"⟩
abbrev cX8_atom : ByteArray := prog_10_method_15_code
def yX8_atom : MethodName := ⟨RX8, "atom", "(I)Z"⟩
abbrev cX9_init : ByteArray := prog_11_method_1_code
def yX9_init : MethodName := ⟨RX9, "<init>", "()V"⟩
abbrev cX9_tidy : ByteArray := prog_11_method_4_code
def yX9_tidy : MethodName := ⟨RX9, "tidy", "(LAlgebraicReals$Poly;)V"⟩
abbrev cX9_low : ByteArray := prog_11_method_5_code
def yX9_low : MethodName := ⟨RX9, "low", "(LAlgebraicReals$Big;)J"⟩
abbrev cX9_shared : ByteArray := prog_11_method_6_code
def yX9_shared : MethodName := ⟨RX9, "shared", "(JJ)J"⟩
abbrev cX9_slope : ByteArray := prog_11_method_7_code
def yX9_slope : MethodName := ⟨RX9, "slope", "(LAlgebraicReals$Poly;LAlgebraicReals$Poly;)V"⟩
abbrev cX9_leave : ByteArray := prog_11_method_9_code
def yX9_leave : MethodName := ⟨RX9, "leave", "(LAlgebraicReals$Poly;LAlgebraicReals$Poly;)Z"⟩
abbrev cX9_eval : ByteArray := prog_11_method_10_code
def yX9_eval : MethodName := ⟨RX9, "eval", "(LAlgebraicReals$Poly;LAlgebraicReals$Big;LAlgebraicReals$Big;ILAlgebraicReals$Big;)V"⟩
abbrev cX10_init : ByteArray := prog_12_method_1_code
def yX10_init : MethodName := ⟨RX10, "<init>", "(LAlgebraicReals$Tools;)V"⟩
abbrev cX10_pair : ByteArray := prog_12_method_2_code
def yX10_pair : MethodName := ⟨RX10, "pai\x72", "()[LAlgebraicReals$Big;"⟩
abbrev cX11_init : ByteArray := prog_1_method_1_code
def yX11_init : MethodName := ⟨RX11, "<init>", "(I)V"⟩
abbrev cX11_fraction : ByteArray := prog_1_method_2_code
def yX11_fraction : MethodName := ⟨RX11, "fraction", "(JJ)I"⟩
abbrev cX11_apply : ByteArray := prog_1_method_3_code
def yX11_apply : MethodName := ⟨RX11, "apply", "(III)I"⟩
abbrev cX11_plain : ByteArray := prog_1_method_4_code
def yX11_plain : MethodName := ⟨RX11, "plain", "(II)I"⟩
abbrev cX11_power : ByteArray := prog_1_method_5_code
def yX11_power : MethodName := ⟨RX11, "powe\x72", "(II)I"⟩
abbrev cX11_root : ByteArray := prog_1_method_6_code
def yX11_root : MethodName := ⟨RX11, "root", "(II)I"⟩
abbrev cX11_turn : ByteArray := prog_1_method_7_code
def yX11_turn : MethodName := ⟨RX11, "turn", "(JIZ)I"⟩
abbrev cX11_beside : ByteArray := prog_1_method_8_code
def yX11_beside : MethodName := ⟨RX11, "beside", "(II)I"⟩
abbrev cX11_value : ByteArray := prog_1_method_9_code
def yX11_value : MethodName := ⟨RX11, "value", "(II)I"⟩
abbrev cX11_rootOf : ByteArray := prog_1_method_10_code
def yX11_rootOf : MethodName := ⟨RX11, "rootOf", "(II)I"⟩
abbrev cX11_common : ByteArray := prog_1_method_11_code
def yX11_common : MethodName := ⟨RX11, "common", "(II)I"⟩
abbrev cX11_read : ByteArray := prog_1_method_12_code
def yX11_read : MethodName := ⟨RX11, "read", "()I"⟩
abbrev cX11_drop : ByteArray := prog_1_method_13_code
def yX11_drop : MethodName := ⟨RX11, "drop", "()I"⟩
abbrev cX11_compare : ByteArray := prog_1_method_14_code
def yX11_compare : MethodName := ⟨RX11, "compare", "(II)I"⟩
abbrev cX11_sign : ByteArray := prog_1_method_15_code
def yX11_sign : MethodName := ⟨RX11, "sign", "(I)I"⟩
abbrev cX11_about : ByteArray := prog_1_method_16_code
def yX11_about : MethodName := ⟨RX11, "about", "(II)I"⟩
abbrev cX11_within : ByteArray := prog_1_method_17_code
def yX11_within : MethodName := ⟨RX11, "within", "(II)I"⟩
abbrev cX11_polynomial : ByteArray := prog_1_method_18_code
def yX11_polynomial : MethodName := ⟨RX11, "polynomial", "()I"⟩
abbrev cX11_coefficient : ByteArray := prog_1_method_19_code
def yX11_coefficient : MethodName := ⟨RX11, "coefficient", "(IIJ)I"⟩
abbrev cX11_roots : ByteArray := prog_1_method_20_code
def yX11_roots : MethodName := ⟨RX11, "roots", "(I)I"⟩
abbrev cX11_between : ByteArray := prog_1_method_21_code
def yX11_between : MethodName := ⟨RX11, "between", "(III)I"⟩
abbrev cX11_parts : ByteArray := prog_1_method_22_code
def yX11_parts : MethodName := ⟨RX11, "parts", "(I)I"⟩
abbrev cX11_part : ByteArray := prog_1_method_23_code
def yX11_part : MethodName := ⟨RX11, "part", "(II)I"⟩
abbrev cX11_write : ByteArray := prog_1_method_24_code
def yX11_write : MethodName := ⟨RX11, "write", "(II)I"⟩
abbrev cX11_writeLeast : ByteArray := prog_1_method_25_code
def yX11_writeLeast : MethodName := ⟨RX11, "writeLeast", "(I)I"⟩
abbrev cX11_writePart : ByteArray := prog_1_method_26_code
def yX11_writePart : MethodName := ⟨RX11, "writePart", "(I)I"⟩
abbrev cX11_at : ByteArray := prog_1_method_27_code
def yX11_at : MethodName := ⟨RX11, "at", "(I)I"⟩
abbrev cX11_feed : ByteArray := prog_1_method_28_code
def yX11_feed : MethodName := ⟨RX11, "feed", "(IIIII)I"⟩
abbrev cX11_end : ByteArray := prog_1_method_29_code
def yX11_end : MethodName := ⟨RX11, "end", "(I)V"⟩
abbrev cX11_isNone : ByteArray := prog_1_method_30_code
def yX11_isNone : MethodName := ⟨RX11, "isNone", "(I)Z"⟩
abbrev cX11_isUntold : ByteArray := prog_1_method_31_code
def yX11_isUntold : MethodName := ⟨RX11, "isUntold", "(I)Z"⟩
abbrev cX11_keep : ByteArray := prog_1_method_32_code
def yX11_keep : MethodName := ⟨RX11, "keep", "()I"⟩
abbrev cX11_ratio : ByteArray := prog_1_method_34_code
def yX11_ratio : MethodName := ⟨RX11, "ratio", "(JJ)V"⟩
abbrev cX11_circle : ByteArray := prog_1_method_40_code
def yX11_circle : MethodName := ⟨RX11, "circle", "(JIZ)I"⟩
abbrev cX11_takePlace : ByteArray := prog_1_method_41_code
def yX11_takePlace : MethodName := ⟨RX11, "takePlace", "()I"⟩
abbrev cX11_finish : ByteArray := prog_1_method_42_code
def yX11_finish : MethodName := ⟨RX11, "finish", "()V"⟩
abbrev cJ9_floorDiv_7cf53 : ByteArray := prog_21_method_47_code
def yJ9_floorDiv_7cf53 : MethodName := ⟨RJ9, "floorDiv", "(II)I"⟩
abbrev cJ9_floorMod_7cf53 : ByteArray := prog_21_method_50_code
def yJ9_floorMod_7cf53 : MethodName := ⟨RJ9, "floorMod", "(II)I"⟩
abbrev cJ9_floorMod_f86c9 : ByteArray := prog_21_method_52_code
def yJ9_floorMod_f86c9 : MethodName := ⟨RJ9, "floorMod", "(JJ)J"⟩
abbrev cJ7_fill_d0a16 : ByteArray := prog_26_method_101_code
def yJ7_fill_d0a16 : MethodName := ⟨RJ7, "fill", "([JJ)V"⟩
abbrev cJ7_copyOf_59c91 : ByteArray := prog_26_method_123_code
def yJ7_copyOf_59c91 : MethodName := ⟨RJ7, "copyOf", "([II)[I"⟩
theorem dX0_init_0 : decode cX0_init 0 = .ok (.aload_n 0, 1) := by decide +kernel
theorem dX0_init_1 : decode cX0_init 1 = .ok (.invokespecial 3, 3) := by decide +kernel
theorem dX0_init_4 : decode cX0_init 4 = .ok (.aload_n 0, 1) := by decide +kernel
theorem dX0_init_5 : decode cX0_init 5 = .ok (.iconst 5, 1) := by decide +kernel
theorem dX0_init_6 : decode cX0_init 6 = .ok (.newarray .int, 2) := by decide +kernel
theorem dX0_init_8 : decode cX0_init 8 = .ok (.putfield 9, 3) := by decide +kernel
theorem dX0_init_11 : decode cX0_init 11 = .ok (.return_, 1) := by decide +kernel
theorem dX0_clear_0 : decode cX0_clear 0 = .ok (.aload_n 0, 1) := by decide +kernel
theorem dX0_clear_1 : decode cX0_clear 1 = .ok (.iconst 0, 1) := by decide +kernel
theorem dX0_clear_2 : decode cX0_clear 2 = .ok (.putfield 13, 3) := by decide +kernel
theorem dX0_clear_5 : decode cX0_clear 5 = .ok (.aload_n 0, 1) := by decide +kernel
theorem dX0_clear_6 : decode cX0_clear 6 = .ok (.iconst 0, 1) := by decide +kernel
theorem dX0_clear_7 : decode cX0_clear 7 = .ok (.putfield 17, 3) := by decide +kernel
theorem dX0_clear_10 : decode cX0_clear 10 = .ok (.return_, 1) := by decide +kernel
theorem dX0_put_0 : decode cX0_put 0 = .ok (.aload_n 0, 1) := by decide +kernel
theorem dX0_put_1 : decode cX0_put 1 = .ok (.lload_n 1, 1) := by decide +kernel
theorem dX0_put_2 : decode cX0_put 2 = .ok (.lconst 0, 1) := by decide +kernel
theorem dX0_put_3 : decode cX0_put 3 = .ok (.lcmp, 1) := by decide +kernel
theorem dX0_put_4 : decode cX0_put 4 = .ok (.ifCond .le 7, 3) := by decide +kernel
theorem dX0_put_7 : decode cX0_put 7 = .ok (.iconst 1, 1) := by decide +kernel
theorem dX0_put_8 : decode cX0_put 8 = .ok (.goto 14, 3) := by decide +kernel
theorem dX0_put_11 : decode cX0_put 11 = .ok (.lload_n 1, 1) := by decide +kernel
theorem dX0_put_12 : decode cX0_put 12 = .ok (.lconst 0, 1) := by decide +kernel
theorem dX0_put_13 : decode cX0_put 13 = .ok (.lcmp, 1) := by decide +kernel
theorem dX0_put_14 : decode cX0_put 14 = .ok (.ifCond .ge 7, 3) := by decide +kernel
theorem dX0_put_17 : decode cX0_put 17 = .ok (.iconst (-1), 1) := by decide +kernel
theorem dX0_put_18 : decode cX0_put 18 = .ok (.goto 4, 3) := by decide +kernel
theorem dX0_put_21 : decode cX0_put 21 = .ok (.iconst 0, 1) := by decide +kernel
theorem dX0_put_22 : decode cX0_put 22 = .ok (.putfield 17, 3) := by decide +kernel
theorem dX0_put_25 : decode cX0_put 25 = .ok (.lload_n 1, 1) := by decide +kernel
theorem dX0_put_26 : decode cX0_put 26 = .ok (.lconst 0, 1) := by decide +kernel
theorem dX0_put_27 : decode cX0_put 27 = .ok (.lcmp, 1) := by decide +kernel
theorem dX0_put_28 : decode cX0_put 28 = .ok (.ifCond .ge 8, 3) := by decide +kernel
theorem dX0_put_31 : decode cX0_put 31 = .ok (.lload_n 1, 1) := by decide +kernel
theorem dX0_put_32 : decode cX0_put 32 = .ok (.lneg, 1) := by decide +kernel
theorem dX0_put_33 : decode cX0_put 33 = .ok (.goto 4, 3) := by decide +kernel
theorem dX0_put_36 : decode cX0_put 36 = .ok (.lload_n 1, 1) := by decide +kernel
theorem dX0_put_37 : decode cX0_put 37 = .ok (.lstore_n 3, 1) := by decide +kernel
theorem dX0_put_38 : decode cX0_put 38 = .ok (.aload_n 0, 1) := by decide +kernel
theorem dX0_put_39 : decode cX0_put 39 = .ok (.iconst 0, 1) := by decide +kernel
theorem dX0_put_40 : decode cX0_put 40 = .ok (.putfield 13, 3) := by decide +kernel
theorem dX0_put_43 : decode cX0_put 43 = .ok (.iconst 0, 1) := by decide +kernel
theorem dX0_put_44 : decode cX0_put 44 = .ok (.istore 5, 2) := by decide +kernel
theorem dX0_put_46 : decode cX0_put 46 = .ok (.iload 5, 2) := by decide +kernel
theorem dX0_put_48 : decode cX0_put 48 = .ok (.iconst 3, 1) := by decide +kernel
theorem dX0_put_49 : decode cX0_put 49 = .ok (.if_icmp .ge 45, 3) := by decide +kernel
theorem dX0_put_52 : decode cX0_put 52 = .ok (.aload_n 0, 1) := by decide +kernel
theorem dX0_put_53 : decode cX0_put 53 = .ok (.getfield 9, 3) := by decide +kernel
theorem dX0_put_56 : decode cX0_put 56 = .ok (.iload 5, 2) := by decide +kernel
theorem dX0_put_58 : decode cX0_put 58 = .ok (.lload_n 3, 1) := by decide +kernel
theorem dX0_put_59 : decode cX0_put 59 = .ok (.ldc2_w 20, 3) := by decide +kernel
theorem dX0_put_62 : decode cX0_put 62 = .ok (.land, 1) := by decide +kernel
theorem dX0_put_63 : decode cX0_put 63 = .ok (.l2i, 1) := by decide +kernel
theorem dX0_put_64 : decode cX0_put 64 = .ok (.iastore, 1) := by decide +kernel
theorem dX0_put_65 : decode cX0_put 65 = .ok (.lload_n 3, 1) := by decide +kernel
theorem dX0_put_66 : decode cX0_put 66 = .ok (.bipush 30, 2) := by decide +kernel
theorem dX0_put_68 : decode cX0_put 68 = .ok (.lushr, 1) := by decide +kernel
theorem dX0_put_69 : decode cX0_put 69 = .ok (.lstore_n 3, 1) := by decide +kernel
theorem dX0_put_70 : decode cX0_put 70 = .ok (.aload_n 0, 1) := by decide +kernel
theorem dX0_put_71 : decode cX0_put 71 = .ok (.getfield 9, 3) := by decide +kernel
theorem dX0_put_74 : decode cX0_put 74 = .ok (.iload 5, 2) := by decide +kernel
theorem dX0_put_76 : decode cX0_put 76 = .ok (.iaload, 1) := by decide +kernel
theorem dX0_put_77 : decode cX0_put 77 = .ok (.ifCond .eq 11, 3) := by decide +kernel
theorem dX0_put_80 : decode cX0_put 80 = .ok (.aload_n 0, 1) := by decide +kernel
theorem dX0_put_81 : decode cX0_put 81 = .ok (.iload 5, 2) := by decide +kernel
theorem dX0_put_83 : decode cX0_put 83 = .ok (.iconst 1, 1) := by decide +kernel
theorem dX0_put_84 : decode cX0_put 84 = .ok (.iadd, 1) := by decide +kernel
theorem dX0_put_85 : decode cX0_put 85 = .ok (.putfield 13, 3) := by decide +kernel
theorem dX0_put_88 : decode cX0_put 88 = .ok (.iinc 5 1, 3) := by decide +kernel
theorem dX0_put_91 : decode cX0_put 91 = .ok (.goto (-45), 3) := by decide +kernel
theorem dX0_put_94 : decode cX0_put 94 = .ok (.return_, 1) := by decide +kernel
theorem dX0_copy_0 : decode cX0_copy 0 = .ok (.aload_n 1, 1) := by decide +kernel
theorem dX0_copy_1 : decode cX0_copy 1 = .ok (.getfield 13, 3) := by decide +kernel
theorem dX0_copy_4 : decode cX0_copy 4 = .ok (.aload_n 0, 1) := by decide +kernel
theorem dX0_copy_5 : decode cX0_copy 5 = .ok (.getfield 9, 3) := by decide +kernel
theorem dX0_copy_8 : decode cX0_copy 8 = .ok (.arraylength, 1) := by decide +kernel
theorem dX0_copy_9 : decode cX0_copy 9 = .ok (.if_icmp .le 15, 3) := by decide +kernel
theorem dX0_copy_12 : decode cX0_copy 12 = .ok (.aload_n 0, 1) := by decide +kernel
theorem dX0_copy_13 : decode cX0_copy 13 = .ok (.iconst 2, 1) := by decide +kernel
theorem dX0_copy_14 : decode cX0_copy 14 = .ok (.aload_n 1, 1) := by decide +kernel
theorem dX0_copy_15 : decode cX0_copy 15 = .ok (.getfield 13, 3) := by decide +kernel
theorem dX0_copy_18 : decode cX0_copy 18 = .ok (.imul, 1) := by decide +kernel
theorem dX0_copy_19 : decode cX0_copy 19 = .ok (.newarray .int, 2) := by decide +kernel
theorem dX0_copy_21 : decode cX0_copy 21 = .ok (.putfield 9, 3) := by decide +kernel
theorem dX0_copy_24 : decode cX0_copy 24 = .ok (.aload_n 1, 1) := by decide +kernel
theorem dX0_copy_25 : decode cX0_copy 25 = .ok (.getfield 9, 3) := by decide +kernel
theorem dX0_copy_28 : decode cX0_copy 28 = .ok (.iconst 0, 1) := by decide +kernel
theorem dX0_copy_29 : decode cX0_copy 29 = .ok (.aload_n 0, 1) := by decide +kernel
theorem dX0_copy_30 : decode cX0_copy 30 = .ok (.getfield 9, 3) := by decide +kernel
theorem dX0_copy_33 : decode cX0_copy 33 = .ok (.iconst 0, 1) := by decide +kernel
theorem dX0_copy_34 : decode cX0_copy 34 = .ok (.aload_n 1, 1) := by decide +kernel
theorem dX0_copy_35 : decode cX0_copy 35 = .ok (.getfield 13, 3) := by decide +kernel
theorem dX0_copy_38 : decode cX0_copy 38 = .ok (.invokestatic 22, 3) := by decide +kernel
theorem dX0_copy_41 : decode cX0_copy 41 = .ok (.aload_n 0, 1) := by decide +kernel
theorem dX0_copy_42 : decode cX0_copy 42 = .ok (.aload_n 1, 1) := by decide +kernel
theorem dX0_copy_43 : decode cX0_copy 43 = .ok (.getfield 13, 3) := by decide +kernel
theorem dX0_copy_46 : decode cX0_copy 46 = .ok (.putfield 13, 3) := by decide +kernel
theorem dX0_copy_49 : decode cX0_copy 49 = .ok (.aload_n 0, 1) := by decide +kernel
theorem dX0_copy_50 : decode cX0_copy 50 = .ok (.aload_n 1, 1) := by decide +kernel
theorem dX0_copy_51 : decode cX0_copy 51 = .ok (.getfield 17, 3) := by decide +kernel
theorem dX0_copy_54 : decode cX0_copy 54 = .ok (.putfield 17, 3) := by decide +kernel
theorem dX0_copy_57 : decode cX0_copy 57 = .ok (.return_, 1) := by decide +kernel
theorem dX0_flip_0 : decode cX0_flip 0 = .ok (.aload_n 0, 1) := by decide +kernel
theorem dX0_flip_1 : decode cX0_flip 1 = .ok (.aload_n 0, 1) := by decide +kernel
theorem dX0_flip_2 : decode cX0_flip 2 = .ok (.getfield 17, 3) := by decide +kernel
theorem dX0_flip_5 : decode cX0_flip 5 = .ok (.ineg, 1) := by decide +kernel
theorem dX0_flip_6 : decode cX0_flip 6 = .ok (.putfield 17, 3) := by decide +kernel
theorem dX0_flip_9 : decode cX0_flip 9 = .ok (.return_, 1) := by decide +kernel
theorem dX0_isOne_0 : decode cX0_isOne 0 = .ok (.aload_n 0, 1) := by decide +kernel
theorem dX0_isOne_1 : decode cX0_isOne 1 = .ok (.getfield 13, 3) := by decide +kernel
theorem dX0_isOne_4 : decode cX0_isOne 4 = .ok (.iconst 1, 1) := by decide +kernel
theorem dX0_isOne_5 : decode cX0_isOne 5 = .ok (.if_icmp .ne 17, 3) := by decide +kernel
theorem dX0_isOne_8 : decode cX0_isOne 8 = .ok (.aload_n 0, 1) := by decide +kernel
theorem dX0_isOne_9 : decode cX0_isOne 9 = .ok (.getfield 9, 3) := by decide +kernel
theorem dX0_isOne_12 : decode cX0_isOne 12 = .ok (.iconst 0, 1) := by decide +kernel
theorem dX0_isOne_13 : decode cX0_isOne 13 = .ok (.iaload, 1) := by decide +kernel
theorem dX0_isOne_14 : decode cX0_isOne 14 = .ok (.iconst 1, 1) := by decide +kernel
theorem dX0_isOne_15 : decode cX0_isOne 15 = .ok (.if_icmp .ne 7, 3) := by decide +kernel
theorem dX0_isOne_18 : decode cX0_isOne 18 = .ok (.iconst 1, 1) := by decide +kernel
theorem dX0_isOne_19 : decode cX0_isOne 19 = .ok (.goto 4, 3) := by decide +kernel
theorem dX0_isOne_22 : decode cX0_isOne 22 = .ok (.iconst 0, 1) := by decide +kernel
theorem dX0_isOne_23 : decode cX0_isOne 23 = .ok (.ireturn, 1) := by decide +kernel
theorem dX0_isOdd_0 : decode cX0_isOdd 0 = .ok (.aload_n 0, 1) := by decide +kernel
theorem dX0_isOdd_1 : decode cX0_isOdd 1 = .ok (.getfield 13, 3) := by decide +kernel
theorem dX0_isOdd_4 : decode cX0_isOdd 4 = .ok (.ifCond .le 18, 3) := by decide +kernel
theorem dX0_isOdd_7 : decode cX0_isOdd 7 = .ok (.aload_n 0, 1) := by decide +kernel
theorem dX0_isOdd_8 : decode cX0_isOdd 8 = .ok (.getfield 9, 3) := by decide +kernel
theorem dX0_isOdd_11 : decode cX0_isOdd 11 = .ok (.iconst 0, 1) := by decide +kernel
theorem dX0_isOdd_12 : decode cX0_isOdd 12 = .ok (.iaload, 1) := by decide +kernel
theorem dX0_isOdd_13 : decode cX0_isOdd 13 = .ok (.iconst 1, 1) := by decide +kernel
theorem dX0_isOdd_14 : decode cX0_isOdd 14 = .ok (.iand, 1) := by decide +kernel
theorem dX0_isOdd_15 : decode cX0_isOdd 15 = .ok (.ifCond .eq 7, 3) := by decide +kernel
theorem dX0_isOdd_18 : decode cX0_isOdd 18 = .ok (.iconst 1, 1) := by decide +kernel
theorem dX0_isOdd_19 : decode cX0_isOdd 19 = .ok (.goto 4, 3) := by decide +kernel
theorem dX0_isOdd_22 : decode cX0_isOdd 22 = .ok (.iconst 0, 1) := by decide +kernel
theorem dX0_isOdd_23 : decode cX0_isOdd 23 = .ok (.ireturn, 1) := by decide +kernel
theorem dX0_trim_0 : decode cX0_trim 0 = .ok (.aload_n 0, 1) := by decide +kernel
theorem dX0_trim_1 : decode cX0_trim 1 = .ok (.iload_n 1, 1) := by decide +kernel
theorem dX0_trim_2 : decode cX0_trim 2 = .ok (.aload_n 0, 1) := by decide +kernel
theorem dX0_trim_3 : decode cX0_trim 3 = .ok (.getfield 9, 3) := by decide +kernel
theorem dX0_trim_6 : decode cX0_trim 6 = .ok (.arraylength, 1) := by decide +kernel
theorem dX0_trim_7 : decode cX0_trim 7 = .ok (.if_icmp .ge 7, 3) := by decide +kernel
theorem dX0_trim_10 : decode cX0_trim 10 = .ok (.iload_n 1, 1) := by decide +kernel
theorem dX0_trim_11 : decode cX0_trim 11 = .ok (.goto 8, 3) := by decide +kernel
theorem dX0_trim_14 : decode cX0_trim 14 = .ok (.aload_n 0, 1) := by decide +kernel
theorem dX0_trim_15 : decode cX0_trim 15 = .ok (.getfield 9, 3) := by decide +kernel
theorem dX0_trim_18 : decode cX0_trim 18 = .ok (.arraylength, 1) := by decide +kernel
theorem dX0_trim_19 : decode cX0_trim 19 = .ok (.putfield 13, 3) := by decide +kernel
theorem dX0_trim_22 : decode cX0_trim 22 = .ok (.aload_n 0, 1) := by decide +kernel
theorem dX0_trim_23 : decode cX0_trim 23 = .ok (.getfield 13, 3) := by decide +kernel
theorem dX0_trim_26 : decode cX0_trim 26 = .ok (.ifCond .le 30, 3) := by decide +kernel
theorem dX0_trim_29 : decode cX0_trim 29 = .ok (.aload_n 0, 1) := by decide +kernel
theorem dX0_trim_30 : decode cX0_trim 30 = .ok (.getfield 9, 3) := by decide +kernel
theorem dX0_trim_33 : decode cX0_trim 33 = .ok (.aload_n 0, 1) := by decide +kernel
theorem dX0_trim_34 : decode cX0_trim 34 = .ok (.getfield 13, 3) := by decide +kernel
theorem dX0_trim_37 : decode cX0_trim 37 = .ok (.iconst 1, 1) := by decide +kernel
theorem dX0_trim_38 : decode cX0_trim 38 = .ok (.isub, 1) := by decide +kernel
theorem dX0_trim_39 : decode cX0_trim 39 = .ok (.iaload, 1) := by decide +kernel
theorem dX0_trim_40 : decode cX0_trim 40 = .ok (.ifCond .ne 16, 3) := by decide +kernel
theorem dX0_trim_43 : decode cX0_trim 43 = .ok (.aload_n 0, 1) := by decide +kernel
theorem dX0_trim_44 : decode cX0_trim 44 = .ok (.dup, 1) := by decide +kernel
theorem dX0_trim_45 : decode cX0_trim 45 = .ok (.getfield 13, 3) := by decide +kernel
theorem dX0_trim_48 : decode cX0_trim 48 = .ok (.iconst 1, 1) := by decide +kernel
theorem dX0_trim_49 : decode cX0_trim 49 = .ok (.isub, 1) := by decide +kernel
theorem dX0_trim_50 : decode cX0_trim 50 = .ok (.putfield 13, 3) := by decide +kernel
theorem dX0_trim_53 : decode cX0_trim 53 = .ok (.goto (-31), 3) := by decide +kernel
theorem dX0_trim_56 : decode cX0_trim 56 = .ok (.aload_n 0, 1) := by decide +kernel
theorem dX0_trim_57 : decode cX0_trim 57 = .ok (.getfield 13, 3) := by decide +kernel
theorem dX0_trim_60 : decode cX0_trim 60 = .ok (.ifCond .ne 8, 3) := by decide +kernel
theorem dX0_trim_63 : decode cX0_trim 63 = .ok (.aload_n 0, 1) := by decide +kernel
theorem dX0_trim_64 : decode cX0_trim 64 = .ok (.iconst 0, 1) := by decide +kernel
theorem dX0_trim_65 : decode cX0_trim 65 = .ok (.putfield 17, 3) := by decide +kernel
theorem dX0_trim_68 : decode cX0_trim 68 = .ok (.return_, 1) := by decide +kernel
theorem dX0_size_0 : decode cX0_size 0 = .ok (.aload_n 0, 1) := by decide +kernel
theorem dX0_size_1 : decode cX0_size 1 = .ok (.getfield 13, 3) := by decide +kernel
theorem dX0_size_4 : decode cX0_size 4 = .ok (.ifCond .ne 5, 3) := by decide +kernel
theorem dX0_size_7 : decode cX0_size 7 = .ok (.iconst 0, 1) := by decide +kernel
theorem dX0_size_8 : decode cX0_size 8 = .ok (.ireturn, 1) := by decide +kernel
theorem dX0_size_9 : decode cX0_size 9 = .ok (.aload_n 0, 1) := by decide +kernel
theorem dX0_size_10 : decode cX0_size 10 = .ok (.getfield 13, 3) := by decide +kernel
theorem dX0_size_13 : decode cX0_size 13 = .ok (.iconst 1, 1) := by decide +kernel
theorem dX0_size_14 : decode cX0_size 14 = .ok (.isub, 1) := by decide +kernel
theorem dX0_size_15 : decode cX0_size 15 = .ok (.bipush 30, 2) := by decide +kernel
theorem dX0_size_17 : decode cX0_size 17 = .ok (.imul, 1) := by decide +kernel
theorem dX0_size_18 : decode cX0_size 18 = .ok (.istore_n 1, 1) := by decide +kernel
theorem dX0_size_19 : decode cX0_size 19 = .ok (.iconst 0, 1) := by decide +kernel
theorem dX0_size_20 : decode cX0_size 20 = .ok (.istore_n 2, 1) := by decide +kernel
theorem dX0_size_21 : decode cX0_size 21 = .ok (.iload_n 2, 1) := by decide +kernel
theorem dX0_size_22 : decode cX0_size 22 = .ok (.bipush 30, 2) := by decide +kernel
theorem dX0_size_24 : decode cX0_size 24 = .ok (.if_icmp .ge 28, 3) := by decide +kernel
theorem dX0_size_27 : decode cX0_size 27 = .ok (.aload_n 0, 1) := by decide +kernel
theorem dX0_size_28 : decode cX0_size 28 = .ok (.getfield 9, 3) := by decide +kernel
theorem dX0_size_31 : decode cX0_size 31 = .ok (.aload_n 0, 1) := by decide +kernel
theorem dX0_size_32 : decode cX0_size 32 = .ok (.getfield 13, 3) := by decide +kernel
theorem dX0_size_35 : decode cX0_size 35 = .ok (.iconst 1, 1) := by decide +kernel
theorem dX0_size_36 : decode cX0_size 36 = .ok (.isub, 1) := by decide +kernel
theorem dX0_size_37 : decode cX0_size 37 = .ok (.iaload, 1) := by decide +kernel
theorem dX0_size_38 : decode cX0_size 38 = .ok (.iload_n 2, 1) := by decide +kernel
theorem dX0_size_39 : decode cX0_size 39 = .ok (.iushr, 1) := by decide +kernel
theorem dX0_size_40 : decode cX0_size 40 = .ok (.ifCond .eq 12, 3) := by decide +kernel
theorem dX0_size_43 : decode cX0_size 43 = .ok (.iinc 1 1, 3) := by decide +kernel
theorem dX0_size_46 : decode cX0_size 46 = .ok (.iinc 2 1, 3) := by decide +kernel
theorem dX0_size_49 : decode cX0_size 49 = .ok (.goto (-28), 3) := by decide +kernel
theorem dX0_size_52 : decode cX0_size 52 = .ok (.iload_n 1, 1) := by decide +kernel
theorem dX0_size_53 : decode cX0_size 53 = .ok (.ireturn, 1) := by decide +kernel
theorem dX0_against_0 : decode cX0_against 0 = .ok (.aload_n 0, 1) := by decide +kernel
theorem dX0_against_1 : decode cX0_against 1 = .ok (.getfield 13, 3) := by decide +kernel
theorem dX0_against_4 : decode cX0_against 4 = .ok (.aload_n 1, 1) := by decide +kernel
theorem dX0_against_5 : decode cX0_against 5 = .ok (.getfield 13, 3) := by decide +kernel
theorem dX0_against_8 : decode cX0_against 8 = .ok (.if_icmp .eq 20, 3) := by decide +kernel
theorem dX0_against_11 : decode cX0_against 11 = .ok (.aload_n 0, 1) := by decide +kernel
theorem dX0_against_12 : decode cX0_against 12 = .ok (.getfield 13, 3) := by decide +kernel
theorem dX0_against_15 : decode cX0_against 15 = .ok (.aload_n 1, 1) := by decide +kernel
theorem dX0_against_16 : decode cX0_against 16 = .ok (.getfield 13, 3) := by decide +kernel
theorem dX0_against_19 : decode cX0_against 19 = .ok (.if_icmp .ge 7, 3) := by decide +kernel
theorem dX0_against_22 : decode cX0_against 22 = .ok (.iconst (-1), 1) := by decide +kernel
theorem dX0_against_23 : decode cX0_against 23 = .ok (.goto 4, 3) := by decide +kernel
theorem dX0_against_26 : decode cX0_against 26 = .ok (.iconst 1, 1) := by decide +kernel
theorem dX0_against_27 : decode cX0_against 27 = .ok (.ireturn, 1) := by decide +kernel
theorem dX0_against_28 : decode cX0_against 28 = .ok (.aload_n 0, 1) := by decide +kernel
theorem dX0_against_29 : decode cX0_against 29 = .ok (.getfield 13, 3) := by decide +kernel
theorem dX0_against_32 : decode cX0_against 32 = .ok (.iconst 1, 1) := by decide +kernel
theorem dX0_against_33 : decode cX0_against 33 = .ok (.isub, 1) := by decide +kernel
theorem dX0_against_34 : decode cX0_against 34 = .ok (.istore_n 2, 1) := by decide +kernel
theorem dX0_against_35 : decode cX0_against 35 = .ok (.iload_n 2, 1) := by decide +kernel
theorem dX0_against_36 : decode cX0_against 36 = .ok (.ifCond .lt 45, 3) := by decide +kernel
theorem dX0_against_39 : decode cX0_against 39 = .ok (.aload_n 0, 1) := by decide +kernel
theorem dX0_against_40 : decode cX0_against 40 = .ok (.getfield 9, 3) := by decide +kernel
theorem dX0_against_43 : decode cX0_against 43 = .ok (.iload_n 2, 1) := by decide +kernel
theorem dX0_against_44 : decode cX0_against 44 = .ok (.iaload, 1) := by decide +kernel
theorem dX0_against_45 : decode cX0_against 45 = .ok (.aload_n 1, 1) := by decide +kernel
theorem dX0_against_46 : decode cX0_against 46 = .ok (.getfield 9, 3) := by decide +kernel
theorem dX0_against_49 : decode cX0_against 49 = .ok (.iload_n 2, 1) := by decide +kernel
theorem dX0_against_50 : decode cX0_against 50 = .ok (.iaload, 1) := by decide +kernel
theorem dX0_against_51 : decode cX0_against 51 = .ok (.if_icmp .eq 24, 3) := by decide +kernel
theorem dX0_against_54 : decode cX0_against 54 = .ok (.aload_n 0, 1) := by decide +kernel
theorem dX0_against_55 : decode cX0_against 55 = .ok (.getfield 9, 3) := by decide +kernel
theorem dX0_against_58 : decode cX0_against 58 = .ok (.iload_n 2, 1) := by decide +kernel
theorem dX0_against_59 : decode cX0_against 59 = .ok (.iaload, 1) := by decide +kernel
theorem dX0_against_60 : decode cX0_against 60 = .ok (.aload_n 1, 1) := by decide +kernel
theorem dX0_against_61 : decode cX0_against 61 = .ok (.getfield 9, 3) := by decide +kernel
theorem dX0_against_64 : decode cX0_against 64 = .ok (.iload_n 2, 1) := by decide +kernel
theorem dX0_against_65 : decode cX0_against 65 = .ok (.iaload, 1) := by decide +kernel
theorem dX0_against_66 : decode cX0_against 66 = .ok (.if_icmp .ge 7, 3) := by decide +kernel
theorem dX0_against_69 : decode cX0_against 69 = .ok (.iconst (-1), 1) := by decide +kernel
theorem dX0_against_70 : decode cX0_against 70 = .ok (.goto 4, 3) := by decide +kernel
theorem dX0_against_73 : decode cX0_against 73 = .ok (.iconst 1, 1) := by decide +kernel
theorem dX0_against_74 : decode cX0_against 74 = .ok (.ireturn, 1) := by decide +kernel
theorem dX0_against_75 : decode cX0_against 75 = .ok (.iinc 2 (-1), 3) := by decide +kernel
theorem dX0_against_78 : decode cX0_against 78 = .ok (.goto (-43), 3) := by decide +kernel
theorem dX0_against_81 : decode cX0_against 81 = .ok (.iconst 0, 1) := by decide +kernel
theorem dX0_against_82 : decode cX0_against 82 = .ok (.ireturn, 1) := by decide +kernel
theorem dX0_join_0 : decode cX0_join 0 = .ok (.aload_n 1, 1) := by decide +kernel
theorem dX0_join_1 : decode cX0_join 1 = .ok (.getfield 17, 3) := by decide +kernel
theorem dX0_join_4 : decode cX0_join 4 = .ok (.istore 4, 2) := by decide +kernel
theorem dX0_join_6 : decode cX0_join 6 = .ok (.iload_n 3, 1) := by decide +kernel
theorem dX0_join_7 : decode cX0_join 7 = .ok (.ifCond .ge 11, 3) := by decide +kernel
theorem dX0_join_10 : decode cX0_join 10 = .ok (.aload_n 2, 1) := by decide +kernel
theorem dX0_join_11 : decode cX0_join 11 = .ok (.getfield 17, 3) := by decide +kernel
theorem dX0_join_14 : decode cX0_join 14 = .ok (.ineg, 1) := by decide +kernel
theorem dX0_join_15 : decode cX0_join 15 = .ok (.goto 7, 3) := by decide +kernel
theorem dX0_join_18 : decode cX0_join 18 = .ok (.aload_n 2, 1) := by decide +kernel
theorem dX0_join_19 : decode cX0_join 19 = .ok (.getfield 17, 3) := by decide +kernel
theorem dX0_join_22 : decode cX0_join 22 = .ok (.istore 5, 2) := by decide +kernel
theorem dX0_join_24 : decode cX0_join 24 = .ok (.iload 4, 2) := by decide +kernel
theorem dX0_join_26 : decode cX0_join 26 = .ok (.ifCond .eq 8, 3) := by decide +kernel
theorem dX0_join_29 : decode cX0_join 29 = .ok (.iload 5, 2) := by decide +kernel
theorem dX0_join_31 : decode cX0_join 31 = .ok (.ifCond .ne 34, 3) := by decide +kernel
theorem dX0_join_34 : decode cX0_join 34 = .ok (.aload_n 0, 1) := by decide +kernel
theorem dX0_join_35 : decode cX0_join 35 = .ok (.iload 5, 2) := by decide +kernel
theorem dX0_join_37 : decode cX0_join 37 = .ok (.ifCond .ne 7, 3) := by decide +kernel
theorem dX0_join_40 : decode cX0_join 40 = .ok (.aload_n 1, 1) := by decide +kernel
theorem dX0_join_41 : decode cX0_join 41 = .ok (.goto 4, 3) := by decide +kernel
theorem dX0_join_44 : decode cX0_join 44 = .ok (.aload_n 2, 1) := by decide +kernel
theorem dX0_join_45 : decode cX0_join 45 = .ok (.invokevirtual 32, 3) := by decide +kernel
theorem dX0_join_48 : decode cX0_join 48 = .ok (.aload_n 0, 1) := by decide +kernel
theorem dX0_join_49 : decode cX0_join 49 = .ok (.iload 5, 2) := by decide +kernel
theorem dX0_join_51 : decode cX0_join 51 = .ok (.ifCond .ne 8, 3) := by decide +kernel
theorem dX0_join_54 : decode cX0_join 54 = .ok (.iload 4, 2) := by decide +kernel
theorem dX0_join_56 : decode cX0_join 56 = .ok (.goto 5, 3) := by decide +kernel
theorem dX0_join_59 : decode cX0_join 59 = .ok (.iload 5, 2) := by decide +kernel
theorem dX0_join_61 : decode cX0_join 61 = .ok (.putfield 17, 3) := by decide +kernel
theorem dX0_join_64 : decode cX0_join 64 = .ok (.return_, 1) := by decide +kernel
theorem dX0_join_65 : decode cX0_join 65 = .ok (.aload_n 1, 1) := by decide +kernel
theorem dX0_join_66 : decode cX0_join 66 = .ok (.getfield 13, 3) := by decide +kernel
theorem dX0_join_69 : decode cX0_join 69 = .ok (.aload_n 2, 1) := by decide +kernel
theorem dX0_join_70 : decode cX0_join 70 = .ok (.getfield 13, 3) := by decide +kernel
theorem dX0_join_73 : decode cX0_join 73 = .ok (.invokestatic 36, 3) := by decide +kernel
theorem dX0_join_76 : decode cX0_join 76 = .ok (.istore 6, 2) := by decide +kernel
theorem dX0_join_78 : decode cX0_join 78 = .ok (.iload 6, 2) := by decide +kernel
theorem dX0_join_80 : decode cX0_join 80 = .ok (.aload_n 0, 1) := by decide +kernel
theorem dX0_join_81 : decode cX0_join 81 = .ok (.getfield 9, 3) := by decide +kernel
theorem dX0_join_84 : decode cX0_join 84 = .ok (.arraylength, 1) := by decide +kernel
theorem dX0_join_85 : decode cX0_join 85 = .ok (.if_icmp .lt 20, 3) := by decide +kernel
theorem dX0_join_88 : decode cX0_join 88 = .ok (.aload_n 0, 1) := by decide +kernel
theorem dX0_join_89 : decode cX0_join 89 = .ok (.aload_n 0, 1) := by decide +kernel
theorem dX0_join_90 : decode cX0_join 90 = .ok (.getfield 9, 3) := by decide +kernel
theorem dX0_join_93 : decode cX0_join 93 = .ok (.iconst 2, 1) := by decide +kernel
theorem dX0_join_94 : decode cX0_join 94 = .ok (.iload 6, 2) := by decide +kernel
theorem dX0_join_96 : decode cX0_join 96 = .ok (.imul, 1) := by decide +kernel
theorem dX0_join_97 : decode cX0_join 97 = .ok (.iconst 2, 1) := by decide +kernel
theorem dX0_join_98 : decode cX0_join 98 = .ok (.iadd, 1) := by decide +kernel
theorem dX0_join_99 : decode cX0_join 99 = .ok (.invokestatic 42, 3) := by decide +kernel
theorem dX0_join_102 : decode cX0_join 102 = .ok (.putfield 9, 3) := by decide +kernel
theorem dX0_join_105 : decode cX0_join 105 = .ok (.iload 4, 2) := by decide +kernel
theorem dX0_join_107 : decode cX0_join 107 = .ok (.iload 5, 2) := by decide +kernel
theorem dX0_join_109 : decode cX0_join 109 = .ok (.if_icmp .ne 18, 3) := by decide +kernel
theorem dX0_join_112 : decode cX0_join 112 = .ok (.aload_n 0, 1) := by decide +kernel
theorem dX0_join_113 : decode cX0_join 113 = .ok (.aload_n 1, 1) := by decide +kernel
theorem dX0_join_114 : decode cX0_join 114 = .ok (.aload_n 2, 1) := by decide +kernel
theorem dX0_join_115 : decode cX0_join 115 = .ok (.iload 6, 2) := by decide +kernel
theorem dX0_join_117 : decode cX0_join 117 = .ok (.invokevirtual 48, 3) := by decide +kernel
theorem dX0_join_120 : decode cX0_join 120 = .ok (.aload_n 0, 1) := by decide +kernel
theorem dX0_join_121 : decode cX0_join 121 = .ok (.iload 4, 2) := by decide +kernel
theorem dX0_join_123 : decode cX0_join 123 = .ok (.putfield 17, 3) := by decide +kernel
theorem dX0_join_126 : decode cX0_join 126 = .ok (.return_, 1) := by decide +kernel
theorem dX0_join_127 : decode cX0_join 127 = .ok (.aload_n 1, 1) := by decide +kernel
theorem dX0_join_128 : decode cX0_join 128 = .ok (.aload_n 2, 1) := by decide +kernel
theorem dX0_join_129 : decode cX0_join 129 = .ok (.invokevirtual 28, 3) := by decide +kernel
theorem dX0_join_132 : decode cX0_join 132 = .ok (.istore 7, 2) := by decide +kernel
theorem dX0_join_134 : decode cX0_join 134 = .ok (.iload 7, 2) := by decide +kernel
theorem dX0_join_136 : decode cX0_join 136 = .ok (.ifCond .ne 8, 3) := by decide +kernel
theorem dX0_join_139 : decode cX0_join 139 = .ok (.aload_n 0, 1) := by decide +kernel
theorem dX0_join_140 : decode cX0_join 140 = .ok (.invokevirtual 52, 3) := by decide +kernel
theorem dX0_join_143 : decode cX0_join 143 = .ok (.return_, 1) := by decide +kernel
theorem dX0_join_144 : decode cX0_join 144 = .ok (.iload 7, 2) := by decide +kernel
theorem dX0_join_146 : decode cX0_join 146 = .ok (.ifCond .le 12, 3) := by decide +kernel
theorem dX0_join_149 : decode cX0_join 149 = .ok (.aload_n 0, 1) := by decide +kernel
theorem dX0_join_150 : decode cX0_join 150 = .ok (.aload_n 1, 1) := by decide +kernel
theorem dX0_join_151 : decode cX0_join 151 = .ok (.aload_n 2, 1) := by decide +kernel
theorem dX0_join_152 : decode cX0_join 152 = .ok (.invokevirtual 55, 3) := by decide +kernel
theorem dX0_join_155 : decode cX0_join 155 = .ok (.goto 9, 3) := by decide +kernel
theorem dX0_join_158 : decode cX0_join 158 = .ok (.aload_n 0, 1) := by decide +kernel
theorem dX0_join_159 : decode cX0_join 159 = .ok (.aload_n 2, 1) := by decide +kernel
theorem dX0_join_160 : decode cX0_join 160 = .ok (.aload_n 1, 1) := by decide +kernel
theorem dX0_join_161 : decode cX0_join 161 = .ok (.invokevirtual 55, 3) := by decide +kernel
theorem dX0_join_164 : decode cX0_join 164 = .ok (.aload_n 0, 1) := by decide +kernel
theorem dX0_join_165 : decode cX0_join 165 = .ok (.iload 7, 2) := by decide +kernel
theorem dX0_join_167 : decode cX0_join 167 = .ok (.ifCond .le 8, 3) := by decide +kernel
theorem dX0_join_170 : decode cX0_join 170 = .ok (.iload 4, 2) := by decide +kernel
theorem dX0_join_172 : decode cX0_join 172 = .ok (.goto 5, 3) := by decide +kernel
theorem dX0_join_175 : decode cX0_join 175 = .ok (.iload 5, 2) := by decide +kernel
theorem dX0_join_177 : decode cX0_join 177 = .ok (.putfield 17, 3) := by decide +kernel
theorem dX0_join_180 : decode cX0_join 180 = .ok (.return_, 1) := by decide +kernel
theorem dX0_gather_0 : decode cX0_gather 0 = .ok (.aload_n 1, 1) := by decide +kernel
theorem dX0_gather_1 : decode cX0_gather 1 = .ok (.getfield 13, 3) := by decide +kernel
theorem dX0_gather_4 : decode cX0_gather 4 = .ok (.istore 4, 2) := by decide +kernel
theorem dX0_gather_6 : decode cX0_gather 6 = .ok (.aload_n 2, 1) := by decide +kernel
theorem dX0_gather_7 : decode cX0_gather 7 = .ok (.getfield 13, 3) := by decide +kernel
theorem dX0_gather_10 : decode cX0_gather 10 = .ok (.istore 5, 2) := by decide +kernel
theorem dX0_gather_12 : decode cX0_gather 12 = .ok (.iconst 0, 1) := by decide +kernel
theorem dX0_gather_13 : decode cX0_gather 13 = .ok (.istore 6, 2) := by decide +kernel
theorem dX0_gather_15 : decode cX0_gather 15 = .ok (.iconst 0, 1) := by decide +kernel
theorem dX0_gather_16 : decode cX0_gather 16 = .ok (.istore 7, 2) := by decide +kernel
theorem dX0_gather_18 : decode cX0_gather 18 = .ok (.iload 7, 2) := by decide +kernel
theorem dX0_gather_20 : decode cX0_gather 20 = .ok (.iload_n 3, 1) := by decide +kernel
theorem dX0_gather_21 : decode cX0_gather 21 = .ok (.if_icmp .ge 70, 3) := by decide +kernel
theorem dX0_gather_24 : decode cX0_gather 24 = .ok (.iload 7, 2) := by decide +kernel
theorem dX0_gather_26 : decode cX0_gather 26 = .ok (.iload 4, 2) := by decide +kernel
theorem dX0_gather_28 : decode cX0_gather 28 = .ok (.if_icmp .ge 13, 3) := by decide +kernel
theorem dX0_gather_31 : decode cX0_gather 31 = .ok (.aload_n 1, 1) := by decide +kernel
theorem dX0_gather_32 : decode cX0_gather 32 = .ok (.getfield 9, 3) := by decide +kernel
theorem dX0_gather_35 : decode cX0_gather 35 = .ok (.iload 7, 2) := by decide +kernel
theorem dX0_gather_37 : decode cX0_gather 37 = .ok (.iaload, 1) := by decide +kernel
theorem dX0_gather_38 : decode cX0_gather 38 = .ok (.goto 4, 3) := by decide +kernel
theorem dX0_gather_41 : decode cX0_gather 41 = .ok (.iconst 0, 1) := by decide +kernel
theorem dX0_gather_42 : decode cX0_gather 42 = .ok (.iload 7, 2) := by decide +kernel
theorem dX0_gather_44 : decode cX0_gather 44 = .ok (.iload 5, 2) := by decide +kernel
theorem dX0_gather_46 : decode cX0_gather 46 = .ok (.if_icmp .ge 13, 3) := by decide +kernel
theorem dX0_gather_49 : decode cX0_gather 49 = .ok (.aload_n 2, 1) := by decide +kernel
theorem dX0_gather_50 : decode cX0_gather 50 = .ok (.getfield 9, 3) := by decide +kernel
theorem dX0_gather_53 : decode cX0_gather 53 = .ok (.iload 7, 2) := by decide +kernel
theorem dX0_gather_55 : decode cX0_gather 55 = .ok (.iaload, 1) := by decide +kernel
theorem dX0_gather_56 : decode cX0_gather 56 = .ok (.goto 4, 3) := by decide +kernel
theorem dX0_gather_59 : decode cX0_gather 59 = .ok (.iconst 0, 1) := by decide +kernel
theorem dX0_gather_60 : decode cX0_gather 60 = .ok (.iadd, 1) := by decide +kernel
theorem dX0_gather_61 : decode cX0_gather 61 = .ok (.iload 6, 2) := by decide +kernel
theorem dX0_gather_63 : decode cX0_gather 63 = .ok (.iadd, 1) := by decide +kernel
theorem dX0_gather_64 : decode cX0_gather 64 = .ok (.istore 8, 2) := by decide +kernel
theorem dX0_gather_66 : decode cX0_gather 66 = .ok (.aload_n 0, 1) := by decide +kernel
theorem dX0_gather_67 : decode cX0_gather 67 = .ok (.getfield 9, 3) := by decide +kernel
theorem dX0_gather_70 : decode cX0_gather 70 = .ok (.iload 7, 2) := by decide +kernel
theorem dX0_gather_72 : decode cX0_gather 72 = .ok (.iload 8, 2) := by decide +kernel
theorem dX0_gather_74 : decode cX0_gather 74 = .ok (.ldc 59, 2) := by decide +kernel
theorem dX0_gather_76 : decode cX0_gather 76 = .ok (.iand, 1) := by decide +kernel
theorem dX0_gather_77 : decode cX0_gather 77 = .ok (.iastore, 1) := by decide +kernel
theorem dX0_gather_78 : decode cX0_gather 78 = .ok (.iload 8, 2) := by decide +kernel
theorem dX0_gather_80 : decode cX0_gather 80 = .ok (.bipush 30, 2) := by decide +kernel
theorem dX0_gather_82 : decode cX0_gather 82 = .ok (.iushr, 1) := by decide +kernel
theorem dX0_gather_83 : decode cX0_gather 83 = .ok (.istore 6, 2) := by decide +kernel
theorem dX0_gather_85 : decode cX0_gather 85 = .ok (.iinc 7 1, 3) := by decide +kernel
theorem dX0_gather_88 : decode cX0_gather 88 = .ok (.goto (-70), 3) := by decide +kernel
theorem dX0_gather_91 : decode cX0_gather 91 = .ok (.aload_n 0, 1) := by decide +kernel
theorem dX0_gather_92 : decode cX0_gather 92 = .ok (.getfield 9, 3) := by decide +kernel
theorem dX0_gather_95 : decode cX0_gather 95 = .ok (.iload_n 3, 1) := by decide +kernel
theorem dX0_gather_96 : decode cX0_gather 96 = .ok (.iload 6, 2) := by decide +kernel
theorem dX0_gather_98 : decode cX0_gather 98 = .ok (.iastore, 1) := by decide +kernel
theorem dX0_gather_99 : decode cX0_gather 99 = .ok (.aload_n 0, 1) := by decide +kernel
theorem dX0_gather_100 : decode cX0_gather 100 = .ok (.iload 6, 2) := by decide +kernel
theorem dX0_gather_102 : decode cX0_gather 102 = .ok (.ifCond .ne 7, 3) := by decide +kernel
theorem dX0_gather_105 : decode cX0_gather 105 = .ok (.iload_n 3, 1) := by decide +kernel
theorem dX0_gather_106 : decode cX0_gather 106 = .ok (.goto 6, 3) := by decide +kernel
theorem dX0_gather_109 : decode cX0_gather 109 = .ok (.iload_n 3, 1) := by decide +kernel
theorem dX0_gather_110 : decode cX0_gather 110 = .ok (.iconst 1, 1) := by decide +kernel
theorem dX0_gather_111 : decode cX0_gather 111 = .ok (.iadd, 1) := by decide +kernel
theorem dX0_gather_112 : decode cX0_gather 112 = .ok (.putfield 13, 3) := by decide +kernel
theorem dX0_gather_115 : decode cX0_gather 115 = .ok (.return_, 1) := by decide +kernel
theorem dX0_lessen_0 : decode cX0_lessen 0 = .ok (.aload_n 1, 1) := by decide +kernel
theorem dX0_lessen_1 : decode cX0_lessen 1 = .ok (.getfield 13, 3) := by decide +kernel
theorem dX0_lessen_4 : decode cX0_lessen 4 = .ok (.istore_n 3, 1) := by decide +kernel
theorem dX0_lessen_5 : decode cX0_lessen 5 = .ok (.aload_n 2, 1) := by decide +kernel
theorem dX0_lessen_6 : decode cX0_lessen 6 = .ok (.getfield 13, 3) := by decide +kernel
theorem dX0_lessen_9 : decode cX0_lessen 9 = .ok (.istore 4, 2) := by decide +kernel
theorem dX0_lessen_11 : decode cX0_lessen 11 = .ok (.iconst 0, 1) := by decide +kernel
theorem dX0_lessen_12 : decode cX0_lessen 12 = .ok (.istore 5, 2) := by decide +kernel
theorem dX0_lessen_14 : decode cX0_lessen 14 = .ok (.iconst 0, 1) := by decide +kernel
theorem dX0_lessen_15 : decode cX0_lessen 15 = .ok (.istore 6, 2) := by decide +kernel
theorem dX0_lessen_17 : decode cX0_lessen 17 = .ok (.iload 6, 2) := by decide +kernel
theorem dX0_lessen_19 : decode cX0_lessen 19 = .ok (.iload_n 3, 1) := by decide +kernel
theorem dX0_lessen_20 : decode cX0_lessen 20 = .ok (.if_icmp .ge 64, 3) := by decide +kernel
theorem dX0_lessen_23 : decode cX0_lessen 23 = .ok (.aload_n 1, 1) := by decide +kernel
theorem dX0_lessen_24 : decode cX0_lessen 24 = .ok (.getfield 9, 3) := by decide +kernel
theorem dX0_lessen_27 : decode cX0_lessen 27 = .ok (.iload 6, 2) := by decide +kernel
theorem dX0_lessen_29 : decode cX0_lessen 29 = .ok (.iaload, 1) := by decide +kernel
theorem dX0_lessen_30 : decode cX0_lessen 30 = .ok (.iload 6, 2) := by decide +kernel
theorem dX0_lessen_32 : decode cX0_lessen 32 = .ok (.iload 4, 2) := by decide +kernel
theorem dX0_lessen_34 : decode cX0_lessen 34 = .ok (.if_icmp .ge 13, 3) := by decide +kernel
theorem dX0_lessen_37 : decode cX0_lessen 37 = .ok (.aload_n 2, 1) := by decide +kernel
theorem dX0_lessen_38 : decode cX0_lessen 38 = .ok (.getfield 9, 3) := by decide +kernel
theorem dX0_lessen_41 : decode cX0_lessen 41 = .ok (.iload 6, 2) := by decide +kernel
theorem dX0_lessen_43 : decode cX0_lessen 43 = .ok (.iaload, 1) := by decide +kernel
theorem dX0_lessen_44 : decode cX0_lessen 44 = .ok (.goto 4, 3) := by decide +kernel
theorem dX0_lessen_47 : decode cX0_lessen 47 = .ok (.iconst 0, 1) := by decide +kernel
theorem dX0_lessen_48 : decode cX0_lessen 48 = .ok (.isub, 1) := by decide +kernel
theorem dX0_lessen_49 : decode cX0_lessen 49 = .ok (.iload 5, 2) := by decide +kernel
theorem dX0_lessen_51 : decode cX0_lessen 51 = .ok (.isub, 1) := by decide +kernel
theorem dX0_lessen_52 : decode cX0_lessen 52 = .ok (.istore 7, 2) := by decide +kernel
theorem dX0_lessen_54 : decode cX0_lessen 54 = .ok (.iload 7, 2) := by decide +kernel
theorem dX0_lessen_56 : decode cX0_lessen 56 = .ok (.ifCond .ge 7, 3) := by decide +kernel
theorem dX0_lessen_59 : decode cX0_lessen 59 = .ok (.iconst 1, 1) := by decide +kernel
theorem dX0_lessen_60 : decode cX0_lessen 60 = .ok (.goto 4, 3) := by decide +kernel
theorem dX0_lessen_63 : decode cX0_lessen 63 = .ok (.iconst 0, 1) := by decide +kernel
theorem dX0_lessen_64 : decode cX0_lessen 64 = .ok (.istore 5, 2) := by decide +kernel
theorem dX0_lessen_66 : decode cX0_lessen 66 = .ok (.aload_n 0, 1) := by decide +kernel
theorem dX0_lessen_67 : decode cX0_lessen 67 = .ok (.getfield 9, 3) := by decide +kernel
theorem dX0_lessen_70 : decode cX0_lessen 70 = .ok (.iload 6, 2) := by decide +kernel
theorem dX0_lessen_72 : decode cX0_lessen 72 = .ok (.iload 7, 2) := by decide +kernel
theorem dX0_lessen_74 : decode cX0_lessen 74 = .ok (.ldc 59, 2) := by decide +kernel
theorem dX0_lessen_76 : decode cX0_lessen 76 = .ok (.iand, 1) := by decide +kernel
theorem dX0_lessen_77 : decode cX0_lessen 77 = .ok (.iastore, 1) := by decide +kernel
theorem dX0_lessen_78 : decode cX0_lessen 78 = .ok (.iinc 6 1, 3) := by decide +kernel
theorem dX0_lessen_81 : decode cX0_lessen 81 = .ok (.goto (-64), 3) := by decide +kernel
theorem dX0_lessen_84 : decode cX0_lessen 84 = .ok (.aload_n 0, 1) := by decide +kernel
theorem dX0_lessen_85 : decode cX0_lessen 85 = .ok (.iload_n 3, 1) := by decide +kernel
theorem dX0_lessen_86 : decode cX0_lessen 86 = .ok (.putfield 13, 3) := by decide +kernel
theorem dX0_lessen_89 : decode cX0_lessen 89 = .ok (.aload_n 0, 1) := by decide +kernel
theorem dX0_lessen_90 : decode cX0_lessen 90 = .ok (.getfield 13, 3) := by decide +kernel
theorem dX0_lessen_93 : decode cX0_lessen 93 = .ok (.ifCond .le 30, 3) := by decide +kernel
theorem dX0_lessen_96 : decode cX0_lessen 96 = .ok (.aload_n 0, 1) := by decide +kernel
theorem dX0_lessen_97 : decode cX0_lessen 97 = .ok (.getfield 9, 3) := by decide +kernel
theorem dX0_lessen_100 : decode cX0_lessen 100 = .ok (.aload_n 0, 1) := by decide +kernel
theorem dX0_lessen_101 : decode cX0_lessen 101 = .ok (.getfield 13, 3) := by decide +kernel
theorem dX0_lessen_104 : decode cX0_lessen 104 = .ok (.iconst 1, 1) := by decide +kernel
theorem dX0_lessen_105 : decode cX0_lessen 105 = .ok (.isub, 1) := by decide +kernel
theorem dX0_lessen_106 : decode cX0_lessen 106 = .ok (.iaload, 1) := by decide +kernel
theorem dX0_lessen_107 : decode cX0_lessen 107 = .ok (.ifCond .ne 16, 3) := by decide +kernel
theorem dX0_lessen_110 : decode cX0_lessen 110 = .ok (.aload_n 0, 1) := by decide +kernel
theorem dX0_lessen_111 : decode cX0_lessen 111 = .ok (.dup, 1) := by decide +kernel
theorem dX0_lessen_112 : decode cX0_lessen 112 = .ok (.getfield 13, 3) := by decide +kernel
theorem dX0_lessen_115 : decode cX0_lessen 115 = .ok (.iconst 1, 1) := by decide +kernel
theorem dX0_lessen_116 : decode cX0_lessen 116 = .ok (.isub, 1) := by decide +kernel
theorem dX0_lessen_117 : decode cX0_lessen 117 = .ok (.putfield 13, 3) := by decide +kernel
theorem dX0_lessen_120 : decode cX0_lessen 120 = .ok (.goto (-31), 3) := by decide +kernel
theorem dX0_lessen_123 : decode cX0_lessen 123 = .ok (.return_, 1) := by decide +kernel
theorem dX0_grow_0 : decode cX0_grow 0 = .ok (.iconst 0, 1) := by decide +kernel
theorem dX0_grow_1 : decode cX0_grow 1 = .ok (.istore_n 1, 1) := by decide +kernel
theorem dX0_grow_2 : decode cX0_grow 2 = .ok (.iload_n 1, 1) := by decide +kernel
theorem dX0_grow_3 : decode cX0_grow 3 = .ok (.aload_n 0, 1) := by decide +kernel
theorem dX0_grow_4 : decode cX0_grow 4 = .ok (.getfield 13, 3) := by decide +kernel
theorem dX0_grow_7 : decode cX0_grow 7 = .ok (.if_icmp .ge 27, 3) := by decide +kernel
theorem dX0_grow_10 : decode cX0_grow 10 = .ok (.aload_n 0, 1) := by decide +kernel
theorem dX0_grow_11 : decode cX0_grow 11 = .ok (.getfield 9, 3) := by decide +kernel
theorem dX0_grow_14 : decode cX0_grow 14 = .ok (.iload_n 1, 1) := by decide +kernel
theorem dX0_grow_15 : decode cX0_grow 15 = .ok (.iaload, 1) := by decide +kernel
theorem dX0_grow_16 : decode cX0_grow 16 = .ok (.ldc 59, 2) := by decide +kernel
theorem dX0_grow_18 : decode cX0_grow 18 = .ok (.if_icmp .ne 16, 3) := by decide +kernel
theorem dX0_grow_21 : decode cX0_grow 21 = .ok (.aload_n 0, 1) := by decide +kernel
theorem dX0_grow_22 : decode cX0_grow 22 = .ok (.getfield 9, 3) := by decide +kernel
theorem dX0_grow_25 : decode cX0_grow 25 = .ok (.iload_n 1, 1) := by decide +kernel
theorem dX0_grow_26 : decode cX0_grow 26 = .ok (.iconst 0, 1) := by decide +kernel
theorem dX0_grow_27 : decode cX0_grow 27 = .ok (.iastore, 1) := by decide +kernel
theorem dX0_grow_28 : decode cX0_grow 28 = .ok (.iinc 1 1, 3) := by decide +kernel
theorem dX0_grow_31 : decode cX0_grow 31 = .ok (.goto (-29), 3) := by decide +kernel
theorem dX0_grow_34 : decode cX0_grow 34 = .ok (.iload_n 1, 1) := by decide +kernel
theorem dX0_grow_35 : decode cX0_grow 35 = .ok (.aload_n 0, 1) := by decide +kernel
theorem dX0_grow_36 : decode cX0_grow 36 = .ok (.getfield 13, 3) := by decide +kernel
theorem dX0_grow_39 : decode cX0_grow 39 = .ok (.if_icmp .ne 54, 3) := by decide +kernel
theorem dX0_grow_42 : decode cX0_grow 42 = .ok (.aload_n 0, 1) := by decide +kernel
theorem dX0_grow_43 : decode cX0_grow 43 = .ok (.getfield 13, 3) := by decide +kernel
theorem dX0_grow_46 : decode cX0_grow 46 = .ok (.aload_n 0, 1) := by decide +kernel
theorem dX0_grow_47 : decode cX0_grow 47 = .ok (.getfield 9, 3) := by decide +kernel
theorem dX0_grow_50 : decode cX0_grow 50 = .ok (.arraylength, 1) := by decide +kernel
theorem dX0_grow_51 : decode cX0_grow 51 = .ok (.if_icmp .ne 22, 3) := by decide +kernel
theorem dX0_grow_54 : decode cX0_grow 54 = .ok (.aload_n 0, 1) := by decide +kernel
theorem dX0_grow_55 : decode cX0_grow 55 = .ok (.aload_n 0, 1) := by decide +kernel
theorem dX0_grow_56 : decode cX0_grow 56 = .ok (.getfield 9, 3) := by decide +kernel
theorem dX0_grow_59 : decode cX0_grow 59 = .ok (.iconst 2, 1) := by decide +kernel
theorem dX0_grow_60 : decode cX0_grow 60 = .ok (.aload_n 0, 1) := by decide +kernel
theorem dX0_grow_61 : decode cX0_grow 61 = .ok (.getfield 13, 3) := by decide +kernel
theorem dX0_grow_64 : decode cX0_grow 64 = .ok (.imul, 1) := by decide +kernel
theorem dX0_grow_65 : decode cX0_grow 65 = .ok (.iconst 2, 1) := by decide +kernel
theorem dX0_grow_66 : decode cX0_grow 66 = .ok (.iadd, 1) := by decide +kernel
theorem dX0_grow_67 : decode cX0_grow 67 = .ok (.invokestatic 42, 3) := by decide +kernel
theorem dX0_grow_70 : decode cX0_grow 70 = .ok (.putfield 9, 3) := by decide +kernel
theorem dX0_grow_73 : decode cX0_grow 73 = .ok (.aload_n 0, 1) := by decide +kernel
theorem dX0_grow_74 : decode cX0_grow 74 = .ok (.getfield 9, 3) := by decide +kernel
theorem dX0_grow_77 : decode cX0_grow 77 = .ok (.aload_n 0, 1) := by decide +kernel
theorem dX0_grow_78 : decode cX0_grow 78 = .ok (.getfield 13, 3) := by decide +kernel
theorem dX0_grow_81 : decode cX0_grow 81 = .ok (.iconst 0, 1) := by decide +kernel
theorem dX0_grow_82 : decode cX0_grow 82 = .ok (.iastore, 1) := by decide +kernel
theorem dX0_grow_83 : decode cX0_grow 83 = .ok (.aload_n 0, 1) := by decide +kernel
theorem dX0_grow_84 : decode cX0_grow 84 = .ok (.dup, 1) := by decide +kernel
theorem dX0_grow_85 : decode cX0_grow 85 = .ok (.getfield 13, 3) := by decide +kernel
theorem dX0_grow_88 : decode cX0_grow 88 = .ok (.iconst 1, 1) := by decide +kernel
theorem dX0_grow_89 : decode cX0_grow 89 = .ok (.iadd, 1) := by decide +kernel
theorem dX0_grow_90 : decode cX0_grow 90 = .ok (.putfield 13, 3) := by decide +kernel
theorem dX0_grow_93 : decode cX0_grow 93 = .ok (.aload_n 0, 1) := by decide +kernel
theorem dX0_grow_94 : decode cX0_grow 94 = .ok (.getfield 9, 3) := by decide +kernel
theorem dX0_grow_97 : decode cX0_grow 97 = .ok (.iload_n 1, 1) := by decide +kernel
theorem dX0_grow_98 : decode cX0_grow 98 = .ok (.dup2, 1) := by decide +kernel
theorem dX0_grow_99 : decode cX0_grow 99 = .ok (.iaload, 1) := by decide +kernel
theorem dX0_grow_100 : decode cX0_grow 100 = .ok (.iconst 1, 1) := by decide +kernel
theorem dX0_grow_101 : decode cX0_grow 101 = .ok (.iadd, 1) := by decide +kernel
theorem dX0_grow_102 : decode cX0_grow 102 = .ok (.iastore, 1) := by decide +kernel
theorem dX0_grow_103 : decode cX0_grow 103 = .ok (.return_, 1) := by decide +kernel
theorem dX0_times_0 : decode cX0_times 0 = .ok (.aload_n 1, 1) := by decide +kernel
theorem dX0_times_1 : decode cX0_times 1 = .ok (.getfield 13, 3) := by decide +kernel
theorem dX0_times_4 : decode cX0_times 4 = .ok (.istore_n 3, 1) := by decide +kernel
theorem dX0_times_5 : decode cX0_times 5 = .ok (.aload_n 2, 1) := by decide +kernel
theorem dX0_times_6 : decode cX0_times 6 = .ok (.getfield 13, 3) := by decide +kernel
theorem dX0_times_9 : decode cX0_times 9 = .ok (.istore 4, 2) := by decide +kernel
theorem dX0_times_11 : decode cX0_times 11 = .ok (.iload_n 3, 1) := by decide +kernel
theorem dX0_times_12 : decode cX0_times 12 = .ok (.iload 4, 2) := by decide +kernel
theorem dX0_times_14 : decode cX0_times 14 = .ok (.iadd, 1) := by decide +kernel
theorem dX0_times_15 : decode cX0_times 15 = .ok (.istore 5, 2) := by decide +kernel
theorem dX0_times_17 : decode cX0_times 17 = .ok (.iload_n 3, 1) := by decide +kernel
theorem dX0_times_18 : decode cX0_times 18 = .ok (.ifCond .eq 8, 3) := by decide +kernel
theorem dX0_times_21 : decode cX0_times 21 = .ok (.iload 4, 2) := by decide +kernel
theorem dX0_times_23 : decode cX0_times 23 = .ok (.ifCond .ne 8, 3) := by decide +kernel
theorem dX0_times_26 : decode cX0_times 26 = .ok (.aload_n 0, 1) := by decide +kernel
theorem dX0_times_27 : decode cX0_times 27 = .ok (.invokevirtual 52, 3) := by decide +kernel
theorem dX0_times_30 : decode cX0_times 30 = .ok (.return_, 1) := by decide +kernel
theorem dX0_times_31 : decode cX0_times 31 = .ok (.iload 5, 2) := by decide +kernel
theorem dX0_times_33 : decode cX0_times 33 = .ok (.aload_n 0, 1) := by decide +kernel
theorem dX0_times_34 : decode cX0_times 34 = .ok (.getfield 9, 3) := by decide +kernel
theorem dX0_times_37 : decode cX0_times 37 = .ok (.arraylength, 1) := by decide +kernel
theorem dX0_times_38 : decode cX0_times 38 = .ok (.if_icmp .le 13, 3) := by decide +kernel
theorem dX0_times_41 : decode cX0_times 41 = .ok (.aload_n 0, 1) := by decide +kernel
theorem dX0_times_42 : decode cX0_times 42 = .ok (.iconst 2, 1) := by decide +kernel
theorem dX0_times_43 : decode cX0_times 43 = .ok (.iload 5, 2) := by decide +kernel
theorem dX0_times_45 : decode cX0_times 45 = .ok (.imul, 1) := by decide +kernel
theorem dX0_times_46 : decode cX0_times 46 = .ok (.newarray .int, 2) := by decide +kernel
theorem dX0_times_48 : decode cX0_times 48 = .ok (.putfield 9, 3) := by decide +kernel
theorem dX0_times_51 : decode cX0_times 51 = .ok (.iconst 0, 1) := by decide +kernel
theorem dX0_times_52 : decode cX0_times 52 = .ok (.istore 6, 2) := by decide +kernel
theorem dX0_times_54 : decode cX0_times 54 = .ok (.iload 6, 2) := by decide +kernel
theorem dX0_times_56 : decode cX0_times 56 = .ok (.iload 5, 2) := by decide +kernel
theorem dX0_times_58 : decode cX0_times 58 = .ok (.if_icmp .ge 17, 3) := by decide +kernel
theorem dX0_times_61 : decode cX0_times 61 = .ok (.aload_n 0, 1) := by decide +kernel
theorem dX0_times_62 : decode cX0_times 62 = .ok (.getfield 9, 3) := by decide +kernel
theorem dX0_times_65 : decode cX0_times 65 = .ok (.iload 6, 2) := by decide +kernel
theorem dX0_times_67 : decode cX0_times 67 = .ok (.iconst 0, 1) := by decide +kernel
theorem dX0_times_68 : decode cX0_times 68 = .ok (.iastore, 1) := by decide +kernel
theorem dX0_times_69 : decode cX0_times 69 = .ok (.iinc 6 1, 3) := by decide +kernel
theorem dX0_times_72 : decode cX0_times 72 = .ok (.goto (-18), 3) := by decide +kernel
theorem dX0_times_75 : decode cX0_times 75 = .ok (.iconst 0, 1) := by decide +kernel
theorem dX0_times_76 : decode cX0_times 76 = .ok (.istore 6, 2) := by decide +kernel
theorem dX0_times_78 : decode cX0_times 78 = .ok (.iload 6, 2) := by decide +kernel
theorem dX0_times_80 : decode cX0_times 80 = .ok (.iload_n 3, 1) := by decide +kernel
theorem dX0_times_81 : decode cX0_times 81 = .ok (.if_icmp .ge 103, 3) := by decide +kernel
theorem dX0_times_84 : decode cX0_times 84 = .ok (.aload_n 1, 1) := by decide +kernel
theorem dX0_times_85 : decode cX0_times 85 = .ok (.getfield 9, 3) := by decide +kernel
theorem dX0_times_88 : decode cX0_times 88 = .ok (.iload 6, 2) := by decide +kernel
theorem dX0_times_90 : decode cX0_times 90 = .ok (.iaload, 1) := by decide +kernel
theorem dX0_times_91 : decode cX0_times 91 = .ok (.i2l, 1) := by decide +kernel
theorem dX0_times_92 : decode cX0_times 92 = .ok (.lstore 7, 2) := by decide +kernel
theorem dX0_times_94 : decode cX0_times 94 = .ok (.lconst 0, 1) := by decide +kernel
theorem dX0_times_95 : decode cX0_times 95 = .ok (.lstore 9, 2) := by decide +kernel
theorem dX0_times_97 : decode cX0_times 97 = .ok (.iconst 0, 1) := by decide +kernel
theorem dX0_times_98 : decode cX0_times 98 = .ok (.istore 11, 2) := by decide +kernel
theorem dX0_times_100 : decode cX0_times 100 = .ok (.iload 11, 2) := by decide +kernel
theorem dX0_times_102 : decode cX0_times 102 = .ok (.iload 4, 2) := by decide +kernel
theorem dX0_times_104 : decode cX0_times 104 = .ok (.if_icmp .ge 61, 3) := by decide +kernel
theorem dX0_times_107 : decode cX0_times 107 = .ok (.lload 7, 2) := by decide +kernel
theorem dX0_times_109 : decode cX0_times 109 = .ok (.aload_n 2, 1) := by decide +kernel
theorem dX0_times_110 : decode cX0_times 110 = .ok (.getfield 9, 3) := by decide +kernel
theorem dX0_times_113 : decode cX0_times 113 = .ok (.iload 11, 2) := by decide +kernel
theorem dX0_times_115 : decode cX0_times 115 = .ok (.iaload, 1) := by decide +kernel
theorem dX0_times_116 : decode cX0_times 116 = .ok (.i2l, 1) := by decide +kernel
theorem dX0_times_117 : decode cX0_times 117 = .ok (.lmul, 1) := by decide +kernel
theorem dX0_times_118 : decode cX0_times 118 = .ok (.aload_n 0, 1) := by decide +kernel
theorem dX0_times_119 : decode cX0_times 119 = .ok (.getfield 9, 3) := by decide +kernel
theorem dX0_times_122 : decode cX0_times 122 = .ok (.iload 6, 2) := by decide +kernel
theorem dX0_times_124 : decode cX0_times 124 = .ok (.iload 11, 2) := by decide +kernel
theorem dX0_times_126 : decode cX0_times 126 = .ok (.iadd, 1) := by decide +kernel
theorem dX0_times_127 : decode cX0_times 127 = .ok (.iaload, 1) := by decide +kernel
theorem dX0_times_128 : decode cX0_times 128 = .ok (.i2l, 1) := by decide +kernel
theorem dX0_times_129 : decode cX0_times 129 = .ok (.ladd, 1) := by decide +kernel
theorem dX0_times_130 : decode cX0_times 130 = .ok (.lload 9, 2) := by decide +kernel
theorem dX0_times_132 : decode cX0_times 132 = .ok (.ladd, 1) := by decide +kernel
theorem dX0_times_133 : decode cX0_times 133 = .ok (.lstore 12, 2) := by decide +kernel
theorem dX0_times_135 : decode cX0_times 135 = .ok (.aload_n 0, 1) := by decide +kernel
theorem dX0_times_136 : decode cX0_times 136 = .ok (.getfield 9, 3) := by decide +kernel
theorem dX0_times_139 : decode cX0_times 139 = .ok (.iload 6, 2) := by decide +kernel
theorem dX0_times_141 : decode cX0_times 141 = .ok (.iload 11, 2) := by decide +kernel
theorem dX0_times_143 : decode cX0_times 143 = .ok (.iadd, 1) := by decide +kernel
theorem dX0_times_144 : decode cX0_times 144 = .ok (.lload 12, 2) := by decide +kernel
theorem dX0_times_146 : decode cX0_times 146 = .ok (.ldc2_w 20, 3) := by decide +kernel
theorem dX0_times_149 : decode cX0_times 149 = .ok (.land, 1) := by decide +kernel
theorem dX0_times_150 : decode cX0_times 150 = .ok (.l2i, 1) := by decide +kernel
theorem dX0_times_151 : decode cX0_times 151 = .ok (.iastore, 1) := by decide +kernel
theorem dX0_times_152 : decode cX0_times 152 = .ok (.lload 12, 2) := by decide +kernel
theorem dX0_times_154 : decode cX0_times 154 = .ok (.bipush 30, 2) := by decide +kernel
theorem dX0_times_156 : decode cX0_times 156 = .ok (.lushr, 1) := by decide +kernel
theorem dX0_times_157 : decode cX0_times 157 = .ok (.lstore 9, 2) := by decide +kernel
theorem dX0_times_159 : decode cX0_times 159 = .ok (.iinc 11 1, 3) := by decide +kernel
theorem dX0_times_162 : decode cX0_times 162 = .ok (.goto (-62), 3) := by decide +kernel
theorem dX0_times_165 : decode cX0_times 165 = .ok (.aload_n 0, 1) := by decide +kernel
theorem dX0_times_166 : decode cX0_times 166 = .ok (.getfield 9, 3) := by decide +kernel
theorem dX0_times_169 : decode cX0_times 169 = .ok (.iload 6, 2) := by decide +kernel
theorem dX0_times_171 : decode cX0_times 171 = .ok (.iload 4, 2) := by decide +kernel
theorem dX0_times_173 : decode cX0_times 173 = .ok (.iadd, 1) := by decide +kernel
theorem dX0_times_174 : decode cX0_times 174 = .ok (.lload 9, 2) := by decide +kernel
theorem dX0_times_176 : decode cX0_times 176 = .ok (.l2i, 1) := by decide +kernel
theorem dX0_times_177 : decode cX0_times 177 = .ok (.iastore, 1) := by decide +kernel
theorem dX0_times_178 : decode cX0_times 178 = .ok (.iinc 6 1, 3) := by decide +kernel
theorem dX0_times_181 : decode cX0_times 181 = .ok (.goto (-103), 3) := by decide +kernel
theorem dX0_times_184 : decode cX0_times 184 = .ok (.aload_n 0, 1) := by decide +kernel
theorem dX0_times_185 : decode cX0_times 185 = .ok (.aload_n 0, 1) := by decide +kernel
theorem dX0_times_186 : decode cX0_times 186 = .ok (.getfield 9, 3) := by decide +kernel
theorem dX0_times_189 : decode cX0_times 189 = .ok (.iload 5, 2) := by decide +kernel
theorem dX0_times_191 : decode cX0_times 191 = .ok (.iconst 1, 1) := by decide +kernel
theorem dX0_times_192 : decode cX0_times 192 = .ok (.isub, 1) := by decide +kernel
theorem dX0_times_193 : decode cX0_times 193 = .ok (.iaload, 1) := by decide +kernel
theorem dX0_times_194 : decode cX0_times 194 = .ok (.ifCond .ne 10, 3) := by decide +kernel
theorem dX0_times_197 : decode cX0_times 197 = .ok (.iload 5, 2) := by decide +kernel
theorem dX0_times_199 : decode cX0_times 199 = .ok (.iconst 1, 1) := by decide +kernel
theorem dX0_times_200 : decode cX0_times 200 = .ok (.isub, 1) := by decide +kernel
theorem dX0_times_201 : decode cX0_times 201 = .ok (.goto 5, 3) := by decide +kernel
theorem dX0_times_204 : decode cX0_times 204 = .ok (.iload 5, 2) := by decide +kernel
theorem dX0_times_206 : decode cX0_times 206 = .ok (.putfield 13, 3) := by decide +kernel
theorem dX0_times_209 : decode cX0_times 209 = .ok (.aload_n 0, 1) := by decide +kernel
theorem dX0_times_210 : decode cX0_times 210 = .ok (.aload_n 1, 1) := by decide +kernel
theorem dX0_times_211 : decode cX0_times 211 = .ok (.getfield 17, 3) := by decide +kernel
theorem dX0_times_214 : decode cX0_times 214 = .ok (.aload_n 2, 1) := by decide +kernel
theorem dX0_times_215 : decode cX0_times 215 = .ok (.getfield 17, 3) := by decide +kernel
theorem dX0_times_218 : decode cX0_times 218 = .ok (.imul, 1) := by decide +kernel
theorem dX0_times_219 : decode cX0_times 219 = .ok (.putfield 17, 3) := by decide +kernel
theorem dX0_times_222 : decode cX0_times 222 = .ok (.return_, 1) := by decide +kernel
theorem dX0_scale_0 : decode cX0_scale 0 = .ok (.aload_n 1, 1) := by decide +kernel
theorem dX0_scale_1 : decode cX0_scale 1 = .ok (.getfield 13, 3) := by decide +kernel
theorem dX0_scale_4 : decode cX0_scale 4 = .ok (.istore 4, 2) := by decide +kernel
theorem dX0_scale_6 : decode cX0_scale 6 = .ok (.lconst 0, 1) := by decide +kernel
theorem dX0_scale_7 : decode cX0_scale 7 = .ok (.lstore 5, 2) := by decide +kernel
theorem dX0_scale_9 : decode cX0_scale 9 = .ok (.iload 4, 2) := by decide +kernel
theorem dX0_scale_11 : decode cX0_scale 11 = .ok (.iconst 2, 1) := by decide +kernel
theorem dX0_scale_12 : decode cX0_scale 12 = .ok (.iadd, 1) := by decide +kernel
theorem dX0_scale_13 : decode cX0_scale 13 = .ok (.aload_n 0, 1) := by decide +kernel
theorem dX0_scale_14 : decode cX0_scale 14 = .ok (.getfield 9, 3) := by decide +kernel
theorem dX0_scale_17 : decode cX0_scale 17 = .ok (.arraylength, 1) := by decide +kernel
theorem dX0_scale_18 : decode cX0_scale 18 = .ok (.if_icmp .le 20, 3) := by decide +kernel
theorem dX0_scale_21 : decode cX0_scale 21 = .ok (.aload_n 0, 1) := by decide +kernel
theorem dX0_scale_22 : decode cX0_scale 22 = .ok (.aload_n 0, 1) := by decide +kernel
theorem dX0_scale_23 : decode cX0_scale 23 = .ok (.getfield 9, 3) := by decide +kernel
theorem dX0_scale_26 : decode cX0_scale 26 = .ok (.iconst 2, 1) := by decide +kernel
theorem dX0_scale_27 : decode cX0_scale 27 = .ok (.iload 4, 2) := by decide +kernel
theorem dX0_scale_29 : decode cX0_scale 29 = .ok (.imul, 1) := by decide +kernel
theorem dX0_scale_30 : decode cX0_scale 30 = .ok (.iconst 2, 1) := by decide +kernel
theorem dX0_scale_31 : decode cX0_scale 31 = .ok (.iadd, 1) := by decide +kernel
theorem dX0_scale_32 : decode cX0_scale 32 = .ok (.invokestatic 42, 3) := by decide +kernel
theorem dX0_scale_35 : decode cX0_scale 35 = .ok (.putfield 9, 3) := by decide +kernel
theorem dX0_scale_38 : decode cX0_scale 38 = .ok (.iconst 0, 1) := by decide +kernel
theorem dX0_scale_39 : decode cX0_scale 39 = .ok (.istore 7, 2) := by decide +kernel
theorem dX0_scale_41 : decode cX0_scale 41 = .ok (.iload 7, 2) := by decide +kernel
theorem dX0_scale_43 : decode cX0_scale 43 = .ok (.iload 4, 2) := by decide +kernel
theorem dX0_scale_45 : decode cX0_scale 45 = .ok (.if_icmp .ge 45, 3) := by decide +kernel
theorem dX0_scale_48 : decode cX0_scale 48 = .ok (.aload_n 1, 1) := by decide +kernel
theorem dX0_scale_49 : decode cX0_scale 49 = .ok (.getfield 9, 3) := by decide +kernel
theorem dX0_scale_52 : decode cX0_scale 52 = .ok (.iload 7, 2) := by decide +kernel
theorem dX0_scale_54 : decode cX0_scale 54 = .ok (.iaload, 1) := by decide +kernel
theorem dX0_scale_55 : decode cX0_scale 55 = .ok (.i2l, 1) := by decide +kernel
theorem dX0_scale_56 : decode cX0_scale 56 = .ok (.lload_n 2, 1) := by decide +kernel
theorem dX0_scale_57 : decode cX0_scale 57 = .ok (.lmul, 1) := by decide +kernel
theorem dX0_scale_58 : decode cX0_scale 58 = .ok (.lload 5, 2) := by decide +kernel
theorem dX0_scale_60 : decode cX0_scale 60 = .ok (.ladd, 1) := by decide +kernel
theorem dX0_scale_61 : decode cX0_scale 61 = .ok (.lstore 8, 2) := by decide +kernel
theorem dX0_scale_63 : decode cX0_scale 63 = .ok (.aload_n 0, 1) := by decide +kernel
theorem dX0_scale_64 : decode cX0_scale 64 = .ok (.getfield 9, 3) := by decide +kernel
theorem dX0_scale_67 : decode cX0_scale 67 = .ok (.iload 7, 2) := by decide +kernel
theorem dX0_scale_69 : decode cX0_scale 69 = .ok (.lload 8, 2) := by decide +kernel
theorem dX0_scale_71 : decode cX0_scale 71 = .ok (.ldc2_w 20, 3) := by decide +kernel
theorem dX0_scale_74 : decode cX0_scale 74 = .ok (.land, 1) := by decide +kernel
theorem dX0_scale_75 : decode cX0_scale 75 = .ok (.l2i, 1) := by decide +kernel
theorem dX0_scale_76 : decode cX0_scale 76 = .ok (.iastore, 1) := by decide +kernel
theorem dX0_scale_77 : decode cX0_scale 77 = .ok (.lload 8, 2) := by decide +kernel
theorem dX0_scale_79 : decode cX0_scale 79 = .ok (.bipush 30, 2) := by decide +kernel
theorem dX0_scale_81 : decode cX0_scale 81 = .ok (.lushr, 1) := by decide +kernel
theorem dX0_scale_82 : decode cX0_scale 82 = .ok (.lstore 5, 2) := by decide +kernel
theorem dX0_scale_84 : decode cX0_scale 84 = .ok (.iinc 7 1, 3) := by decide +kernel
theorem dX0_scale_87 : decode cX0_scale 87 = .ok (.goto (-46), 3) := by decide +kernel
theorem dX0_scale_90 : decode cX0_scale 90 = .ok (.aload_n 0, 1) := by decide +kernel
theorem dX0_scale_91 : decode cX0_scale 91 = .ok (.getfield 9, 3) := by decide +kernel
theorem dX0_scale_94 : decode cX0_scale 94 = .ok (.iload 4, 2) := by decide +kernel
theorem dX0_scale_96 : decode cX0_scale 96 = .ok (.lload 5, 2) := by decide +kernel
theorem dX0_scale_98 : decode cX0_scale 98 = .ok (.ldc2_w 20, 3) := by decide +kernel
theorem dX0_scale_101 : decode cX0_scale 101 = .ok (.land, 1) := by decide +kernel
theorem dX0_scale_102 : decode cX0_scale 102 = .ok (.l2i, 1) := by decide +kernel
theorem dX0_scale_103 : decode cX0_scale 103 = .ok (.iastore, 1) := by decide +kernel
theorem dX0_scale_104 : decode cX0_scale 104 = .ok (.aload_n 0, 1) := by decide +kernel
theorem dX0_scale_105 : decode cX0_scale 105 = .ok (.getfield 9, 3) := by decide +kernel
theorem dX0_scale_108 : decode cX0_scale 108 = .ok (.iload 4, 2) := by decide +kernel
theorem dX0_scale_110 : decode cX0_scale 110 = .ok (.iconst 1, 1) := by decide +kernel
theorem dX0_scale_111 : decode cX0_scale 111 = .ok (.iadd, 1) := by decide +kernel
theorem dX0_scale_112 : decode cX0_scale 112 = .ok (.lload 5, 2) := by decide +kernel
theorem dX0_scale_114 : decode cX0_scale 114 = .ok (.bipush 30, 2) := by decide +kernel
theorem dX0_scale_116 : decode cX0_scale 116 = .ok (.lushr, 1) := by decide +kernel
theorem dX0_scale_117 : decode cX0_scale 117 = .ok (.l2i, 1) := by decide +kernel
theorem dX0_scale_118 : decode cX0_scale 118 = .ok (.iastore, 1) := by decide +kernel
theorem dX0_scale_119 : decode cX0_scale 119 = .ok (.aload_n 0, 1) := by decide +kernel
theorem dX0_scale_120 : decode cX0_scale 120 = .ok (.aload_n 1, 1) := by decide +kernel
theorem dX0_scale_121 : decode cX0_scale 121 = .ok (.getfield 17, 3) := by decide +kernel
theorem dX0_scale_124 : decode cX0_scale 124 = .ok (.putfield 17, 3) := by decide +kernel
theorem dX0_scale_127 : decode cX0_scale 127 = .ok (.aload_n 0, 1) := by decide +kernel
theorem dX0_scale_128 : decode cX0_scale 128 = .ok (.iload 4, 2) := by decide +kernel
theorem dX0_scale_130 : decode cX0_scale 130 = .ok (.iconst 2, 1) := by decide +kernel
theorem dX0_scale_131 : decode cX0_scale 131 = .ok (.iadd, 1) := by decide +kernel
theorem dX0_scale_132 : decode cX0_scale 132 = .ok (.invokevirtual 67, 3) := by decide +kernel
theorem dX0_scale_135 : decode cX0_scale 135 = .ok (.return_, 1) := by decide +kernel
theorem dX0_raise_0 : decode cX0_raise 0 = .ok (.aload_n 1, 1) := by decide +kernel
theorem dX0_raise_1 : decode cX0_raise 1 = .ok (.getfield 13, 3) := by decide +kernel
theorem dX0_raise_4 : decode cX0_raise 4 = .ok (.ifCond .eq 7, 3) := by decide +kernel
theorem dX0_raise_7 : decode cX0_raise 7 = .ok (.iload_n 2, 1) := by decide +kernel
theorem dX0_raise_8 : decode cX0_raise 8 = .ok (.ifCond .ge 14, 3) := by decide +kernel
theorem dX0_raise_11 : decode cX0_raise 11 = .ok (.aload_n 0, 1) := by decide +kernel
theorem dX0_raise_12 : decode cX0_raise 12 = .ok (.iconst 0, 1) := by decide +kernel
theorem dX0_raise_13 : decode cX0_raise 13 = .ok (.putfield 13, 3) := by decide +kernel
theorem dX0_raise_16 : decode cX0_raise 16 = .ok (.aload_n 0, 1) := by decide +kernel
theorem dX0_raise_17 : decode cX0_raise 17 = .ok (.iconst 0, 1) := by decide +kernel
theorem dX0_raise_18 : decode cX0_raise 18 = .ok (.putfield 17, 3) := by decide +kernel
theorem dX0_raise_21 : decode cX0_raise 21 = .ok (.return_, 1) := by decide +kernel
theorem dX0_raise_22 : decode cX0_raise 22 = .ok (.iload_n 2, 1) := by decide +kernel
theorem dX0_raise_23 : decode cX0_raise 23 = .ok (.bipush 30, 2) := by decide +kernel
theorem dX0_raise_25 : decode cX0_raise 25 = .ok (.idiv, 1) := by decide +kernel
theorem dX0_raise_26 : decode cX0_raise 26 = .ok (.istore_n 3, 1) := by decide +kernel
theorem dX0_raise_27 : decode cX0_raise 27 = .ok (.iload_n 2, 1) := by decide +kernel
theorem dX0_raise_28 : decode cX0_raise 28 = .ok (.bipush 30, 2) := by decide +kernel
theorem dX0_raise_30 : decode cX0_raise 30 = .ok (.irem, 1) := by decide +kernel
theorem dX0_raise_31 : decode cX0_raise 31 = .ok (.istore 4, 2) := by decide +kernel
theorem dX0_raise_33 : decode cX0_raise 33 = .ok (.aload_n 1, 1) := by decide +kernel
theorem dX0_raise_34 : decode cX0_raise 34 = .ok (.getfield 13, 3) := by decide +kernel
theorem dX0_raise_37 : decode cX0_raise 37 = .ok (.istore 5, 2) := by decide +kernel
theorem dX0_raise_39 : decode cX0_raise 39 = .ok (.iload 5, 2) := by decide +kernel
theorem dX0_raise_41 : decode cX0_raise 41 = .ok (.iload_n 3, 1) := by decide +kernel
theorem dX0_raise_42 : decode cX0_raise 42 = .ok (.iadd, 1) := by decide +kernel
theorem dX0_raise_43 : decode cX0_raise 43 = .ok (.iconst 1, 1) := by decide +kernel
theorem dX0_raise_44 : decode cX0_raise 44 = .ok (.iadd, 1) := by decide +kernel
theorem dX0_raise_45 : decode cX0_raise 45 = .ok (.istore 6, 2) := by decide +kernel
theorem dX0_raise_47 : decode cX0_raise 47 = .ok (.iload 6, 2) := by decide +kernel
theorem dX0_raise_49 : decode cX0_raise 49 = .ok (.aload_n 0, 1) := by decide +kernel
theorem dX0_raise_50 : decode cX0_raise 50 = .ok (.getfield 9, 3) := by decide +kernel
theorem dX0_raise_53 : decode cX0_raise 53 = .ok (.arraylength, 1) := by decide +kernel
theorem dX0_raise_54 : decode cX0_raise 54 = .ok (.if_icmp .le 18, 3) := by decide +kernel
theorem dX0_raise_57 : decode cX0_raise 57 = .ok (.aload_n 0, 1) := by decide +kernel
theorem dX0_raise_58 : decode cX0_raise 58 = .ok (.aload_n 0, 1) := by decide +kernel
theorem dX0_raise_59 : decode cX0_raise 59 = .ok (.getfield 9, 3) := by decide +kernel
theorem dX0_raise_62 : decode cX0_raise 62 = .ok (.iconst 2, 1) := by decide +kernel
theorem dX0_raise_63 : decode cX0_raise 63 = .ok (.iload 6, 2) := by decide +kernel
theorem dX0_raise_65 : decode cX0_raise 65 = .ok (.imul, 1) := by decide +kernel
theorem dX0_raise_66 : decode cX0_raise 66 = .ok (.invokestatic 42, 3) := by decide +kernel
theorem dX0_raise_69 : decode cX0_raise 69 = .ok (.putfield 9, 3) := by decide +kernel
theorem dX0_raise_72 : decode cX0_raise 72 = .ok (.iload 5, 2) := by decide +kernel
theorem dX0_raise_74 : decode cX0_raise 74 = .ok (.istore 7, 2) := by decide +kernel
theorem dX0_raise_76 : decode cX0_raise 76 = .ok (.iload 7, 2) := by decide +kernel
theorem dX0_raise_78 : decode cX0_raise 78 = .ok (.ifCond .lt 71, 3) := by decide +kernel
theorem dX0_raise_81 : decode cX0_raise 81 = .ok (.iload 7, 2) := by decide +kernel
theorem dX0_raise_83 : decode cX0_raise 83 = .ok (.iload 5, 2) := by decide +kernel
theorem dX0_raise_85 : decode cX0_raise 85 = .ok (.if_icmp .ge 19, 3) := by decide +kernel
theorem dX0_raise_88 : decode cX0_raise 88 = .ok (.aload_n 1, 1) := by decide +kernel
theorem dX0_raise_89 : decode cX0_raise 89 = .ok (.getfield 9, 3) := by decide +kernel
theorem dX0_raise_92 : decode cX0_raise 92 = .ok (.iload 7, 2) := by decide +kernel
theorem dX0_raise_94 : decode cX0_raise 94 = .ok (.iaload, 1) := by decide +kernel
theorem dX0_raise_95 : decode cX0_raise 95 = .ok (.iload 4, 2) := by decide +kernel
theorem dX0_raise_97 : decode cX0_raise 97 = .ok (.ishl, 1) := by decide +kernel
theorem dX0_raise_98 : decode cX0_raise 98 = .ok (.ldc 59, 2) := by decide +kernel
theorem dX0_raise_100 : decode cX0_raise 100 = .ok (.iand, 1) := by decide +kernel
theorem dX0_raise_101 : decode cX0_raise 101 = .ok (.goto 4, 3) := by decide +kernel
theorem dX0_raise_104 : decode cX0_raise 104 = .ok (.iconst 0, 1) := by decide +kernel
theorem dX0_raise_105 : decode cX0_raise 105 = .ok (.istore 8, 2) := by decide +kernel
theorem dX0_raise_107 : decode cX0_raise 107 = .ok (.aload_n 0, 1) := by decide +kernel
theorem dX0_raise_108 : decode cX0_raise 108 = .ok (.getfield 9, 3) := by decide +kernel
theorem dX0_raise_111 : decode cX0_raise 111 = .ok (.iload 7, 2) := by decide +kernel
theorem dX0_raise_113 : decode cX0_raise 113 = .ok (.iload_n 3, 1) := by decide +kernel
theorem dX0_raise_114 : decode cX0_raise 114 = .ok (.iadd, 1) := by decide +kernel
theorem dX0_raise_115 : decode cX0_raise 115 = .ok (.iload 8, 2) := by decide +kernel
theorem dX0_raise_117 : decode cX0_raise 117 = .ok (.iload 7, 2) := by decide +kernel
theorem dX0_raise_119 : decode cX0_raise 119 = .ok (.ifCond .le 21, 3) := by decide +kernel
theorem dX0_raise_122 : decode cX0_raise 122 = .ok (.aload_n 1, 1) := by decide +kernel
theorem dX0_raise_123 : decode cX0_raise 123 = .ok (.getfield 9, 3) := by decide +kernel
theorem dX0_raise_126 : decode cX0_raise 126 = .ok (.iload 7, 2) := by decide +kernel
theorem dX0_raise_128 : decode cX0_raise 128 = .ok (.iconst 1, 1) := by decide +kernel
theorem dX0_raise_129 : decode cX0_raise 129 = .ok (.isub, 1) := by decide +kernel
theorem dX0_raise_130 : decode cX0_raise 130 = .ok (.iaload, 1) := by decide +kernel
theorem dX0_raise_131 : decode cX0_raise 131 = .ok (.bipush 30, 2) := by decide +kernel
theorem dX0_raise_133 : decode cX0_raise 133 = .ok (.iload 4, 2) := by decide +kernel
theorem dX0_raise_135 : decode cX0_raise 135 = .ok (.isub, 1) := by decide +kernel
theorem dX0_raise_136 : decode cX0_raise 136 = .ok (.iushr, 1) := by decide +kernel
theorem dX0_raise_137 : decode cX0_raise 137 = .ok (.goto 4, 3) := by decide +kernel
theorem dX0_raise_140 : decode cX0_raise 140 = .ok (.iconst 0, 1) := by decide +kernel
theorem dX0_raise_141 : decode cX0_raise 141 = .ok (.ior, 1) := by decide +kernel
theorem dX0_raise_142 : decode cX0_raise 142 = .ok (.iastore, 1) := by decide +kernel
theorem dX0_raise_143 : decode cX0_raise 143 = .ok (.iinc 7 (-1), 3) := by decide +kernel
theorem dX0_raise_146 : decode cX0_raise 146 = .ok (.goto (-70), 3) := by decide +kernel
theorem dX0_raise_149 : decode cX0_raise 149 = .ok (.iconst 0, 1) := by decide +kernel
theorem dX0_raise_150 : decode cX0_raise 150 = .ok (.istore 7, 2) := by decide +kernel
theorem dX0_raise_152 : decode cX0_raise 152 = .ok (.iload 7, 2) := by decide +kernel
theorem dX0_raise_154 : decode cX0_raise 154 = .ok (.iload_n 3, 1) := by decide +kernel
theorem dX0_raise_155 : decode cX0_raise 155 = .ok (.if_icmp .ge 17, 3) := by decide +kernel
theorem dX0_raise_158 : decode cX0_raise 158 = .ok (.aload_n 0, 1) := by decide +kernel
theorem dX0_raise_159 : decode cX0_raise 159 = .ok (.getfield 9, 3) := by decide +kernel
theorem dX0_raise_162 : decode cX0_raise 162 = .ok (.iload 7, 2) := by decide +kernel
theorem dX0_raise_164 : decode cX0_raise 164 = .ok (.iconst 0, 1) := by decide +kernel
theorem dX0_raise_165 : decode cX0_raise 165 = .ok (.iastore, 1) := by decide +kernel
theorem dX0_raise_166 : decode cX0_raise 166 = .ok (.iinc 7 1, 3) := by decide +kernel
theorem dX0_raise_169 : decode cX0_raise 169 = .ok (.goto (-17), 3) := by decide +kernel
theorem dX0_raise_172 : decode cX0_raise 172 = .ok (.aload_n 0, 1) := by decide +kernel
theorem dX0_raise_173 : decode cX0_raise 173 = .ok (.aload_n 1, 1) := by decide +kernel
theorem dX0_raise_174 : decode cX0_raise 174 = .ok (.getfield 17, 3) := by decide +kernel
theorem dX0_raise_177 : decode cX0_raise 177 = .ok (.putfield 17, 3) := by decide +kernel
theorem dX0_raise_180 : decode cX0_raise 180 = .ok (.aload_n 0, 1) := by decide +kernel
theorem dX0_raise_181 : decode cX0_raise 181 = .ok (.aload_n 0, 1) := by decide +kernel
theorem dX0_raise_182 : decode cX0_raise 182 = .ok (.getfield 9, 3) := by decide +kernel
theorem dX0_raise_185 : decode cX0_raise 185 = .ok (.iload 6, 2) := by decide +kernel
theorem dX0_raise_187 : decode cX0_raise 187 = .ok (.iconst 1, 1) := by decide +kernel
theorem dX0_raise_188 : decode cX0_raise 188 = .ok (.isub, 1) := by decide +kernel
theorem dX0_raise_189 : decode cX0_raise 189 = .ok (.iaload, 1) := by decide +kernel
theorem dX0_raise_190 : decode cX0_raise 190 = .ok (.ifCond .ne 10, 3) := by decide +kernel
theorem dX0_raise_193 : decode cX0_raise 193 = .ok (.iload 6, 2) := by decide +kernel
theorem dX0_raise_195 : decode cX0_raise 195 = .ok (.iconst 1, 1) := by decide +kernel
theorem dX0_raise_196 : decode cX0_raise 196 = .ok (.isub, 1) := by decide +kernel
theorem dX0_raise_197 : decode cX0_raise 197 = .ok (.goto 5, 3) := by decide +kernel
theorem dX0_raise_200 : decode cX0_raise 200 = .ok (.iload 6, 2) := by decide +kernel
theorem dX0_raise_202 : decode cX0_raise 202 = .ok (.putfield 13, 3) := by decide +kernel
theorem dX0_raise_205 : decode cX0_raise 205 = .ok (.return_, 1) := by decide +kernel
theorem dX0_lower_0 : decode cX0_lower 0 = .ok (.iconst 0, 1) := by decide +kernel
theorem dX0_lower_1 : decode cX0_lower 1 = .ok (.iload_n 2, 1) := by decide +kernel
theorem dX0_lower_2 : decode cX0_lower 2 = .ok (.invokestatic 36, 3) := by decide +kernel
theorem dX0_lower_5 : decode cX0_lower 5 = .ok (.bipush 30, 2) := by decide +kernel
theorem dX0_lower_7 : decode cX0_lower 7 = .ok (.idiv, 1) := by decide +kernel
theorem dX0_lower_8 : decode cX0_lower 8 = .ok (.istore 4, 2) := by decide +kernel
theorem dX0_lower_10 : decode cX0_lower 10 = .ok (.iconst 0, 1) := by decide +kernel
theorem dX0_lower_11 : decode cX0_lower 11 = .ok (.iload_n 2, 1) := by decide +kernel
theorem dX0_lower_12 : decode cX0_lower 12 = .ok (.invokestatic 36, 3) := by decide +kernel
theorem dX0_lower_15 : decode cX0_lower 15 = .ok (.bipush 30, 2) := by decide +kernel
theorem dX0_lower_17 : decode cX0_lower 17 = .ok (.irem, 1) := by decide +kernel
theorem dX0_lower_18 : decode cX0_lower 18 = .ok (.istore 5, 2) := by decide +kernel
theorem dX0_lower_20 : decode cX0_lower 20 = .ok (.aload_n 1, 1) := by decide +kernel
theorem dX0_lower_21 : decode cX0_lower 21 = .ok (.getfield 13, 3) := by decide +kernel
theorem dX0_lower_24 : decode cX0_lower 24 = .ok (.istore 6, 2) := by decide +kernel
theorem dX0_lower_26 : decode cX0_lower 26 = .ok (.aload_n 1, 1) := by decide +kernel
theorem dX0_lower_27 : decode cX0_lower 27 = .ok (.getfield 17, 3) := by decide +kernel
theorem dX0_lower_30 : decode cX0_lower 30 = .ok (.istore 7, 2) := by decide +kernel
theorem dX0_lower_32 : decode cX0_lower 32 = .ok (.iload 4, 2) := by decide +kernel
theorem dX0_lower_34 : decode cX0_lower 34 = .ok (.iload 6, 2) := by decide +kernel
theorem dX0_lower_36 : decode cX0_lower 36 = .ok (.if_icmp .ge 24, 3) := by decide +kernel
theorem dX0_lower_39 : decode cX0_lower 39 = .ok (.aload_n 1, 1) := by decide +kernel
theorem dX0_lower_40 : decode cX0_lower 40 = .ok (.getfield 9, 3) := by decide +kernel
theorem dX0_lower_43 : decode cX0_lower 43 = .ok (.iload 4, 2) := by decide +kernel
theorem dX0_lower_45 : decode cX0_lower 45 = .ok (.iaload, 1) := by decide +kernel
theorem dX0_lower_46 : decode cX0_lower 46 = .ok (.iconst 1, 1) := by decide +kernel
theorem dX0_lower_47 : decode cX0_lower 47 = .ok (.iload 5, 2) := by decide +kernel
theorem dX0_lower_49 : decode cX0_lower 49 = .ok (.ishl, 1) := by decide +kernel
theorem dX0_lower_50 : decode cX0_lower 50 = .ok (.iconst 1, 1) := by decide +kernel
theorem dX0_lower_51 : decode cX0_lower 51 = .ok (.isub, 1) := by decide +kernel
theorem dX0_lower_52 : decode cX0_lower 52 = .ok (.iand, 1) := by decide +kernel
theorem dX0_lower_53 : decode cX0_lower 53 = .ok (.ifCond .eq 7, 3) := by decide +kernel
theorem dX0_lower_56 : decode cX0_lower 56 = .ok (.iconst 1, 1) := by decide +kernel
theorem dX0_lower_57 : decode cX0_lower 57 = .ok (.goto 4, 3) := by decide +kernel
theorem dX0_lower_60 : decode cX0_lower 60 = .ok (.iconst 0, 1) := by decide +kernel
theorem dX0_lower_61 : decode cX0_lower 61 = .ok (.istore 8, 2) := by decide +kernel
theorem dX0_lower_63 : decode cX0_lower 63 = .ok (.iconst 0, 1) := by decide +kernel
theorem dX0_lower_64 : decode cX0_lower 64 = .ok (.istore 9, 2) := by decide +kernel
theorem dX0_lower_66 : decode cX0_lower 66 = .ok (.iload 9, 2) := by decide +kernel
theorem dX0_lower_68 : decode cX0_lower 68 = .ok (.iload 4, 2) := by decide +kernel
theorem dX0_lower_70 : decode cX0_lower 70 = .ok (.if_icmp .ge 36, 3) := by decide +kernel
theorem dX0_lower_73 : decode cX0_lower 73 = .ok (.iload 9, 2) := by decide +kernel
theorem dX0_lower_75 : decode cX0_lower 75 = .ok (.iload 6, 2) := by decide +kernel
theorem dX0_lower_77 : decode cX0_lower 77 = .ok (.if_icmp .ge 29, 3) := by decide +kernel
theorem dX0_lower_80 : decode cX0_lower 80 = .ok (.iload 8, 2) := by decide +kernel
theorem dX0_lower_82 : decode cX0_lower 82 = .ok (.aload_n 1, 1) := by decide +kernel
theorem dX0_lower_83 : decode cX0_lower 83 = .ok (.getfield 9, 3) := by decide +kernel
theorem dX0_lower_86 : decode cX0_lower 86 = .ok (.iload 9, 2) := by decide +kernel
theorem dX0_lower_88 : decode cX0_lower 88 = .ok (.iaload, 1) := by decide +kernel
theorem dX0_lower_89 : decode cX0_lower 89 = .ok (.ifCond .eq 7, 3) := by decide +kernel
theorem dX0_lower_92 : decode cX0_lower 92 = .ok (.iconst 1, 1) := by decide +kernel
theorem dX0_lower_93 : decode cX0_lower 93 = .ok (.goto 4, 3) := by decide +kernel
theorem dX0_lower_96 : decode cX0_lower 96 = .ok (.iconst 0, 1) := by decide +kernel
theorem dX0_lower_97 : decode cX0_lower 97 = .ok (.ior, 1) := by decide +kernel
theorem dX0_lower_98 : decode cX0_lower 98 = .ok (.istore 8, 2) := by decide +kernel
theorem dX0_lower_100 : decode cX0_lower 100 = .ok (.iinc 9 1, 3) := by decide +kernel
theorem dX0_lower_103 : decode cX0_lower 103 = .ok (.goto (-37), 3) := by decide +kernel
theorem dX0_lower_106 : decode cX0_lower 106 = .ok (.iconst 0, 1) := by decide +kernel
theorem dX0_lower_107 : decode cX0_lower 107 = .ok (.iload 6, 2) := by decide +kernel
theorem dX0_lower_109 : decode cX0_lower 109 = .ok (.iload 4, 2) := by decide +kernel
theorem dX0_lower_111 : decode cX0_lower 111 = .ok (.isub, 1) := by decide +kernel
theorem dX0_lower_112 : decode cX0_lower 112 = .ok (.invokestatic 36, 3) := by decide +kernel
theorem dX0_lower_115 : decode cX0_lower 115 = .ok (.istore 9, 2) := by decide +kernel
theorem dX0_lower_117 : decode cX0_lower 117 = .ok (.iload 9, 2) := by decide +kernel
theorem dX0_lower_119 : decode cX0_lower 119 = .ok (.aload_n 0, 1) := by decide +kernel
theorem dX0_lower_120 : decode cX0_lower 120 = .ok (.getfield 9, 3) := by decide +kernel
theorem dX0_lower_123 : decode cX0_lower 123 = .ok (.arraylength, 1) := by decide +kernel
theorem dX0_lower_124 : decode cX0_lower 124 = .ok (.if_icmp .le 13, 3) := by decide +kernel
theorem dX0_lower_127 : decode cX0_lower 127 = .ok (.aload_n 0, 1) := by decide +kernel
theorem dX0_lower_128 : decode cX0_lower 128 = .ok (.iconst 2, 1) := by decide +kernel
theorem dX0_lower_129 : decode cX0_lower 129 = .ok (.iload 9, 2) := by decide +kernel
theorem dX0_lower_131 : decode cX0_lower 131 = .ok (.imul, 1) := by decide +kernel
theorem dX0_lower_132 : decode cX0_lower 132 = .ok (.newarray .int, 2) := by decide +kernel
theorem dX0_lower_134 : decode cX0_lower 134 = .ok (.putfield 9, 3) := by decide +kernel
theorem dX0_lower_137 : decode cX0_lower 137 = .ok (.iconst 0, 1) := by decide +kernel
theorem dX0_lower_138 : decode cX0_lower 138 = .ok (.istore 10, 2) := by decide +kernel
theorem dX0_lower_140 : decode cX0_lower 140 = .ok (.iload 10, 2) := by decide +kernel
theorem dX0_lower_142 : decode cX0_lower 142 = .ok (.iload 9, 2) := by decide +kernel
theorem dX0_lower_144 : decode cX0_lower 144 = .ok (.if_icmp .ge 67, 3) := by decide +kernel
theorem dX0_lower_147 : decode cX0_lower 147 = .ok (.aload_n 0, 1) := by decide +kernel
theorem dX0_lower_148 : decode cX0_lower 148 = .ok (.getfield 9, 3) := by decide +kernel
theorem dX0_lower_151 : decode cX0_lower 151 = .ok (.iload 10, 2) := by decide +kernel
theorem dX0_lower_153 : decode cX0_lower 153 = .ok (.aload_n 1, 1) := by decide +kernel
theorem dX0_lower_154 : decode cX0_lower 154 = .ok (.getfield 9, 3) := by decide +kernel
theorem dX0_lower_157 : decode cX0_lower 157 = .ok (.iload 10, 2) := by decide +kernel
theorem dX0_lower_159 : decode cX0_lower 159 = .ok (.iload 4, 2) := by decide +kernel
theorem dX0_lower_161 : decode cX0_lower 161 = .ok (.iadd, 1) := by decide +kernel
theorem dX0_lower_162 : decode cX0_lower 162 = .ok (.iaload, 1) := by decide +kernel
theorem dX0_lower_163 : decode cX0_lower 163 = .ok (.iload 5, 2) := by decide +kernel
theorem dX0_lower_165 : decode cX0_lower 165 = .ok (.iushr, 1) := by decide +kernel
theorem dX0_lower_166 : decode cX0_lower 166 = .ok (.iload 10, 2) := by decide +kernel
theorem dX0_lower_168 : decode cX0_lower 168 = .ok (.iload 4, 2) := by decide +kernel
theorem dX0_lower_170 : decode cX0_lower 170 = .ok (.iadd, 1) := by decide +kernel
theorem dX0_lower_171 : decode cX0_lower 171 = .ok (.iconst 1, 1) := by decide +kernel
theorem dX0_lower_172 : decode cX0_lower 172 = .ok (.iadd, 1) := by decide +kernel
theorem dX0_lower_173 : decode cX0_lower 173 = .ok (.iload 6, 2) := by decide +kernel
theorem dX0_lower_175 : decode cX0_lower 175 = .ok (.if_icmp .ge 27, 3) := by decide +kernel
theorem dX0_lower_178 : decode cX0_lower 178 = .ok (.aload_n 1, 1) := by decide +kernel
theorem dX0_lower_179 : decode cX0_lower 179 = .ok (.getfield 9, 3) := by decide +kernel
theorem dX0_lower_182 : decode cX0_lower 182 = .ok (.iload 10, 2) := by decide +kernel
theorem dX0_lower_184 : decode cX0_lower 184 = .ok (.iload 4, 2) := by decide +kernel
theorem dX0_lower_186 : decode cX0_lower 186 = .ok (.iadd, 1) := by decide +kernel
theorem dX0_lower_187 : decode cX0_lower 187 = .ok (.iconst 1, 1) := by decide +kernel
theorem dX0_lower_188 : decode cX0_lower 188 = .ok (.iadd, 1) := by decide +kernel
theorem dX0_lower_189 : decode cX0_lower 189 = .ok (.iaload, 1) := by decide +kernel
theorem dX0_lower_190 : decode cX0_lower 190 = .ok (.bipush 30, 2) := by decide +kernel
theorem dX0_lower_192 : decode cX0_lower 192 = .ok (.iload 5, 2) := by decide +kernel
theorem dX0_lower_194 : decode cX0_lower 194 = .ok (.isub, 1) := by decide +kernel
theorem dX0_lower_195 : decode cX0_lower 195 = .ok (.ishl, 1) := by decide +kernel
theorem dX0_lower_196 : decode cX0_lower 196 = .ok (.ldc 59, 2) := by decide +kernel
theorem dX0_lower_198 : decode cX0_lower 198 = .ok (.iand, 1) := by decide +kernel
theorem dX0_lower_199 : decode cX0_lower 199 = .ok (.goto 4, 3) := by decide +kernel
theorem dX0_lower_202 : decode cX0_lower 202 = .ok (.iconst 0, 1) := by decide +kernel
theorem dX0_lower_203 : decode cX0_lower 203 = .ok (.ior, 1) := by decide +kernel
theorem dX0_lower_204 : decode cX0_lower 204 = .ok (.iastore, 1) := by decide +kernel
theorem dX0_lower_205 : decode cX0_lower 205 = .ok (.iinc 10 1, 3) := by decide +kernel
theorem dX0_lower_208 : decode cX0_lower 208 = .ok (.goto (-68), 3) := by decide +kernel
theorem dX0_lower_211 : decode cX0_lower 211 = .ok (.aload_n 0, 1) := by decide +kernel
theorem dX0_lower_212 : decode cX0_lower 212 = .ok (.iload 7, 2) := by decide +kernel
theorem dX0_lower_214 : decode cX0_lower 214 = .ok (.putfield 17, 3) := by decide +kernel
theorem dX0_lower_217 : decode cX0_lower 217 = .ok (.aload_n 0, 1) := by decide +kernel
theorem dX0_lower_218 : decode cX0_lower 218 = .ok (.iload 9, 2) := by decide +kernel
theorem dX0_lower_220 : decode cX0_lower 220 = .ok (.invokevirtual 67, 3) := by decide +kernel
theorem dX0_lower_223 : decode cX0_lower 223 = .ok (.iload 8, 2) := by decide +kernel
theorem dX0_lower_225 : decode cX0_lower 225 = .ok (.ifCond .eq 27, 3) := by decide +kernel
theorem dX0_lower_228 : decode cX0_lower 228 = .ok (.iload 7, 2) := by decide +kernel
theorem dX0_lower_230 : decode cX0_lower 230 = .ok (.iload_n 3, 1) := by decide +kernel
theorem dX0_lower_231 : decode cX0_lower 231 = .ok (.ifCond .eq 7, 3) := by decide +kernel
theorem dX0_lower_234 : decode cX0_lower 234 = .ok (.iconst 1, 1) := by decide +kernel
theorem dX0_lower_235 : decode cX0_lower 235 = .ok (.goto 4, 3) := by decide +kernel
theorem dX0_lower_238 : decode cX0_lower 238 = .ok (.iconst (-1), 1) := by decide +kernel
theorem dX0_lower_239 : decode cX0_lower 239 = .ok (.if_icmp .ne 13, 3) := by decide +kernel
theorem dX0_lower_242 : decode cX0_lower 242 = .ok (.aload_n 0, 1) := by decide +kernel
theorem dX0_lower_243 : decode cX0_lower 243 = .ok (.iload 7, 2) := by decide +kernel
theorem dX0_lower_245 : decode cX0_lower 245 = .ok (.putfield 17, 3) := by decide +kernel
theorem dX0_lower_248 : decode cX0_lower 248 = .ok (.aload_n 0, 1) := by decide +kernel
theorem dX0_lower_249 : decode cX0_lower 249 = .ok (.invokevirtual 64, 3) := by decide +kernel
theorem dX0_lower_252 : decode cX0_lower 252 = .ok (.return_, 1) := by decide +kernel
theorem dX0_rest_0 : decode cX0_rest 0 = .ok (.aload_n 2, 1) := by decide +kernel
theorem dX0_rest_1 : decode cX0_rest 1 = .ok (.getfield 13, 3) := by decide +kernel
theorem dX0_rest_4 : decode cX0_rest 4 = .ok (.ifCond .eq 11, 3) := by decide +kernel
theorem dX0_rest_7 : decode cX0_rest 7 = .ok (.aload_n 1, 1) := by decide +kernel
theorem dX0_rest_8 : decode cX0_rest 8 = .ok (.aload_n 2, 1) := by decide +kernel
theorem dX0_rest_9 : decode cX0_rest 9 = .ok (.invokevirtual 28, 3) := by decide +kernel
theorem dX0_rest_12 : decode cX0_rest 12 = .ok (.ifCond .ge 13, 3) := by decide +kernel
theorem dX0_rest_15 : decode cX0_rest 15 = .ok (.aload_n 0, 1) := by decide +kernel
theorem dX0_rest_16 : decode cX0_rest 16 = .ok (.aload_n 1, 1) := by decide +kernel
theorem dX0_rest_17 : decode cX0_rest 17 = .ok (.invokevirtual 32, 3) := by decide +kernel
theorem dX0_rest_20 : decode cX0_rest 20 = .ok (.aload_n 3, 1) := by decide +kernel
theorem dX0_rest_21 : decode cX0_rest 21 = .ok (.invokevirtual 52, 3) := by decide +kernel
theorem dX0_rest_24 : decode cX0_rest 24 = .ok (.return_, 1) := by decide +kernel
theorem dX0_rest_25 : decode cX0_rest 25 = .ok (.aload_n 2, 1) := by decide +kernel
theorem dX0_rest_26 : decode cX0_rest 26 = .ok (.getfield 13, 3) := by decide +kernel
theorem dX0_rest_29 : decode cX0_rest 29 = .ok (.istore 4, 2) := by decide +kernel
theorem dX0_rest_31 : decode cX0_rest 31 = .ok (.iload 4, 2) := by decide +kernel
theorem dX0_rest_33 : decode cX0_rest 33 = .ok (.bipush 30, 2) := by decide +kernel
theorem dX0_rest_35 : decode cX0_rest 35 = .ok (.imul, 1) := by decide +kernel
theorem dX0_rest_36 : decode cX0_rest 36 = .ok (.aload_n 2, 1) := by decide +kernel
theorem dX0_rest_37 : decode cX0_rest 37 = .ok (.invokevirtual 71, 3) := by decide +kernel
theorem dX0_rest_40 : decode cX0_rest 40 = .ok (.isub, 1) := by decide +kernel
theorem dX0_rest_41 : decode cX0_rest 41 = .ok (.istore 5, 2) := by decide +kernel
theorem dX0_rest_43 : decode cX0_rest 43 = .ok (.aload_n 1, 1) := by decide +kernel
theorem dX0_rest_44 : decode cX0_rest 44 = .ok (.getfield 17, 3) := by decide +kernel
theorem dX0_rest_47 : decode cX0_rest 47 = .ok (.istore 6, 2) := by decide +kernel
theorem dX0_rest_49 : decode cX0_rest 49 = .ok (.aload_n 2, 1) := by decide +kernel
theorem dX0_rest_50 : decode cX0_rest 50 = .ok (.getfield 17, 3) := by decide +kernel
theorem dX0_rest_53 : decode cX0_rest 53 = .ok (.istore 7, 2) := by decide +kernel
theorem dX0_rest_55 : decode cX0_rest 55 = .ok (.aload_n 0, 1) := by decide +kernel
theorem dX0_rest_56 : decode cX0_rest 56 = .ok (.aload_n 1, 1) := by decide +kernel
theorem dX0_rest_57 : decode cX0_rest 57 = .ok (.iload 5, 2) := by decide +kernel
theorem dX0_rest_59 : decode cX0_rest 59 = .ok (.invokevirtual 75, 3) := by decide +kernel
theorem dX0_rest_62 : decode cX0_rest 62 = .ok (.aload_n 0, 1) := by decide +kernel
theorem dX0_rest_63 : decode cX0_rest 63 = .ok (.getfield 13, 3) := by decide +kernel
theorem dX0_rest_66 : decode cX0_rest 66 = .ok (.istore 8, 2) := by decide +kernel
theorem dX0_rest_68 : decode cX0_rest 68 = .ok (.iload 8, 2) := by decide +kernel
theorem dX0_rest_70 : decode cX0_rest 70 = .ok (.aload_n 0, 1) := by decide +kernel
theorem dX0_rest_71 : decode cX0_rest 71 = .ok (.getfield 9, 3) := by decide +kernel
theorem dX0_rest_74 : decode cX0_rest 74 = .ok (.arraylength, 1) := by decide +kernel
theorem dX0_rest_75 : decode cX0_rest 75 = .ok (.if_icmp .lt 20, 3) := by decide +kernel
theorem dX0_rest_78 : decode cX0_rest 78 = .ok (.aload_n 0, 1) := by decide +kernel
theorem dX0_rest_79 : decode cX0_rest 79 = .ok (.aload_n 0, 1) := by decide +kernel
theorem dX0_rest_80 : decode cX0_rest 80 = .ok (.getfield 9, 3) := by decide +kernel
theorem dX0_rest_83 : decode cX0_rest 83 = .ok (.iconst 2, 1) := by decide +kernel
theorem dX0_rest_84 : decode cX0_rest 84 = .ok (.iload 8, 2) := by decide +kernel
theorem dX0_rest_86 : decode cX0_rest 86 = .ok (.imul, 1) := by decide +kernel
theorem dX0_rest_87 : decode cX0_rest 87 = .ok (.iconst 2, 1) := by decide +kernel
theorem dX0_rest_88 : decode cX0_rest 88 = .ok (.iadd, 1) := by decide +kernel
theorem dX0_rest_89 : decode cX0_rest 89 = .ok (.invokestatic 42, 3) := by decide +kernel
theorem dX0_rest_92 : decode cX0_rest 92 = .ok (.putfield 9, 3) := by decide +kernel
theorem dX0_rest_95 : decode cX0_rest 95 = .ok (.aload_n 0, 1) := by decide +kernel
theorem dX0_rest_96 : decode cX0_rest 96 = .ok (.getfield 9, 3) := by decide +kernel
theorem dX0_rest_99 : decode cX0_rest 99 = .ok (.iload 8, 2) := by decide +kernel
theorem dX0_rest_101 : decode cX0_rest 101 = .ok (.iconst 0, 1) := by decide +kernel
theorem dX0_rest_102 : decode cX0_rest 102 = .ok (.iastore, 1) := by decide +kernel
theorem dX0_rest_103 : decode cX0_rest 103 = .ok (.iload 8, 2) := by decide +kernel
theorem dX0_rest_105 : decode cX0_rest 105 = .ok (.iload 4, 2) := by decide +kernel
theorem dX0_rest_107 : decode cX0_rest 107 = .ok (.isub, 1) := by decide +kernel
theorem dX0_rest_108 : decode cX0_rest 108 = .ok (.istore 9, 2) := by decide +kernel
theorem dX0_rest_110 : decode cX0_rest 110 = .ok (.iload 9, 2) := by decide +kernel
theorem dX0_rest_112 : decode cX0_rest 112 = .ok (.aload_n 3, 1) := by decide +kernel
theorem dX0_rest_113 : decode cX0_rest 113 = .ok (.getfield 9, 3) := by decide +kernel
theorem dX0_rest_116 : decode cX0_rest 116 = .ok (.arraylength, 1) := by decide +kernel
theorem dX0_rest_117 : decode cX0_rest 117 = .ok (.if_icmp .lt 15, 3) := by decide +kernel
theorem dX0_rest_120 : decode cX0_rest 120 = .ok (.aload_n 3, 1) := by decide +kernel
theorem dX0_rest_121 : decode cX0_rest 121 = .ok (.iconst 2, 1) := by decide +kernel
theorem dX0_rest_122 : decode cX0_rest 122 = .ok (.iload 9, 2) := by decide +kernel
theorem dX0_rest_124 : decode cX0_rest 124 = .ok (.imul, 1) := by decide +kernel
theorem dX0_rest_125 : decode cX0_rest 125 = .ok (.iconst 2, 1) := by decide +kernel
theorem dX0_rest_126 : decode cX0_rest 126 = .ok (.iadd, 1) := by decide +kernel
theorem dX0_rest_127 : decode cX0_rest 127 = .ok (.newarray .int, 2) := by decide +kernel
theorem dX0_rest_129 : decode cX0_rest 129 = .ok (.putfield 9, 3) := by decide +kernel
theorem dX0_rest_132 : decode cX0_rest 132 = .ok (.iconst 1, 1) := by decide +kernel
theorem dX0_rest_133 : decode cX0_rest 133 = .ok (.aload_n 2, 1) := by decide +kernel
theorem dX0_rest_134 : decode cX0_rest 134 = .ok (.iload 4, 2) := by decide +kernel
theorem dX0_rest_136 : decode cX0_rest 136 = .ok (.iconst 1, 1) := by decide +kernel
theorem dX0_rest_137 : decode cX0_rest 137 = .ok (.isub, 1) := by decide +kernel
theorem dX0_rest_138 : decode cX0_rest 138 = .ok (.iload 5, 2) := by decide +kernel
theorem dX0_rest_140 : decode cX0_rest 140 = .ok (.invokestatic 79, 3) := by decide +kernel
theorem dX0_rest_143 : decode cX0_rest 143 = .ok (.invokestatic 36, 3) := by decide +kernel
theorem dX0_rest_146 : decode cX0_rest 146 = .ok (.i2l, 1) := by decide +kernel
theorem dX0_rest_147 : decode cX0_rest 147 = .ok (.lstore 10, 2) := by decide +kernel
theorem dX0_rest_149 : decode cX0_rest 149 = .ok (.iload 4, 2) := by decide +kernel
theorem dX0_rest_151 : decode cX0_rest 151 = .ok (.iconst 1, 1) := by decide +kernel
theorem dX0_rest_152 : decode cX0_rest 152 = .ok (.if_icmp .le 17, 3) := by decide +kernel
theorem dX0_rest_155 : decode cX0_rest 155 = .ok (.aload_n 2, 1) := by decide +kernel
theorem dX0_rest_156 : decode cX0_rest 156 = .ok (.iload 4, 2) := by decide +kernel
theorem dX0_rest_158 : decode cX0_rest 158 = .ok (.iconst 2, 1) := by decide +kernel
theorem dX0_rest_159 : decode cX0_rest 159 = .ok (.isub, 1) := by decide +kernel
theorem dX0_rest_160 : decode cX0_rest 160 = .ok (.iload 5, 2) := by decide +kernel
theorem dX0_rest_162 : decode cX0_rest 162 = .ok (.invokestatic 79, 3) := by decide +kernel
theorem dX0_rest_165 : decode cX0_rest 165 = .ok (.i2l, 1) := by decide +kernel
theorem dX0_rest_166 : decode cX0_rest 166 = .ok (.goto 4, 3) := by decide +kernel
theorem dX0_rest_169 : decode cX0_rest 169 = .ok (.lconst 0, 1) := by decide +kernel
theorem dX0_rest_170 : decode cX0_rest 170 = .ok (.lstore 12, 2) := by decide +kernel
theorem dX0_rest_172 : decode cX0_rest 172 = .ok (.iload 9, 2) := by decide +kernel
theorem dX0_rest_174 : decode cX0_rest 174 = .ok (.istore 14, 2) := by decide +kernel
theorem dX0_rest_176 : decode cX0_rest 176 = .ok (.iload 14, 2) := by decide +kernel
theorem dX0_rest_178 : decode cX0_rest 178 = .ok (.ifCond .lt 177, 3) := by decide +kernel
theorem dX0_rest_181 : decode cX0_rest 181 = .ok (.aload_n 0, 1) := by decide +kernel
theorem dX0_rest_182 : decode cX0_rest 182 = .ok (.getfield 9, 3) := by decide +kernel
theorem dX0_rest_185 : decode cX0_rest 185 = .ok (.iload 14, 2) := by decide +kernel
theorem dX0_rest_187 : decode cX0_rest 187 = .ok (.iload 4, 2) := by decide +kernel
theorem dX0_rest_189 : decode cX0_rest 189 = .ok (.iadd, 1) := by decide +kernel
theorem dX0_rest_190 : decode cX0_rest 190 = .ok (.iaload, 1) := by decide +kernel
theorem dX0_rest_191 : decode cX0_rest 191 = .ok (.i2l, 1) := by decide +kernel
theorem dX0_rest_192 : decode cX0_rest 192 = .ok (.bipush 30, 2) := by decide +kernel
theorem dX0_rest_194 : decode cX0_rest 194 = .ok (.lshl, 1) := by decide +kernel
theorem dX0_rest_195 : decode cX0_rest 195 = .ok (.aload_n 0, 1) := by decide +kernel
theorem dX0_rest_196 : decode cX0_rest 196 = .ok (.getfield 9, 3) := by decide +kernel
theorem dX0_rest_199 : decode cX0_rest 199 = .ok (.iload 14, 2) := by decide +kernel
theorem dX0_rest_201 : decode cX0_rest 201 = .ok (.iload 4, 2) := by decide +kernel
theorem dX0_rest_203 : decode cX0_rest 203 = .ok (.iadd, 1) := by decide +kernel
theorem dX0_rest_204 : decode cX0_rest 204 = .ok (.iconst 1, 1) := by decide +kernel
theorem dX0_rest_205 : decode cX0_rest 205 = .ok (.isub, 1) := by decide +kernel
theorem dX0_rest_206 : decode cX0_rest 206 = .ok (.iaload, 1) := by decide +kernel
theorem dX0_rest_207 : decode cX0_rest 207 = .ok (.i2l, 1) := by decide +kernel
theorem dX0_rest_208 : decode cX0_rest 208 = .ok (.lor, 1) := by decide +kernel
theorem dX0_rest_209 : decode cX0_rest 209 = .ok (.lstore 15, 2) := by decide +kernel
theorem dX0_rest_211 : decode cX0_rest 211 = .ok (.lload 15, 2) := by decide +kernel
theorem dX0_rest_213 : decode cX0_rest 213 = .ok (.lload 10, 2) := by decide +kernel
theorem dX0_rest_215 : decode cX0_rest 215 = .ok (.ldiv, 1) := by decide +kernel
theorem dX0_rest_216 : decode cX0_rest 216 = .ok (.ldc2_w 20, 3) := by decide +kernel
theorem dX0_rest_219 : decode cX0_rest 219 = .ok (.invokestatic 83, 3) := by decide +kernel
theorem dX0_rest_222 : decode cX0_rest 222 = .ok (.lstore 17, 2) := by decide +kernel
theorem dX0_rest_224 : decode cX0_rest 224 = .ok (.lload 15, 2) := by decide +kernel
theorem dX0_rest_226 : decode cX0_rest 226 = .ok (.lload 17, 2) := by decide +kernel
theorem dX0_rest_228 : decode cX0_rest 228 = .ok (.lload 10, 2) := by decide +kernel
theorem dX0_rest_230 : decode cX0_rest 230 = .ok (.lmul, 1) := by decide +kernel
theorem dX0_rest_231 : decode cX0_rest 231 = .ok (.lsub, 1) := by decide +kernel
theorem dX0_rest_232 : decode cX0_rest 232 = .ok (.lstore 19, 2) := by decide +kernel
theorem dX0_rest_234 : decode cX0_rest 234 = .ok (.iconst 0, 1) := by decide +kernel
theorem dX0_rest_235 : decode cX0_rest 235 = .ok (.istore 21, 2) := by decide +kernel
theorem dX0_rest_237 : decode cX0_rest 237 = .ok (.iload 21, 2) := by decide +kernel
theorem dX0_rest_239 : decode cX0_rest 239 = .ok (.iconst 3, 1) := by decide +kernel
theorem dX0_rest_240 : decode cX0_rest 240 = .ok (.if_icmp .ge 65, 3) := by decide +kernel
theorem dX0_rest_243 : decode cX0_rest 243 = .ok (.lload 19, 2) := by decide +kernel
theorem dX0_rest_245 : decode cX0_rest 245 = .ok (.ldc2_w 20, 3) := by decide +kernel
theorem dX0_rest_248 : decode cX0_rest 248 = .ok (.lcmp, 1) := by decide +kernel
theorem dX0_rest_249 : decode cX0_rest 249 = .ok (.ifCond .gt 56, 3) := by decide +kernel
theorem dX0_rest_252 : decode cX0_rest 252 = .ok (.iload 4, 2) := by decide +kernel
theorem dX0_rest_254 : decode cX0_rest 254 = .ok (.iconst 1, 1) := by decide +kernel
theorem dX0_rest_255 : decode cX0_rest 255 = .ok (.if_icmp .le 50, 3) := by decide +kernel
theorem dX0_rest_258 : decode cX0_rest 258 = .ok (.lload 17, 2) := by decide +kernel
theorem dX0_rest_260 : decode cX0_rest 260 = .ok (.lload 12, 2) := by decide +kernel
theorem dX0_rest_262 : decode cX0_rest 262 = .ok (.lmul, 1) := by decide +kernel
theorem dX0_rest_263 : decode cX0_rest 263 = .ok (.lload 19, 2) := by decide +kernel
theorem dX0_rest_265 : decode cX0_rest 265 = .ok (.bipush 30, 2) := by decide +kernel
theorem dX0_rest_267 : decode cX0_rest 267 = .ok (.lshl, 1) := by decide +kernel
theorem dX0_rest_268 : decode cX0_rest 268 = .ok (.aload_n 0, 1) := by decide +kernel
theorem dX0_rest_269 : decode cX0_rest 269 = .ok (.getfield 9, 3) := by decide +kernel
theorem dX0_rest_272 : decode cX0_rest 272 = .ok (.iload 14, 2) := by decide +kernel
theorem dX0_rest_274 : decode cX0_rest 274 = .ok (.iload 4, 2) := by decide +kernel
theorem dX0_rest_276 : decode cX0_rest 276 = .ok (.iadd, 1) := by decide +kernel
theorem dX0_rest_277 : decode cX0_rest 277 = .ok (.iconst 2, 1) := by decide +kernel
theorem dX0_rest_278 : decode cX0_rest 278 = .ok (.isub, 1) := by decide +kernel
theorem dX0_rest_279 : decode cX0_rest 279 = .ok (.iaload, 1) := by decide +kernel
theorem dX0_rest_280 : decode cX0_rest 280 = .ok (.i2l, 1) := by decide +kernel
theorem dX0_rest_281 : decode cX0_rest 281 = .ok (.lor, 1) := by decide +kernel
theorem dX0_rest_282 : decode cX0_rest 282 = .ok (.lcmp, 1) := by decide +kernel
theorem dX0_rest_283 : decode cX0_rest 283 = .ok (.ifCond .le 22, 3) := by decide +kernel
theorem dX0_rest_286 : decode cX0_rest 286 = .ok (.lload 17, 2) := by decide +kernel
theorem dX0_rest_288 : decode cX0_rest 288 = .ok (.lconst 1, 1) := by decide +kernel
theorem dX0_rest_289 : decode cX0_rest 289 = .ok (.lsub, 1) := by decide +kernel
theorem dX0_rest_290 : decode cX0_rest 290 = .ok (.lstore 17, 2) := by decide +kernel
theorem dX0_rest_292 : decode cX0_rest 292 = .ok (.lload 19, 2) := by decide +kernel
theorem dX0_rest_294 : decode cX0_rest 294 = .ok (.lload 10, 2) := by decide +kernel
theorem dX0_rest_296 : decode cX0_rest 296 = .ok (.ladd, 1) := by decide +kernel
theorem dX0_rest_297 : decode cX0_rest 297 = .ok (.lstore 19, 2) := by decide +kernel
theorem dX0_rest_299 : decode cX0_rest 299 = .ok (.iinc 21 1, 3) := by decide +kernel
theorem dX0_rest_302 : decode cX0_rest 302 = .ok (.goto (-65), 3) := by decide +kernel
theorem dX0_rest_305 : decode cX0_rest 305 = .ok (.aload_n 3, 1) := by decide +kernel
theorem dX0_rest_306 : decode cX0_rest 306 = .ok (.getfield 9, 3) := by decide +kernel
theorem dX0_rest_309 : decode cX0_rest 309 = .ok (.iload 14, 2) := by decide +kernel
theorem dX0_rest_311 : decode cX0_rest 311 = .ok (.lload 17, 2) := by decide +kernel
theorem dX0_rest_313 : decode cX0_rest 313 = .ok (.l2i, 1) := by decide +kernel
theorem dX0_rest_314 : decode cX0_rest 314 = .ok (.iastore, 1) := by decide +kernel
theorem dX0_rest_315 : decode cX0_rest 315 = .ok (.aload_n 0, 1) := by decide +kernel
theorem dX0_rest_316 : decode cX0_rest 316 = .ok (.aload_n 2, 1) := by decide +kernel
theorem dX0_rest_317 : decode cX0_rest 317 = .ok (.lload 17, 2) := by decide +kernel
theorem dX0_rest_319 : decode cX0_rest 319 = .ok (.iload 5, 2) := by decide +kernel
theorem dX0_rest_321 : decode cX0_rest 321 = .ok (.iload 14, 2) := by decide +kernel
theorem dX0_rest_323 : decode cX0_rest 323 = .ok (.invokevirtual 87, 3) := by decide +kernel
theorem dX0_rest_326 : decode cX0_rest 326 = .ok (.ifCond .eq 23, 3) := by decide +kernel
theorem dX0_rest_329 : decode cX0_rest 329 = .ok (.aload_n 3, 1) := by decide +kernel
theorem dX0_rest_330 : decode cX0_rest 330 = .ok (.getfield 9, 3) := by decide +kernel
theorem dX0_rest_333 : decode cX0_rest 333 = .ok (.iload 14, 2) := by decide +kernel
theorem dX0_rest_335 : decode cX0_rest 335 = .ok (.dup2, 1) := by decide +kernel
theorem dX0_rest_336 : decode cX0_rest 336 = .ok (.iaload, 1) := by decide +kernel
theorem dX0_rest_337 : decode cX0_rest 337 = .ok (.iconst 1, 1) := by decide +kernel
theorem dX0_rest_338 : decode cX0_rest 338 = .ok (.isub, 1) := by decide +kernel
theorem dX0_rest_339 : decode cX0_rest 339 = .ok (.iastore, 1) := by decide +kernel
theorem dX0_rest_340 : decode cX0_rest 340 = .ok (.aload_n 0, 1) := by decide +kernel
theorem dX0_rest_341 : decode cX0_rest 341 = .ok (.aload_n 2, 1) := by decide +kernel
theorem dX0_rest_342 : decode cX0_rest 342 = .ok (.iload 5, 2) := by decide +kernel
theorem dX0_rest_344 : decode cX0_rest 344 = .ok (.iload 14, 2) := by decide +kernel
theorem dX0_rest_346 : decode cX0_rest 346 = .ok (.invokevirtual 91, 3) := by decide +kernel
theorem dX0_rest_349 : decode cX0_rest 349 = .ok (.iinc 14 (-1), 3) := by decide +kernel
theorem dX0_rest_352 : decode cX0_rest 352 = .ok (.goto (-176), 3) := by decide +kernel
theorem dX0_rest_355 : decode cX0_rest 355 = .ok (.iconst 0, 1) := by decide +kernel
theorem dX0_rest_356 : decode cX0_rest 356 = .ok (.istore 14, 2) := by decide +kernel
theorem dX0_rest_358 : decode cX0_rest 358 = .ok (.iload 14, 2) := by decide +kernel
theorem dX0_rest_360 : decode cX0_rest 360 = .ok (.iload 4, 2) := by decide +kernel
theorem dX0_rest_362 : decode cX0_rest 362 = .ok (.if_icmp .ge 58, 3) := by decide +kernel
theorem dX0_rest_365 : decode cX0_rest 365 = .ok (.aload_n 0, 1) := by decide +kernel
theorem dX0_rest_366 : decode cX0_rest 366 = .ok (.getfield 9, 3) := by decide +kernel
theorem dX0_rest_369 : decode cX0_rest 369 = .ok (.iload 14, 2) := by decide +kernel
theorem dX0_rest_371 : decode cX0_rest 371 = .ok (.aload_n 0, 1) := by decide +kernel
theorem dX0_rest_372 : decode cX0_rest 372 = .ok (.getfield 9, 3) := by decide +kernel
theorem dX0_rest_375 : decode cX0_rest 375 = .ok (.iload 14, 2) := by decide +kernel
theorem dX0_rest_377 : decode cX0_rest 377 = .ok (.iaload, 1) := by decide +kernel
theorem dX0_rest_378 : decode cX0_rest 378 = .ok (.iload 5, 2) := by decide +kernel
theorem dX0_rest_380 : decode cX0_rest 380 = .ok (.iushr, 1) := by decide +kernel
theorem dX0_rest_381 : decode cX0_rest 381 = .ok (.iload 14, 2) := by decide +kernel
theorem dX0_rest_383 : decode cX0_rest 383 = .ok (.iconst 1, 1) := by decide +kernel
theorem dX0_rest_384 : decode cX0_rest 384 = .ok (.iadd, 1) := by decide +kernel
theorem dX0_rest_385 : decode cX0_rest 385 = .ok (.iload 4, 2) := by decide +kernel
theorem dX0_rest_387 : decode cX0_rest 387 = .ok (.if_icmp .ge 24, 3) := by decide +kernel
theorem dX0_rest_390 : decode cX0_rest 390 = .ok (.aload_n 0, 1) := by decide +kernel
theorem dX0_rest_391 : decode cX0_rest 391 = .ok (.getfield 9, 3) := by decide +kernel
theorem dX0_rest_394 : decode cX0_rest 394 = .ok (.iload 14, 2) := by decide +kernel
theorem dX0_rest_396 : decode cX0_rest 396 = .ok (.iconst 1, 1) := by decide +kernel
theorem dX0_rest_397 : decode cX0_rest 397 = .ok (.iadd, 1) := by decide +kernel
theorem dX0_rest_398 : decode cX0_rest 398 = .ok (.iaload, 1) := by decide +kernel
theorem dX0_rest_399 : decode cX0_rest 399 = .ok (.bipush 30, 2) := by decide +kernel
theorem dX0_rest_401 : decode cX0_rest 401 = .ok (.iload 5, 2) := by decide +kernel
theorem dX0_rest_403 : decode cX0_rest 403 = .ok (.isub, 1) := by decide +kernel
theorem dX0_rest_404 : decode cX0_rest 404 = .ok (.ishl, 1) := by decide +kernel
theorem dX0_rest_405 : decode cX0_rest 405 = .ok (.ldc 59, 2) := by decide +kernel
theorem dX0_rest_407 : decode cX0_rest 407 = .ok (.iand, 1) := by decide +kernel
theorem dX0_rest_408 : decode cX0_rest 408 = .ok (.goto 4, 3) := by decide +kernel
theorem dX0_rest_411 : decode cX0_rest 411 = .ok (.iconst 0, 1) := by decide +kernel
theorem dX0_rest_412 : decode cX0_rest 412 = .ok (.ior, 1) := by decide +kernel
theorem dX0_rest_413 : decode cX0_rest 413 = .ok (.iastore, 1) := by decide +kernel
theorem dX0_rest_414 : decode cX0_rest 414 = .ok (.iinc 14 1, 3) := by decide +kernel
theorem dX0_rest_417 : decode cX0_rest 417 = .ok (.goto (-59), 3) := by decide +kernel
theorem dX0_rest_420 : decode cX0_rest 420 = .ok (.aload_n 0, 1) := by decide +kernel
theorem dX0_rest_421 : decode cX0_rest 421 = .ok (.iload 6, 2) := by decide +kernel
theorem dX0_rest_423 : decode cX0_rest 423 = .ok (.putfield 17, 3) := by decide +kernel
theorem dX0_rest_426 : decode cX0_rest 426 = .ok (.aload_n 0, 1) := by decide +kernel
theorem dX0_rest_427 : decode cX0_rest 427 = .ok (.iload 4, 2) := by decide +kernel
theorem dX0_rest_429 : decode cX0_rest 429 = .ok (.invokevirtual 67, 3) := by decide +kernel
theorem dX0_rest_432 : decode cX0_rest 432 = .ok (.aload_n 3, 1) := by decide +kernel
theorem dX0_rest_433 : decode cX0_rest 433 = .ok (.iload 6, 2) := by decide +kernel
theorem dX0_rest_435 : decode cX0_rest 435 = .ok (.iload 7, 2) := by decide +kernel
theorem dX0_rest_437 : decode cX0_rest 437 = .ok (.imul, 1) := by decide +kernel
theorem dX0_rest_438 : decode cX0_rest 438 = .ok (.putfield 17, 3) := by decide +kernel
theorem dX0_rest_441 : decode cX0_rest 441 = .ok (.aload_n 3, 1) := by decide +kernel
theorem dX0_rest_442 : decode cX0_rest 442 = .ok (.iload 9, 2) := by decide +kernel
theorem dX0_rest_444 : decode cX0_rest 444 = .ok (.iconst 1, 1) := by decide +kernel
theorem dX0_rest_445 : decode cX0_rest 445 = .ok (.iadd, 1) := by decide +kernel
theorem dX0_rest_446 : decode cX0_rest 446 = .ok (.invokevirtual 67, 3) := by decide +kernel
theorem dX0_rest_449 : decode cX0_rest 449 = .ok (.return_, 1) := by decide +kernel
theorem dX0_digit_0 : decode cX0_digit 0 = .ok (.aload_n 0, 1) := by decide +kernel
theorem dX0_digit_1 : decode cX0_digit 1 = .ok (.getfield 9, 3) := by decide +kernel
theorem dX0_digit_4 : decode cX0_digit 4 = .ok (.iload_n 1, 1) := by decide +kernel
theorem dX0_digit_5 : decode cX0_digit 5 = .ok (.iaload, 1) := by decide +kernel
theorem dX0_digit_6 : decode cX0_digit 6 = .ok (.iload_n 2, 1) := by decide +kernel
theorem dX0_digit_7 : decode cX0_digit 7 = .ok (.ishl, 1) := by decide +kernel
theorem dX0_digit_8 : decode cX0_digit 8 = .ok (.ldc 59, 2) := by decide +kernel
theorem dX0_digit_10 : decode cX0_digit 10 = .ok (.iand, 1) := by decide +kernel
theorem dX0_digit_11 : decode cX0_digit 11 = .ok (.iload_n 1, 1) := by decide +kernel
theorem dX0_digit_12 : decode cX0_digit 12 = .ok (.ifCond .le 19, 3) := by decide +kernel
theorem dX0_digit_15 : decode cX0_digit 15 = .ok (.aload_n 0, 1) := by decide +kernel
theorem dX0_digit_16 : decode cX0_digit 16 = .ok (.getfield 9, 3) := by decide +kernel
theorem dX0_digit_19 : decode cX0_digit 19 = .ok (.iload_n 1, 1) := by decide +kernel
theorem dX0_digit_20 : decode cX0_digit 20 = .ok (.iconst 1, 1) := by decide +kernel
theorem dX0_digit_21 : decode cX0_digit 21 = .ok (.isub, 1) := by decide +kernel
theorem dX0_digit_22 : decode cX0_digit 22 = .ok (.iaload, 1) := by decide +kernel
theorem dX0_digit_23 : decode cX0_digit 23 = .ok (.bipush 30, 2) := by decide +kernel
theorem dX0_digit_25 : decode cX0_digit 25 = .ok (.iload_n 2, 1) := by decide +kernel
theorem dX0_digit_26 : decode cX0_digit 26 = .ok (.isub, 1) := by decide +kernel
theorem dX0_digit_27 : decode cX0_digit 27 = .ok (.iushr, 1) := by decide +kernel
theorem dX0_digit_28 : decode cX0_digit 28 = .ok (.goto 4, 3) := by decide +kernel
theorem dX0_digit_31 : decode cX0_digit 31 = .ok (.iconst 0, 1) := by decide +kernel
theorem dX0_digit_32 : decode cX0_digit 32 = .ok (.ior, 1) := by decide +kernel
theorem dX0_digit_33 : decode cX0_digit 33 = .ok (.ireturn, 1) := by decide +kernel
theorem dX0_takes_0 : decode cX0_takes 0 = .ok (.lconst 0, 1) := by decide +kernel
theorem dX0_takes_1 : decode cX0_takes 1 = .ok (.lstore 6, 2) := by decide +kernel
theorem dX0_takes_3 : decode cX0_takes 3 = .ok (.iconst 0, 1) := by decide +kernel
theorem dX0_takes_4 : decode cX0_takes 4 = .ok (.istore 8, 2) := by decide +kernel
theorem dX0_takes_6 : decode cX0_takes 6 = .ok (.iconst 0, 1) := by decide +kernel
theorem dX0_takes_7 : decode cX0_takes 7 = .ok (.istore 9, 2) := by decide +kernel
theorem dX0_takes_9 : decode cX0_takes 9 = .ok (.aload_n 1, 1) := by decide +kernel
theorem dX0_takes_10 : decode cX0_takes 10 = .ok (.getfield 13, 3) := by decide +kernel
theorem dX0_takes_13 : decode cX0_takes 13 = .ok (.istore 10, 2) := by decide +kernel
theorem dX0_takes_15 : decode cX0_takes 15 = .ok (.iconst 0, 1) := by decide +kernel
theorem dX0_takes_16 : decode cX0_takes 16 = .ok (.istore 11, 2) := by decide +kernel
theorem dX0_takes_18 : decode cX0_takes 18 = .ok (.iload 11, 2) := by decide +kernel
theorem dX0_takes_20 : decode cX0_takes 20 = .ok (.iload 10, 2) := by decide +kernel
theorem dX0_takes_22 : decode cX0_takes 22 = .ok (.if_icmp .ge 109, 3) := by decide +kernel
theorem dX0_takes_25 : decode cX0_takes 25 = .ok (.aload_n 1, 1) := by decide +kernel
theorem dX0_takes_26 : decode cX0_takes 26 = .ok (.getfield 9, 3) := by decide +kernel
theorem dX0_takes_29 : decode cX0_takes 29 = .ok (.iload 11, 2) := by decide +kernel
theorem dX0_takes_31 : decode cX0_takes 31 = .ok (.iaload, 1) := by decide +kernel
theorem dX0_takes_32 : decode cX0_takes 32 = .ok (.iload 4, 2) := by decide +kernel
theorem dX0_takes_34 : decode cX0_takes 34 = .ok (.ishl, 1) := by decide +kernel
theorem dX0_takes_35 : decode cX0_takes 35 = .ok (.ldc 59, 2) := by decide +kernel
theorem dX0_takes_37 : decode cX0_takes 37 = .ok (.iand, 1) := by decide +kernel
theorem dX0_takes_38 : decode cX0_takes 38 = .ok (.iload 8, 2) := by decide +kernel
theorem dX0_takes_40 : decode cX0_takes 40 = .ok (.ior, 1) := by decide +kernel
theorem dX0_takes_41 : decode cX0_takes 41 = .ok (.istore 12, 2) := by decide +kernel
theorem dX0_takes_43 : decode cX0_takes 43 = .ok (.aload_n 1, 1) := by decide +kernel
theorem dX0_takes_44 : decode cX0_takes 44 = .ok (.getfield 9, 3) := by decide +kernel
theorem dX0_takes_47 : decode cX0_takes 47 = .ok (.iload 11, 2) := by decide +kernel
theorem dX0_takes_49 : decode cX0_takes 49 = .ok (.iaload, 1) := by decide +kernel
theorem dX0_takes_50 : decode cX0_takes 50 = .ok (.bipush 30, 2) := by decide +kernel
theorem dX0_takes_52 : decode cX0_takes 52 = .ok (.iload 4, 2) := by decide +kernel
theorem dX0_takes_54 : decode cX0_takes 54 = .ok (.isub, 1) := by decide +kernel
theorem dX0_takes_55 : decode cX0_takes 55 = .ok (.iushr, 1) := by decide +kernel
theorem dX0_takes_56 : decode cX0_takes 56 = .ok (.istore 8, 2) := by decide +kernel
theorem dX0_takes_58 : decode cX0_takes 58 = .ok (.lload_n 2, 1) := by decide +kernel
theorem dX0_takes_59 : decode cX0_takes 59 = .ok (.iload 12, 2) := by decide +kernel
theorem dX0_takes_61 : decode cX0_takes 61 = .ok (.i2l, 1) := by decide +kernel
theorem dX0_takes_62 : decode cX0_takes 62 = .ok (.lmul, 1) := by decide +kernel
theorem dX0_takes_63 : decode cX0_takes 63 = .ok (.lload 6, 2) := by decide +kernel
theorem dX0_takes_65 : decode cX0_takes 65 = .ok (.ladd, 1) := by decide +kernel
theorem dX0_takes_66 : decode cX0_takes 66 = .ok (.lstore 13, 2) := by decide +kernel
theorem dX0_takes_68 : decode cX0_takes 68 = .ok (.lload 13, 2) := by decide +kernel
theorem dX0_takes_70 : decode cX0_takes 70 = .ok (.bipush 30, 2) := by decide +kernel
theorem dX0_takes_72 : decode cX0_takes 72 = .ok (.lushr, 1) := by decide +kernel
theorem dX0_takes_73 : decode cX0_takes 73 = .ok (.lstore 6, 2) := by decide +kernel
theorem dX0_takes_75 : decode cX0_takes 75 = .ok (.aload_n 0, 1) := by decide +kernel
theorem dX0_takes_76 : decode cX0_takes 76 = .ok (.getfield 9, 3) := by decide +kernel
theorem dX0_takes_79 : decode cX0_takes 79 = .ok (.iload 11, 2) := by decide +kernel
theorem dX0_takes_81 : decode cX0_takes 81 = .ok (.iload 5, 2) := by decide +kernel
theorem dX0_takes_83 : decode cX0_takes 83 = .ok (.iadd, 1) := by decide +kernel
theorem dX0_takes_84 : decode cX0_takes 84 = .ok (.iaload, 1) := by decide +kernel
theorem dX0_takes_85 : decode cX0_takes 85 = .ok (.lload 13, 2) := by decide +kernel
theorem dX0_takes_87 : decode cX0_takes 87 = .ok (.ldc2_w 20, 3) := by decide +kernel
theorem dX0_takes_90 : decode cX0_takes 90 = .ok (.land, 1) := by decide +kernel
theorem dX0_takes_91 : decode cX0_takes 91 = .ok (.l2i, 1) := by decide +kernel
theorem dX0_takes_92 : decode cX0_takes 92 = .ok (.isub, 1) := by decide +kernel
theorem dX0_takes_93 : decode cX0_takes 93 = .ok (.iload 9, 2) := by decide +kernel
theorem dX0_takes_95 : decode cX0_takes 95 = .ok (.isub, 1) := by decide +kernel
theorem dX0_takes_96 : decode cX0_takes 96 = .ok (.istore 15, 2) := by decide +kernel
theorem dX0_takes_98 : decode cX0_takes 98 = .ok (.iload 15, 2) := by decide +kernel
theorem dX0_takes_100 : decode cX0_takes 100 = .ok (.ifCond .ge 7, 3) := by decide +kernel
theorem dX0_takes_103 : decode cX0_takes 103 = .ok (.iconst 1, 1) := by decide +kernel
theorem dX0_takes_104 : decode cX0_takes 104 = .ok (.goto 4, 3) := by decide +kernel
theorem dX0_takes_107 : decode cX0_takes 107 = .ok (.iconst 0, 1) := by decide +kernel
theorem dX0_takes_108 : decode cX0_takes 108 = .ok (.istore 9, 2) := by decide +kernel
theorem dX0_takes_110 : decode cX0_takes 110 = .ok (.aload_n 0, 1) := by decide +kernel
theorem dX0_takes_111 : decode cX0_takes 111 = .ok (.getfield 9, 3) := by decide +kernel
theorem dX0_takes_114 : decode cX0_takes 114 = .ok (.iload 11, 2) := by decide +kernel
theorem dX0_takes_116 : decode cX0_takes 116 = .ok (.iload 5, 2) := by decide +kernel
theorem dX0_takes_118 : decode cX0_takes 118 = .ok (.iadd, 1) := by decide +kernel
theorem dX0_takes_119 : decode cX0_takes 119 = .ok (.iload 15, 2) := by decide +kernel
theorem dX0_takes_121 : decode cX0_takes 121 = .ok (.ldc 59, 2) := by decide +kernel
theorem dX0_takes_123 : decode cX0_takes 123 = .ok (.iand, 1) := by decide +kernel
theorem dX0_takes_124 : decode cX0_takes 124 = .ok (.iastore, 1) := by decide +kernel
theorem dX0_takes_125 : decode cX0_takes 125 = .ok (.iinc 11 1, 3) := by decide +kernel
theorem dX0_takes_128 : decode cX0_takes 128 = .ok (.goto (-110), 3) := by decide +kernel
theorem dX0_takes_131 : decode cX0_takes 131 = .ok (.aload_n 0, 1) := by decide +kernel
theorem dX0_takes_132 : decode cX0_takes 132 = .ok (.getfield 9, 3) := by decide +kernel
theorem dX0_takes_135 : decode cX0_takes 135 = .ok (.iload 10, 2) := by decide +kernel
theorem dX0_takes_137 : decode cX0_takes 137 = .ok (.iload 5, 2) := by decide +kernel
theorem dX0_takes_139 : decode cX0_takes 139 = .ok (.iadd, 1) := by decide +kernel
theorem dX0_takes_140 : decode cX0_takes 140 = .ok (.iaload, 1) := by decide +kernel
theorem dX0_takes_141 : decode cX0_takes 141 = .ok (.lload 6, 2) := by decide +kernel
theorem dX0_takes_143 : decode cX0_takes 143 = .ok (.l2i, 1) := by decide +kernel
theorem dX0_takes_144 : decode cX0_takes 144 = .ok (.isub, 1) := by decide +kernel
theorem dX0_takes_145 : decode cX0_takes 145 = .ok (.iload 9, 2) := by decide +kernel
theorem dX0_takes_147 : decode cX0_takes 147 = .ok (.isub, 1) := by decide +kernel
theorem dX0_takes_148 : decode cX0_takes 148 = .ok (.istore 11, 2) := by decide +kernel
theorem dX0_takes_150 : decode cX0_takes 150 = .ok (.aload_n 0, 1) := by decide +kernel
theorem dX0_takes_151 : decode cX0_takes 151 = .ok (.getfield 9, 3) := by decide +kernel
theorem dX0_takes_154 : decode cX0_takes 154 = .ok (.iload 10, 2) := by decide +kernel
theorem dX0_takes_156 : decode cX0_takes 156 = .ok (.iload 5, 2) := by decide +kernel
theorem dX0_takes_158 : decode cX0_takes 158 = .ok (.iadd, 1) := by decide +kernel
theorem dX0_takes_159 : decode cX0_takes 159 = .ok (.iload 11, 2) := by decide +kernel
theorem dX0_takes_161 : decode cX0_takes 161 = .ok (.ldc 59, 2) := by decide +kernel
theorem dX0_takes_163 : decode cX0_takes 163 = .ok (.iand, 1) := by decide +kernel
theorem dX0_takes_164 : decode cX0_takes 164 = .ok (.iastore, 1) := by decide +kernel
theorem dX0_takes_165 : decode cX0_takes 165 = .ok (.iload 11, 2) := by decide +kernel
theorem dX0_takes_167 : decode cX0_takes 167 = .ok (.ifCond .ge 7, 3) := by decide +kernel
theorem dX0_takes_170 : decode cX0_takes 170 = .ok (.iconst 1, 1) := by decide +kernel
theorem dX0_takes_171 : decode cX0_takes 171 = .ok (.goto 4, 3) := by decide +kernel
theorem dX0_takes_174 : decode cX0_takes 174 = .ok (.iconst 0, 1) := by decide +kernel
theorem dX0_takes_175 : decode cX0_takes 175 = .ok (.ireturn, 1) := by decide +kernel
theorem dX0_restore_0 : decode cX0_restore 0 = .ok (.iconst 0, 1) := by decide +kernel
theorem dX0_restore_1 : decode cX0_restore 1 = .ok (.istore 4, 2) := by decide +kernel
theorem dX0_restore_3 : decode cX0_restore 3 = .ok (.iconst 0, 1) := by decide +kernel
theorem dX0_restore_4 : decode cX0_restore 4 = .ok (.istore 5, 2) := by decide +kernel
theorem dX0_restore_6 : decode cX0_restore 6 = .ok (.aload_n 1, 1) := by decide +kernel
theorem dX0_restore_7 : decode cX0_restore 7 = .ok (.getfield 13, 3) := by decide +kernel
theorem dX0_restore_10 : decode cX0_restore 10 = .ok (.istore 6, 2) := by decide +kernel
theorem dX0_restore_12 : decode cX0_restore 12 = .ok (.iconst 0, 1) := by decide +kernel
theorem dX0_restore_13 : decode cX0_restore 13 = .ok (.istore 7, 2) := by decide +kernel
theorem dX0_restore_15 : decode cX0_restore 15 = .ok (.iload 7, 2) := by decide +kernel
theorem dX0_restore_17 : decode cX0_restore 17 = .ok (.iload 6, 2) := by decide +kernel
theorem dX0_restore_19 : decode cX0_restore 19 = .ok (.if_icmp .ge 74, 3) := by decide +kernel
theorem dX0_restore_22 : decode cX0_restore 22 = .ok (.aload_n 0, 1) := by decide +kernel
theorem dX0_restore_23 : decode cX0_restore 23 = .ok (.getfield 9, 3) := by decide +kernel
theorem dX0_restore_26 : decode cX0_restore 26 = .ok (.iload 7, 2) := by decide +kernel
theorem dX0_restore_28 : decode cX0_restore 28 = .ok (.iload_n 3, 1) := by decide +kernel
theorem dX0_restore_29 : decode cX0_restore 29 = .ok (.iadd, 1) := by decide +kernel
theorem dX0_restore_30 : decode cX0_restore 30 = .ok (.iaload, 1) := by decide +kernel
theorem dX0_restore_31 : decode cX0_restore 31 = .ok (.aload_n 1, 1) := by decide +kernel
theorem dX0_restore_32 : decode cX0_restore 32 = .ok (.getfield 9, 3) := by decide +kernel
theorem dX0_restore_35 : decode cX0_restore 35 = .ok (.iload 7, 2) := by decide +kernel
theorem dX0_restore_37 : decode cX0_restore 37 = .ok (.iaload, 1) := by decide +kernel
theorem dX0_restore_38 : decode cX0_restore 38 = .ok (.iload_n 2, 1) := by decide +kernel
theorem dX0_restore_39 : decode cX0_restore 39 = .ok (.ishl, 1) := by decide +kernel
theorem dX0_restore_40 : decode cX0_restore 40 = .ok (.ldc 59, 2) := by decide +kernel
theorem dX0_restore_42 : decode cX0_restore 42 = .ok (.iand, 1) := by decide +kernel
theorem dX0_restore_43 : decode cX0_restore 43 = .ok (.iload 5, 2) := by decide +kernel
theorem dX0_restore_45 : decode cX0_restore 45 = .ok (.ior, 1) := by decide +kernel
theorem dX0_restore_46 : decode cX0_restore 46 = .ok (.iadd, 1) := by decide +kernel
theorem dX0_restore_47 : decode cX0_restore 47 = .ok (.iload 4, 2) := by decide +kernel
theorem dX0_restore_49 : decode cX0_restore 49 = .ok (.iadd, 1) := by decide +kernel
theorem dX0_restore_50 : decode cX0_restore 50 = .ok (.istore 8, 2) := by decide +kernel
theorem dX0_restore_52 : decode cX0_restore 52 = .ok (.aload_n 1, 1) := by decide +kernel
theorem dX0_restore_53 : decode cX0_restore 53 = .ok (.getfield 9, 3) := by decide +kernel
theorem dX0_restore_56 : decode cX0_restore 56 = .ok (.iload 7, 2) := by decide +kernel
theorem dX0_restore_58 : decode cX0_restore 58 = .ok (.iaload, 1) := by decide +kernel
theorem dX0_restore_59 : decode cX0_restore 59 = .ok (.bipush 30, 2) := by decide +kernel
theorem dX0_restore_61 : decode cX0_restore 61 = .ok (.iload_n 2, 1) := by decide +kernel
theorem dX0_restore_62 : decode cX0_restore 62 = .ok (.isub, 1) := by decide +kernel
theorem dX0_restore_63 : decode cX0_restore 63 = .ok (.iushr, 1) := by decide +kernel
theorem dX0_restore_64 : decode cX0_restore 64 = .ok (.istore 5, 2) := by decide +kernel
theorem dX0_restore_66 : decode cX0_restore 66 = .ok (.aload_n 0, 1) := by decide +kernel
theorem dX0_restore_67 : decode cX0_restore 67 = .ok (.getfield 9, 3) := by decide +kernel
theorem dX0_restore_70 : decode cX0_restore 70 = .ok (.iload 7, 2) := by decide +kernel
theorem dX0_restore_72 : decode cX0_restore 72 = .ok (.iload_n 3, 1) := by decide +kernel
theorem dX0_restore_73 : decode cX0_restore 73 = .ok (.iadd, 1) := by decide +kernel
theorem dX0_restore_74 : decode cX0_restore 74 = .ok (.iload 8, 2) := by decide +kernel
theorem dX0_restore_76 : decode cX0_restore 76 = .ok (.ldc 59, 2) := by decide +kernel
theorem dX0_restore_78 : decode cX0_restore 78 = .ok (.iand, 1) := by decide +kernel
theorem dX0_restore_79 : decode cX0_restore 79 = .ok (.iastore, 1) := by decide +kernel
theorem dX0_restore_80 : decode cX0_restore 80 = .ok (.iload 8, 2) := by decide +kernel
theorem dX0_restore_82 : decode cX0_restore 82 = .ok (.bipush 30, 2) := by decide +kernel
theorem dX0_restore_84 : decode cX0_restore 84 = .ok (.iushr, 1) := by decide +kernel
theorem dX0_restore_85 : decode cX0_restore 85 = .ok (.istore 4, 2) := by decide +kernel
theorem dX0_restore_87 : decode cX0_restore 87 = .ok (.iinc 7 1, 3) := by decide +kernel
theorem dX0_restore_90 : decode cX0_restore 90 = .ok (.goto (-75), 3) := by decide +kernel
theorem dX0_restore_93 : decode cX0_restore 93 = .ok (.aload_n 0, 1) := by decide +kernel
theorem dX0_restore_94 : decode cX0_restore 94 = .ok (.getfield 9, 3) := by decide +kernel
theorem dX0_restore_97 : decode cX0_restore 97 = .ok (.iload 6, 2) := by decide +kernel
theorem dX0_restore_99 : decode cX0_restore 99 = .ok (.iload_n 3, 1) := by decide +kernel
theorem dX0_restore_100 : decode cX0_restore 100 = .ok (.iadd, 1) := by decide +kernel
theorem dX0_restore_101 : decode cX0_restore 101 = .ok (.aload_n 0, 1) := by decide +kernel
theorem dX0_restore_102 : decode cX0_restore 102 = .ok (.getfield 9, 3) := by decide +kernel
theorem dX0_restore_105 : decode cX0_restore 105 = .ok (.iload 6, 2) := by decide +kernel
theorem dX0_restore_107 : decode cX0_restore 107 = .ok (.iload_n 3, 1) := by decide +kernel
theorem dX0_restore_108 : decode cX0_restore 108 = .ok (.iadd, 1) := by decide +kernel
theorem dX0_restore_109 : decode cX0_restore 109 = .ok (.iaload, 1) := by decide +kernel
theorem dX0_restore_110 : decode cX0_restore 110 = .ok (.iload 4, 2) := by decide +kernel
theorem dX0_restore_112 : decode cX0_restore 112 = .ok (.iadd, 1) := by decide +kernel
theorem dX0_restore_113 : decode cX0_restore 113 = .ok (.ldc 59, 2) := by decide +kernel
theorem dX0_restore_115 : decode cX0_restore 115 = .ok (.iand, 1) := by decide +kernel
theorem dX0_restore_116 : decode cX0_restore 116 = .ok (.iastore, 1) := by decide +kernel
theorem dX0_restore_117 : decode cX0_restore 117 = .ok (.return_, 1) := by decide +kernel
theorem dX1_init_0 : decode cX1_init 0 = .ok (.aload_n 0, 1) := by decide +kernel
theorem dX1_init_1 : decode cX1_init 1 = .ok (.invokespecial 3, 3) := by decide +kernel
theorem dX1_init_4 : decode cX1_init 4 = .ok (.aload_n 0, 1) := by decide +kernel
theorem dX1_init_5 : decode cX1_init 5 = .ok (.bipush 12, 2) := by decide +kernel
theorem dX1_init_7 : decode cX1_init 7 = .ok (.anewarray 9, 3) := by decide +kernel
theorem dX1_init_10 : decode cX1_init 10 = .ok (.putfield 11, 3) := by decide +kernel
theorem dX1_init_13 : decode cX1_init 13 = .ok (.aload_n 0, 1) := by decide +kernel
theorem dX1_init_14 : decode cX1_init 14 = .ok (.new 9, 3) := by decide +kernel
theorem dX1_init_17 : decode cX1_init 17 = .ok (.dup, 1) := by decide +kernel
theorem dX1_init_18 : decode cX1_init 18 = .ok (.invokespecial 17, 3) := by decide +kernel
theorem dX1_init_21 : decode cX1_init 21 = .ok (.putfield 18, 3) := by decide +kernel
theorem dX1_init_24 : decode cX1_init 24 = .ok (.aload_n 0, 1) := by decide +kernel
theorem dX1_init_25 : decode cX1_init 25 = .ok (.new 9, 3) := by decide +kernel
theorem dX1_init_28 : decode cX1_init 28 = .ok (.dup, 1) := by decide +kernel
theorem dX1_init_29 : decode cX1_init 29 = .ok (.invokespecial 17, 3) := by decide +kernel
theorem dX1_init_32 : decode cX1_init 32 = .ok (.putfield 22, 3) := by decide +kernel
theorem dX1_init_35 : decode cX1_init 35 = .ok (.aload_n 0, 1) := by decide +kernel
theorem dX1_init_36 : decode cX1_init 36 = .ok (.new 9, 3) := by decide +kernel
theorem dX1_init_39 : decode cX1_init 39 = .ok (.dup, 1) := by decide +kernel
theorem dX1_init_40 : decode cX1_init 40 = .ok (.invokespecial 17, 3) := by decide +kernel
theorem dX1_init_43 : decode cX1_init 43 = .ok (.putfield 25, 3) := by decide +kernel
theorem dX1_init_46 : decode cX1_init 46 = .ok (.aload_n 0, 1) := by decide +kernel
theorem dX1_init_47 : decode cX1_init 47 = .ok (.new 9, 3) := by decide +kernel
theorem dX1_init_50 : decode cX1_init 50 = .ok (.dup, 1) := by decide +kernel
theorem dX1_init_51 : decode cX1_init 51 = .ok (.invokespecial 17, 3) := by decide +kernel
theorem dX1_init_54 : decode cX1_init 54 = .ok (.putfield 28, 3) := by decide +kernel
theorem dX1_init_57 : decode cX1_init 57 = .ok (.aload_n 0, 1) := by decide +kernel
theorem dX1_init_58 : decode cX1_init 58 = .ok (.new 9, 3) := by decide +kernel
theorem dX1_init_61 : decode cX1_init 61 = .ok (.dup, 1) := by decide +kernel
theorem dX1_init_62 : decode cX1_init 62 = .ok (.invokespecial 17, 3) := by decide +kernel
theorem dX1_init_65 : decode cX1_init 65 = .ok (.putfield 31, 3) := by decide +kernel
theorem dX1_init_68 : decode cX1_init 68 = .ok (.aload_n 0, 1) := by decide +kernel
theorem dX1_init_69 : decode cX1_init 69 = .ok (.bipush 13, 2) := by decide +kernel
theorem dX1_init_71 : decode cX1_init 71 = .ok (.bipush 13, 2) := by decide +kernel
theorem dX1_init_73 : decode cX1_init 73 = .ok (.multianewarray 36 2, 4) := by decide +kernel
theorem dX1_init_77 : decode cX1_init 77 = .ok (.putfield 38, 3) := by decide +kernel
theorem dX1_init_80 : decode cX1_init 80 = .ok (.aload_n 0, 1) := by decide +kernel
theorem dX1_init_81 : decode cX1_init 81 = .ok (.bipush 13, 2) := by decide +kernel
theorem dX1_init_83 : decode cX1_init 83 = .ok (.newarray .int, 2) := by decide +kernel
theorem dX1_init_85 : decode cX1_init 85 = .ok (.putfield 41, 3) := by decide +kernel
theorem dX1_init_88 : decode cX1_init 88 = .ok (.iconst 0, 1) := by decide +kernel
theorem dX1_init_89 : decode cX1_init 89 = .ok (.istore_n 1, 1) := by decide +kernel
theorem dX1_init_90 : decode cX1_init 90 = .ok (.iload_n 1, 1) := by decide +kernel
theorem dX1_init_91 : decode cX1_init 91 = .ok (.bipush 12, 2) := by decide +kernel
theorem dX1_init_93 : decode cX1_init 93 = .ok (.if_icmp .ge 22, 3) := by decide +kernel
theorem dX1_init_96 : decode cX1_init 96 = .ok (.aload_n 0, 1) := by decide +kernel
theorem dX1_init_97 : decode cX1_init 97 = .ok (.getfield 11, 3) := by decide +kernel
theorem dX1_init_100 : decode cX1_init 100 = .ok (.iload_n 1, 1) := by decide +kernel
theorem dX1_init_101 : decode cX1_init 101 = .ok (.new 9, 3) := by decide +kernel
theorem dX1_init_104 : decode cX1_init 104 = .ok (.dup, 1) := by decide +kernel
theorem dX1_init_105 : decode cX1_init 105 = .ok (.invokespecial 17, 3) := by decide +kernel
theorem dX1_init_108 : decode cX1_init 108 = .ok (.aastore, 1) := by decide +kernel
theorem dX1_init_109 : decode cX1_init 109 = .ok (.iinc 1 1, 3) := by decide +kernel
theorem dX1_init_112 : decode cX1_init 112 = .ok (.goto (-22), 3) := by decide +kernel
theorem dX1_init_115 : decode cX1_init 115 = .ok (.return_, 1) := by decide +kernel
theorem dX2_init_0 : decode cX2_init 0 = .ok (.aload_n 0, 1) := by decide +kernel
theorem dX2_init_1 : decode cX2_init 1 = .ok (.invokespecial 3, 3) := by decide +kernel
theorem dX2_init_4 : decode cX2_init 4 = .ok (.aload_n 0, 1) := by decide +kernel
theorem dX2_init_5 : decode cX2_init 5 = .ok (.new 9, 3) := by decide +kernel
theorem dX2_init_8 : decode cX2_init 8 = .ok (.dup, 1) := by decide +kernel
theorem dX2_init_9 : decode cX2_init 9 = .ok (.invokespecial 11, 3) := by decide +kernel
theorem dX2_init_12 : decode cX2_init 12 = .ok (.putfield 12, 3) := by decide +kernel
theorem dX2_init_15 : decode cX2_init 15 = .ok (.aload_n 0, 1) := by decide +kernel
theorem dX2_init_16 : decode cX2_init 16 = .ok (.new 9, 3) := by decide +kernel
theorem dX2_init_19 : decode cX2_init 19 = .ok (.dup, 1) := by decide +kernel
theorem dX2_init_20 : decode cX2_init 20 = .ok (.invokespecial 11, 3) := by decide +kernel
theorem dX2_init_23 : decode cX2_init 23 = .ok (.putfield 18, 3) := by decide +kernel
theorem dX2_init_26 : decode cX2_init 26 = .ok (.aload_n 0, 1) := by decide +kernel
theorem dX2_init_27 : decode cX2_init 27 = .ok (.new 9, 3) := by decide +kernel
theorem dX2_init_30 : decode cX2_init 30 = .ok (.dup, 1) := by decide +kernel
theorem dX2_init_31 : decode cX2_init 31 = .ok (.invokespecial 11, 3) := by decide +kernel
theorem dX2_init_34 : decode cX2_init 34 = .ok (.putfield 21, 3) := by decide +kernel
theorem dX2_init_37 : decode cX2_init 37 = .ok (.aload_n 0, 1) := by decide +kernel
theorem dX2_init_38 : decode cX2_init 38 = .ok (.new 9, 3) := by decide +kernel
theorem dX2_init_41 : decode cX2_init 41 = .ok (.dup, 1) := by decide +kernel
theorem dX2_init_42 : decode cX2_init 42 = .ok (.invokespecial 11, 3) := by decide +kernel
theorem dX2_init_45 : decode cX2_init 45 = .ok (.putfield 24, 3) := by decide +kernel
theorem dX2_init_48 : decode cX2_init 48 = .ok (.aload_n 0, 1) := by decide +kernel
theorem dX2_init_49 : decode cX2_init 49 = .ok (.new 9, 3) := by decide +kernel
theorem dX2_init_52 : decode cX2_init 52 = .ok (.dup, 1) := by decide +kernel
theorem dX2_init_53 : decode cX2_init 53 = .ok (.invokespecial 11, 3) := by decide +kernel
theorem dX2_init_56 : decode cX2_init 56 = .ok (.putfield 27, 3) := by decide +kernel
theorem dX2_init_59 : decode cX2_init 59 = .ok (.aload_n 0, 1) := by decide +kernel
theorem dX2_init_60 : decode cX2_init 60 = .ok (.new 30, 3) := by decide +kernel
theorem dX2_init_63 : decode cX2_init 63 = .ok (.dup, 1) := by decide +kernel
theorem dX2_init_64 : decode cX2_init 64 = .ok (.invokespecial 32, 3) := by decide +kernel
theorem dX2_init_67 : decode cX2_init 67 = .ok (.putfield 33, 3) := by decide +kernel
theorem dX2_init_70 : decode cX2_init 70 = .ok (.aload_n 0, 1) := by decide +kernel
theorem dX2_init_71 : decode cX2_init 71 = .ok (.new 30, 3) := by decide +kernel
theorem dX2_init_74 : decode cX2_init 74 = .ok (.dup, 1) := by decide +kernel
theorem dX2_init_75 : decode cX2_init 75 = .ok (.invokespecial 32, 3) := by decide +kernel
theorem dX2_init_78 : decode cX2_init 78 = .ok (.putfield 37, 3) := by decide +kernel
theorem dX2_init_81 : decode cX2_init 81 = .ok (.aload_n 0, 1) := by decide +kernel
theorem dX2_init_82 : decode cX2_init 82 = .ok (.new 30, 3) := by decide +kernel
theorem dX2_init_85 : decode cX2_init 85 = .ok (.dup, 1) := by decide +kernel
theorem dX2_init_86 : decode cX2_init 86 = .ok (.invokespecial 32, 3) := by decide +kernel
theorem dX2_init_89 : decode cX2_init 89 = .ok (.putfield 40, 3) := by decide +kernel
theorem dX2_init_92 : decode cX2_init 92 = .ok (.aload_n 0, 1) := by decide +kernel
theorem dX2_init_93 : decode cX2_init 93 = .ok (.new 30, 3) := by decide +kernel
theorem dX2_init_96 : decode cX2_init 96 = .ok (.dup, 1) := by decide +kernel
theorem dX2_init_97 : decode cX2_init 97 = .ok (.invokespecial 32, 3) := by decide +kernel
theorem dX2_init_100 : decode cX2_init 100 = .ok (.putfield 43, 3) := by decide +kernel
theorem dX2_init_103 : decode cX2_init 103 = .ok (.aload_n 0, 1) := by decide +kernel
theorem dX2_init_104 : decode cX2_init 104 = .ok (.new 30, 3) := by decide +kernel
theorem dX2_init_107 : decode cX2_init 107 = .ok (.dup, 1) := by decide +kernel
theorem dX2_init_108 : decode cX2_init 108 = .ok (.invokespecial 32, 3) := by decide +kernel
theorem dX2_init_111 : decode cX2_init 111 = .ok (.putfield 46, 3) := by decide +kernel
theorem dX2_init_114 : decode cX2_init 114 = .ok (.aload_n 0, 1) := by decide +kernel
theorem dX2_init_115 : decode cX2_init 115 = .ok (.bipush 14, 2) := by decide +kernel
theorem dX2_init_117 : decode cX2_init 117 = .ok (.newarray .long, 2) := by decide +kernel
theorem dX2_init_119 : decode cX2_init 119 = .ok (.putfield 49, 3) := by decide +kernel
theorem dX2_init_122 : decode cX2_init 122 = .ok (.aload_n 0, 1) := by decide +kernel
theorem dX2_init_123 : decode cX2_init 123 = .ok (.bipush 14, 2) := by decide +kernel
theorem dX2_init_125 : decode cX2_init 125 = .ok (.newarray .long, 2) := by decide +kernel
theorem dX2_init_127 : decode cX2_init 127 = .ok (.putfield 53, 3) := by decide +kernel
theorem dX2_init_130 : decode cX2_init 130 = .ok (.aload_n 0, 1) := by decide +kernel
theorem dX2_init_131 : decode cX2_init 131 = .ok (.bipush 14, 2) := by decide +kernel
theorem dX2_init_133 : decode cX2_init 133 = .ok (.newarray .long, 2) := by decide +kernel
theorem dX2_init_135 : decode cX2_init 135 = .ok (.putfield 56, 3) := by decide +kernel
theorem dX2_init_138 : decode cX2_init 138 = .ok (.aload_n 0, 1) := by decide +kernel
theorem dX2_init_139 : decode cX2_init 139 = .ok (.new 59, 3) := by decide +kernel
theorem dX2_init_142 : decode cX2_init 142 = .ok (.dup, 1) := by decide +kernel
theorem dX2_init_143 : decode cX2_init 143 = .ok (.invokespecial 61, 3) := by decide +kernel
theorem dX2_init_146 : decode cX2_init 146 = .ok (.putfield 62, 3) := by decide +kernel
theorem dX2_init_149 : decode cX2_init 149 = .ok (.aload_n 0, 1) := by decide +kernel
theorem dX2_init_150 : decode cX2_init 150 = .ok (.new 59, 3) := by decide +kernel
theorem dX2_init_153 : decode cX2_init 153 = .ok (.dup, 1) := by decide +kernel
theorem dX2_init_154 : decode cX2_init 154 = .ok (.invokespecial 61, 3) := by decide +kernel
theorem dX2_init_157 : decode cX2_init 157 = .ok (.putfield 66, 3) := by decide +kernel
theorem dX2_init_160 : decode cX2_init 160 = .ok (.aload_n 0, 1) := by decide +kernel
theorem dX2_init_161 : decode cX2_init 161 = .ok (.aload_n 1, 1) := by decide +kernel
theorem dX2_init_162 : decode cX2_init 162 = .ok (.putfield 69, 3) := by decide +kernel
theorem dX2_init_165 : decode cX2_init 165 = .ok (.return_, 1) := by decide +kernel
theorem dX2_cosines_0 : decode cX2_cosines 0 = .ok (.aload_n 0, 1) := by decide +kernel
theorem dX2_cosines_1 : decode cX2_cosines 1 = .ok (.getfield 56, 3) := by decide +kernel
theorem dX2_cosines_4 : decode cX2_cosines 4 = .ok (.astore 4, 2) := by decide +kernel
theorem dX2_cosines_6 : decode cX2_cosines 6 = .ok (.aload_n 0, 1) := by decide +kernel
theorem dX2_cosines_7 : decode cX2_cosines 7 = .ok (.getfield 49, 3) := by decide +kernel
theorem dX2_cosines_10 : decode cX2_cosines 10 = .ok (.astore 5, 2) := by decide +kernel
theorem dX2_cosines_12 : decode cX2_cosines 12 = .ok (.aload_n 0, 1) := by decide +kernel
theorem dX2_cosines_13 : decode cX2_cosines 13 = .ok (.getfield 53, 3) := by decide +kernel
theorem dX2_cosines_16 : decode cX2_cosines 16 = .ok (.astore 6, 2) := by decide +kernel
theorem dX2_cosines_18 : decode cX2_cosines 18 = .ok (.aload 4, 2) := by decide +kernel
theorem dX2_cosines_20 : decode cX2_cosines 20 = .ok (.lconst 0, 1) := by decide +kernel
theorem dX2_cosines_21 : decode cX2_cosines 21 = .ok (.invokestatic 231, 3) := by decide +kernel
theorem dX2_cosines_24 : decode cX2_cosines 24 = .ok (.aload 4, 2) := by decide +kernel
theorem dX2_cosines_26 : decode cX2_cosines 26 = .ok (.iconst 0, 1) := by decide +kernel
theorem dX2_cosines_27 : decode cX2_cosines 27 = .ok (.lconst 1, 1) := by decide +kernel
theorem dX2_cosines_28 : decode cX2_cosines 28 = .ok (.lastore, 1) := by decide +kernel
theorem dX2_cosines_29 : decode cX2_cosines 29 = .ok (.iload_n 1, 1) := by decide +kernel
theorem dX2_cosines_30 : decode cX2_cosines 30 = .ok (.iconst 3, 1) := by decide +kernel
theorem dX2_cosines_31 : decode cX2_cosines 31 = .ok (.if_icmp .ge 30, 3) := by decide +kernel
theorem dX2_cosines_34 : decode cX2_cosines 34 = .ok (.aload_n 3, 1) := by decide +kernel
theorem dX2_cosines_35 : decode cX2_cosines 35 = .ok (.iconst 1, 1) := by decide +kernel
theorem dX2_cosines_36 : decode cX2_cosines 36 = .ok (.invokevirtual 93, 3) := by decide +kernel
theorem dX2_cosines_39 : decode cX2_cosines 39 = .ok (.aload_n 3, 1) := by decide +kernel
theorem dX2_cosines_40 : decode cX2_cosines 40 = .ok (.getfield 136, 3) := by decide +kernel
theorem dX2_cosines_43 : decode cX2_cosines 43 = .ok (.iconst 0, 1) := by decide +kernel
theorem dX2_cosines_44 : decode cX2_cosines 44 = .ok (.aaload, 1) := by decide +kernel
theorem dX2_cosines_45 : decode cX2_cosines 45 = .ok (.iload_n 1, 1) := by decide +kernel
theorem dX2_cosines_46 : decode cX2_cosines 46 = .ok (.iconst 1, 1) := by decide +kernel
theorem dX2_cosines_47 : decode cX2_cosines 47 = .ok (.if_icmp .ne 9, 3) := by decide +kernel
theorem dX2_cosines_50 : decode cX2_cosines 50 = .ok (.ldc2_w 237, 3) := by decide +kernel
theorem dX2_cosines_53 : decode cX2_cosines 53 = .ok (.goto 4, 3) := by decide +kernel
theorem dX2_cosines_56 : decode cX2_cosines 56 = .ok (.lconst 1, 1) := by decide +kernel
theorem dX2_cosines_57 : decode cX2_cosines 57 = .ok (.invokevirtual 114, 3) := by decide +kernel
theorem dX2_cosines_60 : decode cX2_cosines 60 = .ok (.return_, 1) := by decide +kernel
theorem dX2_cosines_61 : decode cX2_cosines 61 = .ok (.iconst 1, 1) := by decide +kernel
theorem dX2_cosines_62 : decode cX2_cosines 62 = .ok (.istore 7, 2) := by decide +kernel
theorem dX2_cosines_64 : decode cX2_cosines 64 = .ok (.iload 7, 2) := by decide +kernel
theorem dX2_cosines_66 : decode cX2_cosines 66 = .ok (.iload_n 2, 1) := by decide +kernel
theorem dX2_cosines_67 : decode cX2_cosines 67 = .ok (.if_icmp .gt 103, 3) := by decide +kernel
theorem dX2_cosines_70 : decode cX2_cosines 70 = .ok (.iload_n 1, 1) := by decide +kernel
theorem dX2_cosines_71 : decode cX2_cosines 71 = .ok (.iload 7, 2) := by decide +kernel
theorem dX2_cosines_73 : decode cX2_cosines 73 = .ok (.irem, 1) := by decide +kernel
theorem dX2_cosines_74 : decode cX2_cosines 74 = .ok (.ifCond .ne 13, 3) := by decide +kernel
theorem dX2_cosines_77 : decode cX2_cosines 77 = .ok (.iload_n 1, 1) := by decide +kernel
theorem dX2_cosines_78 : decode cX2_cosines 78 = .ok (.iload 7, 2) := by decide +kernel
theorem dX2_cosines_80 : decode cX2_cosines 80 = .ok (.idiv, 1) := by decide +kernel
theorem dX2_cosines_81 : decode cX2_cosines 81 = .ok (.invokestatic 239, 3) := by decide +kernel
theorem dX2_cosines_84 : decode cX2_cosines 84 = .ok (.goto 4, 3) := by decide +kernel
theorem dX2_cosines_87 : decode cX2_cosines 87 = .ok (.iconst 0, 1) := by decide +kernel
theorem dX2_cosines_88 : decode cX2_cosines 88 = .ok (.istore 8, 2) := by decide +kernel
theorem dX2_cosines_90 : decode cX2_cosines 90 = .ok (.iload_n 2, 1) := by decide +kernel
theorem dX2_cosines_91 : decode cX2_cosines 91 = .ok (.istore 9, 2) := by decide +kernel
theorem dX2_cosines_93 : decode cX2_cosines 93 = .ok (.iload 9, 2) := by decide +kernel
theorem dX2_cosines_95 : decode cX2_cosines 95 = .ok (.iload 7, 2) := by decide +kernel
theorem dX2_cosines_97 : decode cX2_cosines 97 = .ok (.if_icmp .lt 30, 3) := by decide +kernel
theorem dX2_cosines_100 : decode cX2_cosines 100 = .ok (.iload 8, 2) := by decide +kernel
theorem dX2_cosines_102 : decode cX2_cosines 102 = .ok (.ifCond .le 25, 3) := by decide +kernel
theorem dX2_cosines_105 : decode cX2_cosines 105 = .ok (.aload 4, 2) := by decide +kernel
theorem dX2_cosines_107 : decode cX2_cosines 107 = .ok (.iload 9, 2) := by decide +kernel
theorem dX2_cosines_109 : decode cX2_cosines 109 = .ok (.dup2, 1) := by decide +kernel
theorem dX2_cosines_110 : decode cX2_cosines 110 = .ok (.laload, 1) := by decide +kernel
theorem dX2_cosines_111 : decode cX2_cosines 111 = .ok (.aload 4, 2) := by decide +kernel
theorem dX2_cosines_113 : decode cX2_cosines 113 = .ok (.iload 9, 2) := by decide +kernel
theorem dX2_cosines_115 : decode cX2_cosines 115 = .ok (.iload 7, 2) := by decide +kernel
theorem dX2_cosines_117 : decode cX2_cosines 117 = .ok (.isub, 1) := by decide +kernel
theorem dX2_cosines_118 : decode cX2_cosines 118 = .ok (.laload, 1) := by decide +kernel
theorem dX2_cosines_119 : decode cX2_cosines 119 = .ok (.lsub, 1) := by decide +kernel
theorem dX2_cosines_120 : decode cX2_cosines 120 = .ok (.lastore, 1) := by decide +kernel
theorem dX2_cosines_121 : decode cX2_cosines 121 = .ok (.iinc 9 (-1), 3) := by decide +kernel
theorem dX2_cosines_124 : decode cX2_cosines 124 = .ok (.goto (-31), 3) := by decide +kernel
theorem dX2_cosines_127 : decode cX2_cosines 127 = .ok (.iload 7, 2) := by decide +kernel
theorem dX2_cosines_129 : decode cX2_cosines 129 = .ok (.istore 9, 2) := by decide +kernel
theorem dX2_cosines_131 : decode cX2_cosines 131 = .ok (.iload 9, 2) := by decide +kernel
theorem dX2_cosines_133 : decode cX2_cosines 133 = .ok (.iload_n 2, 1) := by decide +kernel
theorem dX2_cosines_134 : decode cX2_cosines 134 = .ok (.if_icmp .gt 30, 3) := by decide +kernel
theorem dX2_cosines_137 : decode cX2_cosines 137 = .ok (.iload 8, 2) := by decide +kernel
theorem dX2_cosines_139 : decode cX2_cosines 139 = .ok (.ifCond .ge 25, 3) := by decide +kernel
theorem dX2_cosines_142 : decode cX2_cosines 142 = .ok (.aload 4, 2) := by decide +kernel
theorem dX2_cosines_144 : decode cX2_cosines 144 = .ok (.iload 9, 2) := by decide +kernel
theorem dX2_cosines_146 : decode cX2_cosines 146 = .ok (.dup2, 1) := by decide +kernel
theorem dX2_cosines_147 : decode cX2_cosines 147 = .ok (.laload, 1) := by decide +kernel
theorem dX2_cosines_148 : decode cX2_cosines 148 = .ok (.aload 4, 2) := by decide +kernel
theorem dX2_cosines_150 : decode cX2_cosines 150 = .ok (.iload 9, 2) := by decide +kernel
theorem dX2_cosines_152 : decode cX2_cosines 152 = .ok (.iload 7, 2) := by decide +kernel
theorem dX2_cosines_154 : decode cX2_cosines 154 = .ok (.isub, 1) := by decide +kernel
theorem dX2_cosines_155 : decode cX2_cosines 155 = .ok (.laload, 1) := by decide +kernel
theorem dX2_cosines_156 : decode cX2_cosines 156 = .ok (.ladd, 1) := by decide +kernel
theorem dX2_cosines_157 : decode cX2_cosines 157 = .ok (.lastore, 1) := by decide +kernel
theorem dX2_cosines_158 : decode cX2_cosines 158 = .ok (.iinc 9 1, 3) := by decide +kernel
theorem dX2_cosines_161 : decode cX2_cosines 161 = .ok (.goto (-30), 3) := by decide +kernel
theorem dX2_cosines_164 : decode cX2_cosines 164 = .ok (.iinc 7 1, 3) := by decide +kernel
theorem dX2_cosines_167 : decode cX2_cosines 167 = .ok (.goto (-103), 3) := by decide +kernel
theorem dX2_cosines_170 : decode cX2_cosines 170 = .ok (.aload 5, 2) := by decide +kernel
theorem dX2_cosines_172 : decode cX2_cosines 172 = .ok (.lconst 0, 1) := by decide +kernel
theorem dX2_cosines_173 : decode cX2_cosines 173 = .ok (.invokestatic 231, 3) := by decide +kernel
theorem dX2_cosines_176 : decode cX2_cosines 176 = .ok (.aload 6, 2) := by decide +kernel
theorem dX2_cosines_178 : decode cX2_cosines 178 = .ok (.lconst 0, 1) := by decide +kernel
theorem dX2_cosines_179 : decode cX2_cosines 179 = .ok (.invokestatic 231, 3) := by decide +kernel
theorem dX2_cosines_182 : decode cX2_cosines 182 = .ok (.aload 6, 2) := by decide +kernel
theorem dX2_cosines_184 : decode cX2_cosines 184 = .ok (.iconst 0, 1) := by decide +kernel
theorem dX2_cosines_185 : decode cX2_cosines 185 = .ok (.ldc2_w 242, 3) := by decide +kernel
theorem dX2_cosines_188 : decode cX2_cosines 188 = .ok (.lastore, 1) := by decide +kernel
theorem dX2_cosines_189 : decode cX2_cosines 189 = .ok (.aload 5, 2) := by decide +kernel
theorem dX2_cosines_191 : decode cX2_cosines 191 = .ok (.iconst 1, 1) := by decide +kernel
theorem dX2_cosines_192 : decode cX2_cosines 192 = .ok (.lconst 1, 1) := by decide +kernel
theorem dX2_cosines_193 : decode cX2_cosines 193 = .ok (.lastore, 1) := by decide +kernel
theorem dX2_cosines_194 : decode cX2_cosines 194 = .ok (.bipush 14, 2) := by decide +kernel
theorem dX2_cosines_196 : decode cX2_cosines 196 = .ok (.newarray .long, 2) := by decide +kernel
theorem dX2_cosines_198 : decode cX2_cosines 198 = .ok (.astore 7, 2) := by decide +kernel
theorem dX2_cosines_200 : decode cX2_cosines 200 = .ok (.aload 7, 2) := by decide +kernel
theorem dX2_cosines_202 : decode cX2_cosines 202 = .ok (.iconst 0, 1) := by decide +kernel
theorem dX2_cosines_203 : decode cX2_cosines 203 = .ok (.aload 4, 2) := by decide +kernel
theorem dX2_cosines_205 : decode cX2_cosines 205 = .ok (.iload_n 2, 1) := by decide +kernel
theorem dX2_cosines_206 : decode cX2_cosines 206 = .ok (.laload, 1) := by decide +kernel
theorem dX2_cosines_207 : decode cX2_cosines 207 = .ok (.lastore, 1) := by decide +kernel
theorem dX2_cosines_208 : decode cX2_cosines 208 = .ok (.iconst 1, 1) := by decide +kernel
theorem dX2_cosines_209 : decode cX2_cosines 209 = .ok (.istore 8, 2) := by decide +kernel
theorem dX2_cosines_211 : decode cX2_cosines 211 = .ok (.iload 8, 2) := by decide +kernel
theorem dX2_cosines_213 : decode cX2_cosines 213 = .ok (.iload_n 2, 1) := by decide +kernel
theorem dX2_cosines_214 : decode cX2_cosines 214 = .ok (.if_icmp .gt 102, 3) := by decide +kernel
theorem dX2_cosines_217 : decode cX2_cosines 217 = .ok (.iconst 0, 1) := by decide +kernel
theorem dX2_cosines_218 : decode cX2_cosines 218 = .ok (.istore 9, 2) := by decide +kernel
theorem dX2_cosines_220 : decode cX2_cosines 220 = .ok (.iload 9, 2) := by decide +kernel
theorem dX2_cosines_222 : decode cX2_cosines 222 = .ok (.iload 8, 2) := by decide +kernel
theorem dX2_cosines_224 : decode cX2_cosines 224 = .ok (.if_icmp .gt 30, 3) := by decide +kernel
theorem dX2_cosines_227 : decode cX2_cosines 227 = .ok (.aload 7, 2) := by decide +kernel
theorem dX2_cosines_229 : decode cX2_cosines 229 = .ok (.iload 9, 2) := by decide +kernel
theorem dX2_cosines_231 : decode cX2_cosines 231 = .ok (.dup2, 1) := by decide +kernel
theorem dX2_cosines_232 : decode cX2_cosines 232 = .ok (.laload, 1) := by decide +kernel
theorem dX2_cosines_233 : decode cX2_cosines 233 = .ok (.aload 4, 2) := by decide +kernel
theorem dX2_cosines_235 : decode cX2_cosines 235 = .ok (.iload_n 2, 1) := by decide +kernel
theorem dX2_cosines_236 : decode cX2_cosines 236 = .ok (.iload 8, 2) := by decide +kernel
theorem dX2_cosines_238 : decode cX2_cosines 238 = .ok (.isub, 1) := by decide +kernel
theorem dX2_cosines_239 : decode cX2_cosines 239 = .ok (.laload, 1) := by decide +kernel
theorem dX2_cosines_240 : decode cX2_cosines 240 = .ok (.aload 5, 2) := by decide +kernel
theorem dX2_cosines_242 : decode cX2_cosines 242 = .ok (.iload 9, 2) := by decide +kernel
theorem dX2_cosines_244 : decode cX2_cosines 244 = .ok (.laload, 1) := by decide +kernel
theorem dX2_cosines_245 : decode cX2_cosines 245 = .ok (.lmul, 1) := by decide +kernel
theorem dX2_cosines_246 : decode cX2_cosines 246 = .ok (.ladd, 1) := by decide +kernel
theorem dX2_cosines_247 : decode cX2_cosines 247 = .ok (.lastore, 1) := by decide +kernel
theorem dX2_cosines_248 : decode cX2_cosines 248 = .ok (.iinc 9 1, 3) := by decide +kernel
theorem dX2_cosines_251 : decode cX2_cosines 251 = .ok (.goto (-31), 3) := by decide +kernel
theorem dX2_cosines_254 : decode cX2_cosines 254 = .ok (.iload 8, 2) := by decide +kernel
theorem dX2_cosines_256 : decode cX2_cosines 256 = .ok (.iconst 1, 1) := by decide +kernel
theorem dX2_cosines_257 : decode cX2_cosines 257 = .ok (.iadd, 1) := by decide +kernel
theorem dX2_cosines_258 : decode cX2_cosines 258 = .ok (.istore 9, 2) := by decide +kernel
theorem dX2_cosines_260 : decode cX2_cosines 260 = .ok (.iload 9, 2) := by decide +kernel
theorem dX2_cosines_262 : decode cX2_cosines 262 = .ok (.ifCond .lt 36, 3) := by decide +kernel
theorem dX2_cosines_265 : decode cX2_cosines 265 = .ok (.aload 6, 2) := by decide +kernel
theorem dX2_cosines_267 : decode cX2_cosines 267 = .ok (.iload 9, 2) := by decide +kernel
theorem dX2_cosines_269 : decode cX2_cosines 269 = .ok (.iload 9, 2) := by decide +kernel
theorem dX2_cosines_271 : decode cX2_cosines 271 = .ok (.ifCond .le 13, 3) := by decide +kernel
theorem dX2_cosines_274 : decode cX2_cosines 274 = .ok (.aload 5, 2) := by decide +kernel
theorem dX2_cosines_276 : decode cX2_cosines 276 = .ok (.iload 9, 2) := by decide +kernel
theorem dX2_cosines_278 : decode cX2_cosines 278 = .ok (.iconst 1, 1) := by decide +kernel
theorem dX2_cosines_279 : decode cX2_cosines 279 = .ok (.isub, 1) := by decide +kernel
theorem dX2_cosines_280 : decode cX2_cosines 280 = .ok (.laload, 1) := by decide +kernel
theorem dX2_cosines_281 : decode cX2_cosines 281 = .ok (.goto 4, 3) := by decide +kernel
theorem dX2_cosines_284 : decode cX2_cosines 284 = .ok (.lconst 0, 1) := by decide +kernel
theorem dX2_cosines_285 : decode cX2_cosines 285 = .ok (.aload 6, 2) := by decide +kernel
theorem dX2_cosines_287 : decode cX2_cosines 287 = .ok (.iload 9, 2) := by decide +kernel
theorem dX2_cosines_289 : decode cX2_cosines 289 = .ok (.laload, 1) := by decide +kernel
theorem dX2_cosines_290 : decode cX2_cosines 290 = .ok (.lsub, 1) := by decide +kernel
theorem dX2_cosines_291 : decode cX2_cosines 291 = .ok (.lastore, 1) := by decide +kernel
theorem dX2_cosines_292 : decode cX2_cosines 292 = .ok (.iinc 9 (-1), 3) := by decide +kernel
theorem dX2_cosines_295 : decode cX2_cosines 295 = .ok (.goto (-35), 3) := by decide +kernel
theorem dX2_cosines_298 : decode cX2_cosines 298 = .ok (.aload 6, 2) := by decide +kernel
theorem dX2_cosines_300 : decode cX2_cosines 300 = .ok (.astore 9, 2) := by decide +kernel
theorem dX2_cosines_302 : decode cX2_cosines 302 = .ok (.aload 5, 2) := by decide +kernel
theorem dX2_cosines_304 : decode cX2_cosines 304 = .ok (.astore 6, 2) := by decide +kernel
theorem dX2_cosines_306 : decode cX2_cosines 306 = .ok (.aload 9, 2) := by decide +kernel
theorem dX2_cosines_308 : decode cX2_cosines 308 = .ok (.astore 5, 2) := by decide +kernel
theorem dX2_cosines_310 : decode cX2_cosines 310 = .ok (.iinc 8 1, 3) := by decide +kernel
theorem dX2_cosines_313 : decode cX2_cosines 313 = .ok (.goto (-102), 3) := by decide +kernel
theorem dX2_cosines_316 : decode cX2_cosines 316 = .ok (.iconst 0, 1) := by decide +kernel
theorem dX2_cosines_317 : decode cX2_cosines 317 = .ok (.istore 8, 2) := by decide +kernel
theorem dX2_cosines_319 : decode cX2_cosines 319 = .ok (.iload 8, 2) := by decide +kernel
theorem dX2_cosines_321 : decode cX2_cosines 321 = .ok (.iload_n 2, 1) := by decide +kernel
theorem dX2_cosines_322 : decode cX2_cosines 322 = .ok (.if_icmp .gt 27, 3) := by decide +kernel
theorem dX2_cosines_325 : decode cX2_cosines 325 = .ok (.aload_n 3, 1) := by decide +kernel
theorem dX2_cosines_326 : decode cX2_cosines 326 = .ok (.getfield 136, 3) := by decide +kernel
theorem dX2_cosines_329 : decode cX2_cosines 329 = .ok (.iload 8, 2) := by decide +kernel
theorem dX2_cosines_331 : decode cX2_cosines 331 = .ok (.aaload, 1) := by decide +kernel
theorem dX2_cosines_332 : decode cX2_cosines 332 = .ok (.aload 7, 2) := by decide +kernel
theorem dX2_cosines_334 : decode cX2_cosines 334 = .ok (.iload 8, 2) := by decide +kernel
theorem dX2_cosines_336 : decode cX2_cosines 336 = .ok (.laload, 1) := by decide +kernel
theorem dX2_cosines_337 : decode cX2_cosines 337 = .ok (.iload 8, 2) := by decide +kernel
theorem dX2_cosines_339 : decode cX2_cosines 339 = .ok (.lshl, 1) := by decide +kernel
theorem dX2_cosines_340 : decode cX2_cosines 340 = .ok (.invokevirtual 114, 3) := by decide +kernel
theorem dX2_cosines_343 : decode cX2_cosines 343 = .ok (.iinc 8 1, 3) := by decide +kernel
theorem dX2_cosines_346 : decode cX2_cosines 346 = .ok (.goto (-27), 3) := by decide +kernel
theorem dX2_cosines_349 : decode cX2_cosines 349 = .ok (.aload_n 3, 1) := by decide +kernel
theorem dX2_cosines_350 : decode cX2_cosines 350 = .ok (.iload_n 2, 1) := by decide +kernel
theorem dX2_cosines_351 : decode cX2_cosines 351 = .ok (.putfield 77, 3) := by decide +kernel
theorem dX2_cosines_354 : decode cX2_cosines 354 = .ok (.aload_n 0, 1) := by decide +kernel
theorem dX2_cosines_355 : decode cX2_cosines 355 = .ok (.getfield 69, 3) := by decide +kernel
theorem dX2_cosines_358 : decode cX2_cosines 358 = .ok (.aload_n 3, 1) := by decide +kernel
theorem dX2_cosines_359 : decode cX2_cosines 359 = .ok (.invokevirtual 101, 3) := by decide +kernel
theorem dX2_cosines_362 : decode cX2_cosines 362 = .ok (.return_, 1) := by decide +kernel
theorem dX2_square_0 : decode cX2_square 0 = .ok (.iconst 1, 1) := by decide +kernel
theorem dX2_square_1 : decode cX2_square 1 = .ok (.istore_n 1, 1) := by decide +kernel
theorem dX2_square_2 : decode cX2_square 2 = .ok (.iconst 2, 1) := by decide +kernel
theorem dX2_square_3 : decode cX2_square 3 = .ok (.istore_n 2, 1) := by decide +kernel
theorem dX2_square_4 : decode cX2_square 4 = .ok (.iload_n 2, 1) := by decide +kernel
theorem dX2_square_5 : decode cX2_square 5 = .ok (.iload_n 0, 1) := by decide +kernel
theorem dX2_square_6 : decode cX2_square 6 = .ok (.if_icmp .gt 33, 3) := by decide +kernel
theorem dX2_square_9 : decode cX2_square 9 = .ok (.iload_n 0, 1) := by decide +kernel
theorem dX2_square_10 : decode cX2_square 10 = .ok (.iload_n 2, 1) := by decide +kernel
theorem dX2_square_11 : decode cX2_square 11 = .ok (.irem, 1) := by decide +kernel
theorem dX2_square_12 : decode cX2_square 12 = .ok (.ifCond .eq 6, 3) := by decide +kernel
theorem dX2_square_15 : decode cX2_square 15 = .ok (.goto 18, 3) := by decide +kernel
theorem dX2_square_18 : decode cX2_square 18 = .ok (.iload_n 0, 1) := by decide +kernel
theorem dX2_square_19 : decode cX2_square 19 = .ok (.iload_n 2, 1) := by decide +kernel
theorem dX2_square_20 : decode cX2_square 20 = .ok (.idiv, 1) := by decide +kernel
theorem dX2_square_21 : decode cX2_square 21 = .ok (.istore_n 0, 1) := by decide +kernel
theorem dX2_square_22 : decode cX2_square 22 = .ok (.iload_n 0, 1) := by decide +kernel
theorem dX2_square_23 : decode cX2_square 23 = .ok (.iload_n 2, 1) := by decide +kernel
theorem dX2_square_24 : decode cX2_square 24 = .ok (.irem, 1) := by decide +kernel
theorem dX2_square_25 : decode cX2_square 25 = .ok (.ifCond .ne 5, 3) := by decide +kernel
theorem dX2_square_28 : decode cX2_square 28 = .ok (.iconst 0, 1) := by decide +kernel
theorem dX2_square_29 : decode cX2_square 29 = .ok (.ireturn, 1) := by decide +kernel
theorem dX2_square_30 : decode cX2_square 30 = .ok (.iload_n 1, 1) := by decide +kernel
theorem dX2_square_31 : decode cX2_square 31 = .ok (.ineg, 1) := by decide +kernel
theorem dX2_square_32 : decode cX2_square 32 = .ok (.istore_n 1, 1) := by decide +kernel
theorem dX2_square_33 : decode cX2_square 33 = .ok (.iinc 2 1, 3) := by decide +kernel
theorem dX2_square_36 : decode cX2_square 36 = .ok (.goto (-32), 3) := by decide +kernel
theorem dX2_square_39 : decode cX2_square 39 = .ok (.iload_n 1, 1) := by decide +kernel
theorem dX2_square_40 : decode cX2_square 40 = .ok (.ireturn, 1) := by decide +kernel
theorem dX3_init_0 : decode cX3_init 0 = .ok (.aload_n 0, 1) := by decide +kernel
theorem dX3_init_1 : decode cX3_init 1 = .ok (.invokespecial 3, 3) := by decide +kernel
theorem dX3_init_4 : decode cX3_init 4 = .ok (.aload_n 0, 1) := by decide +kernel
theorem dX3_init_5 : decode cX3_init 5 = .ok (.bipush 12, 2) := by decide +kernel
theorem dX3_init_7 : decode cX3_init 7 = .ok (.anewarray 9, 3) := by decide +kernel
theorem dX3_init_10 : decode cX3_init 10 = .ok (.putfield 11, 3) := by decide +kernel
theorem dX3_init_13 : decode cX3_init 13 = .ok (.aload_n 0, 1) := by decide +kernel
theorem dX3_init_14 : decode cX3_init 14 = .ok (.new 17, 3) := by decide +kernel
theorem dX3_init_17 : decode cX3_init 17 = .ok (.dup, 1) := by decide +kernel
theorem dX3_init_18 : decode cX3_init 18 = .ok (.invokespecial 19, 3) := by decide +kernel
theorem dX3_init_21 : decode cX3_init 21 = .ok (.putfield 20, 3) := by decide +kernel
theorem dX3_init_24 : decode cX3_init 24 = .ok (.aload_n 0, 1) := by decide +kernel
theorem dX3_init_25 : decode cX3_init 25 = .ok (.new 9, 3) := by decide +kernel
theorem dX3_init_28 : decode cX3_init 28 = .ok (.dup, 1) := by decide +kernel
theorem dX3_init_29 : decode cX3_init 29 = .ok (.invokespecial 24, 3) := by decide +kernel
theorem dX3_init_32 : decode cX3_init 32 = .ok (.putfield 25, 3) := by decide +kernel
theorem dX3_init_35 : decode cX3_init 35 = .ok (.aload_n 0, 1) := by decide +kernel
theorem dX3_init_36 : decode cX3_init 36 = .ok (.new 9, 3) := by decide +kernel
theorem dX3_init_39 : decode cX3_init 39 = .ok (.dup, 1) := by decide +kernel
theorem dX3_init_40 : decode cX3_init 40 = .ok (.invokespecial 24, 3) := by decide +kernel
theorem dX3_init_43 : decode cX3_init 43 = .ok (.putfield 29, 3) := by decide +kernel
theorem dX3_init_46 : decode cX3_init 46 = .ok (.aload_n 0, 1) := by decide +kernel
theorem dX3_init_47 : decode cX3_init 47 = .ok (.new 9, 3) := by decide +kernel
theorem dX3_init_50 : decode cX3_init 50 = .ok (.dup, 1) := by decide +kernel
theorem dX3_init_51 : decode cX3_init 51 = .ok (.invokespecial 24, 3) := by decide +kernel
theorem dX3_init_54 : decode cX3_init 54 = .ok (.putfield 32, 3) := by decide +kernel
theorem dX3_init_57 : decode cX3_init 57 = .ok (.aload_n 0, 1) := by decide +kernel
theorem dX3_init_58 : decode cX3_init 58 = .ok (.new 35, 3) := by decide +kernel
theorem dX3_init_61 : decode cX3_init 61 = .ok (.dup, 1) := by decide +kernel
theorem dX3_init_62 : decode cX3_init 62 = .ok (.invokespecial 37, 3) := by decide +kernel
theorem dX3_init_65 : decode cX3_init 65 = .ok (.putfield 38, 3) := by decide +kernel
theorem dX3_init_68 : decode cX3_init 68 = .ok (.aload_n 0, 1) := by decide +kernel
theorem dX3_init_69 : decode cX3_init 69 = .ok (.new 35, 3) := by decide +kernel
theorem dX3_init_72 : decode cX3_init 72 = .ok (.dup, 1) := by decide +kernel
theorem dX3_init_73 : decode cX3_init 73 = .ok (.invokespecial 37, 3) := by decide +kernel
theorem dX3_init_76 : decode cX3_init 76 = .ok (.putfield 42, 3) := by decide +kernel
theorem dX3_init_79 : decode cX3_init 79 = .ok (.aload_n 0, 1) := by decide +kernel
theorem dX3_init_80 : decode cX3_init 80 = .ok (.new 35, 3) := by decide +kernel
theorem dX3_init_83 : decode cX3_init 83 = .ok (.dup, 1) := by decide +kernel
theorem dX3_init_84 : decode cX3_init 84 = .ok (.invokespecial 37, 3) := by decide +kernel
theorem dX3_init_87 : decode cX3_init 87 = .ok (.putfield 45, 3) := by decide +kernel
theorem dX3_init_90 : decode cX3_init 90 = .ok (.aload_n 0, 1) := by decide +kernel
theorem dX3_init_91 : decode cX3_init 91 = .ok (.new 35, 3) := by decide +kernel
theorem dX3_init_94 : decode cX3_init 94 = .ok (.dup, 1) := by decide +kernel
theorem dX3_init_95 : decode cX3_init 95 = .ok (.invokespecial 37, 3) := by decide +kernel
theorem dX3_init_98 : decode cX3_init 98 = .ok (.putfield 48, 3) := by decide +kernel
theorem dX3_init_101 : decode cX3_init 101 = .ok (.aload_n 0, 1) := by decide +kernel
theorem dX3_init_102 : decode cX3_init 102 = .ok (.new 35, 3) := by decide +kernel
theorem dX3_init_105 : decode cX3_init 105 = .ok (.dup, 1) := by decide +kernel
theorem dX3_init_106 : decode cX3_init 106 = .ok (.invokespecial 37, 3) := by decide +kernel
theorem dX3_init_109 : decode cX3_init 109 = .ok (.putfield 51, 3) := by decide +kernel
theorem dX3_init_112 : decode cX3_init 112 = .ok (.aload_n 0, 1) := by decide +kernel
theorem dX3_init_113 : decode cX3_init 113 = .ok (.bipush 12, 2) := by decide +kernel
theorem dX3_init_115 : decode cX3_init 115 = .ok (.anewarray 35, 3) := by decide +kernel
theorem dX3_init_118 : decode cX3_init 118 = .ok (.putfield 54, 3) := by decide +kernel
theorem dX3_init_121 : decode cX3_init 121 = .ok (.aload_n 0, 1) := by decide +kernel
theorem dX3_init_122 : decode cX3_init 122 = .ok (.bipush 12, 2) := by decide +kernel
theorem dX3_init_124 : decode cX3_init 124 = .ok (.anewarray 9, 3) := by decide +kernel
theorem dX3_init_127 : decode cX3_init 127 = .ok (.putfield 58, 3) := by decide +kernel
theorem dX3_init_130 : decode cX3_init 130 = .ok (.aload_n 0, 1) := by decide +kernel
theorem dX3_init_131 : decode cX3_init 131 = .ok (.new 61, 3) := by decide +kernel
theorem dX3_init_134 : decode cX3_init 134 = .ok (.dup, 1) := by decide +kernel
theorem dX3_init_135 : decode cX3_init 135 = .ok (.invokespecial 63, 3) := by decide +kernel
theorem dX3_init_138 : decode cX3_init 138 = .ok (.putfield 64, 3) := by decide +kernel
theorem dX3_init_141 : decode cX3_init 141 = .ok (.aload_n 0, 1) := by decide +kernel
theorem dX3_init_142 : decode cX3_init 142 = .ok (.new 61, 3) := by decide +kernel
theorem dX3_init_145 : decode cX3_init 145 = .ok (.dup, 1) := by decide +kernel
theorem dX3_init_146 : decode cX3_init 146 = .ok (.invokespecial 63, 3) := by decide +kernel
theorem dX3_init_149 : decode cX3_init 149 = .ok (.putfield 68, 3) := by decide +kernel
theorem dX3_init_152 : decode cX3_init 152 = .ok (.aload_n 0, 1) := by decide +kernel
theorem dX3_init_153 : decode cX3_init 153 = .ok (.new 61, 3) := by decide +kernel
theorem dX3_init_156 : decode cX3_init 156 = .ok (.dup, 1) := by decide +kernel
theorem dX3_init_157 : decode cX3_init 157 = .ok (.invokespecial 63, 3) := by decide +kernel
theorem dX3_init_160 : decode cX3_init 160 = .ok (.putfield 71, 3) := by decide +kernel
theorem dX3_init_163 : decode cX3_init 163 = .ok (.aload_n 0, 1) := by decide +kernel
theorem dX3_init_164 : decode cX3_init 164 = .ok (.new 61, 3) := by decide +kernel
theorem dX3_init_167 : decode cX3_init 167 = .ok (.dup, 1) := by decide +kernel
theorem dX3_init_168 : decode cX3_init 168 = .ok (.invokespecial 63, 3) := by decide +kernel
theorem dX3_init_171 : decode cX3_init 171 = .ok (.putfield 74, 3) := by decide +kernel
theorem dX3_init_174 : decode cX3_init 174 = .ok (.aload_n 0, 1) := by decide +kernel
theorem dX3_init_175 : decode cX3_init 175 = .ok (.new 61, 3) := by decide +kernel
theorem dX3_init_178 : decode cX3_init 178 = .ok (.dup, 1) := by decide +kernel
theorem dX3_init_179 : decode cX3_init 179 = .ok (.invokespecial 63, 3) := by decide +kernel
theorem dX3_init_182 : decode cX3_init 182 = .ok (.putfield 77, 3) := by decide +kernel
theorem dX3_init_185 : decode cX3_init 185 = .ok (.aload_n 0, 1) := by decide +kernel
theorem dX3_init_186 : decode cX3_init 186 = .ok (.aload_n 1, 1) := by decide +kernel
theorem dX3_init_187 : decode cX3_init 187 = .ok (.putfield 80, 3) := by decide +kernel
theorem dX3_init_190 : decode cX3_init 190 = .ok (.iconst 0, 1) := by decide +kernel
theorem dX3_init_191 : decode cX3_init 191 = .ok (.istore_n 2, 1) := by decide +kernel
theorem dX3_init_192 : decode cX3_init 192 = .ok (.iload_n 2, 1) := by decide +kernel
theorem dX3_init_193 : decode cX3_init 193 = .ok (.bipush 12, 2) := by decide +kernel
theorem dX3_init_195 : decode cX3_init 195 = .ok (.if_icmp .ge 48, 3) := by decide +kernel
theorem dX3_init_198 : decode cX3_init 198 = .ok (.aload_n 0, 1) := by decide +kernel
theorem dX3_init_199 : decode cX3_init 199 = .ok (.getfield 11, 3) := by decide +kernel
theorem dX3_init_202 : decode cX3_init 202 = .ok (.iload_n 2, 1) := by decide +kernel
theorem dX3_init_203 : decode cX3_init 203 = .ok (.new 9, 3) := by decide +kernel
theorem dX3_init_206 : decode cX3_init 206 = .ok (.dup, 1) := by decide +kernel
theorem dX3_init_207 : decode cX3_init 207 = .ok (.invokespecial 24, 3) := by decide +kernel
theorem dX3_init_210 : decode cX3_init 210 = .ok (.aastore, 1) := by decide +kernel
theorem dX3_init_211 : decode cX3_init 211 = .ok (.aload_n 0, 1) := by decide +kernel
theorem dX3_init_212 : decode cX3_init 212 = .ok (.getfield 58, 3) := by decide +kernel
theorem dX3_init_215 : decode cX3_init 215 = .ok (.iload_n 2, 1) := by decide +kernel
theorem dX3_init_216 : decode cX3_init 216 = .ok (.new 9, 3) := by decide +kernel
theorem dX3_init_219 : decode cX3_init 219 = .ok (.dup, 1) := by decide +kernel
theorem dX3_init_220 : decode cX3_init 220 = .ok (.invokespecial 24, 3) := by decide +kernel
theorem dX3_init_223 : decode cX3_init 223 = .ok (.aastore, 1) := by decide +kernel
theorem dX3_init_224 : decode cX3_init 224 = .ok (.aload_n 0, 1) := by decide +kernel
theorem dX3_init_225 : decode cX3_init 225 = .ok (.getfield 54, 3) := by decide +kernel
theorem dX3_init_228 : decode cX3_init 228 = .ok (.iload_n 2, 1) := by decide +kernel
theorem dX3_init_229 : decode cX3_init 229 = .ok (.new 35, 3) := by decide +kernel
theorem dX3_init_232 : decode cX3_init 232 = .ok (.dup, 1) := by decide +kernel
theorem dX3_init_233 : decode cX3_init 233 = .ok (.invokespecial 37, 3) := by decide +kernel
theorem dX3_init_236 : decode cX3_init 236 = .ok (.aastore, 1) := by decide +kernel
theorem dX3_init_237 : decode cX3_init 237 = .ok (.iinc 2 1, 3) := by decide +kernel
theorem dX3_init_240 : decode cX3_init 240 = .ok (.goto (-48), 3) := by decide +kernel
theorem dX3_init_243 : decode cX3_init 243 = .ok (.return_, 1) := by decide +kernel
theorem dX4_init_0 : decode cX4_init 0 = .ok (.aload_n 0, 1) := by decide +kernel
theorem dX4_init_1 : decode cX4_init 1 = .ok (.invokespecial 1, 3) := by decide +kernel
theorem dX4_init_4 : decode cX4_init 4 = .ok (.aload_n 0, 1) := by decide +kernel
theorem dX4_init_5 : decode cX4_init 5 = .ok (.bipush 13, 2) := by decide +kernel
theorem dX4_init_7 : decode cX4_init 7 = .ok (.anewarray 9, 3) := by decide +kernel
theorem dX4_init_10 : decode cX4_init 10 = .ok (.putfield 11, 3) := by decide +kernel
theorem dX4_init_13 : decode cX4_init 13 = .ok (.aload_n 0, 1) := by decide +kernel
theorem dX4_init_14 : decode cX4_init 14 = .ok (.iconst (-1), 1) := by decide +kernel
theorem dX4_init_15 : decode cX4_init 15 = .ok (.putfield 15, 3) := by decide +kernel
theorem dX4_init_18 : decode cX4_init 18 = .ok (.iconst 0, 1) := by decide +kernel
theorem dX4_init_19 : decode cX4_init 19 = .ok (.istore_n 1, 1) := by decide +kernel
theorem dX4_init_20 : decode cX4_init 20 = .ok (.iload_n 1, 1) := by decide +kernel
theorem dX4_init_21 : decode cX4_init 21 = .ok (.bipush 12, 2) := by decide +kernel
theorem dX4_init_23 : decode cX4_init 23 = .ok (.if_icmp .gt 22, 3) := by decide +kernel
theorem dX4_init_26 : decode cX4_init 26 = .ok (.aload_n 0, 1) := by decide +kernel
theorem dX4_init_27 : decode cX4_init 27 = .ok (.getfield 11, 3) := by decide +kernel
theorem dX4_init_30 : decode cX4_init 30 = .ok (.iload_n 1, 1) := by decide +kernel
theorem dX4_init_31 : decode cX4_init 31 = .ok (.new 9, 3) := by decide +kernel
theorem dX4_init_34 : decode cX4_init 34 = .ok (.dup, 1) := by decide +kernel
theorem dX4_init_35 : decode cX4_init 35 = .ok (.invokespecial 19, 3) := by decide +kernel
theorem dX4_init_38 : decode cX4_init 38 = .ok (.aastore, 1) := by decide +kernel
theorem dX4_init_39 : decode cX4_init 39 = .ok (.iinc 1 1, 3) := by decide +kernel
theorem dX4_init_42 : decode cX4_init 42 = .ok (.goto (-22), 3) := by decide +kernel
theorem dX4_init_45 : decode cX4_init 45 = .ok (.return_, 1) := by decide +kernel
theorem dX4_copy_0 : decode cX4_copy 0 = .ok (.aload_n 0, 1) := by decide +kernel
theorem dX4_copy_1 : decode cX4_copy 1 = .ok (.aload_n 1, 1) := by decide +kernel
theorem dX4_copy_2 : decode cX4_copy 2 = .ok (.getfield 15, 3) := by decide +kernel
theorem dX4_copy_5 : decode cX4_copy 5 = .ok (.putfield 15, 3) := by decide +kernel
theorem dX4_copy_8 : decode cX4_copy 8 = .ok (.iconst 0, 1) := by decide +kernel
theorem dX4_copy_9 : decode cX4_copy 9 = .ok (.istore_n 2, 1) := by decide +kernel
theorem dX4_copy_10 : decode cX4_copy 10 = .ok (.iload_n 2, 1) := by decide +kernel
theorem dX4_copy_11 : decode cX4_copy 11 = .ok (.aload_n 0, 1) := by decide +kernel
theorem dX4_copy_12 : decode cX4_copy 12 = .ok (.getfield 15, 3) := by decide +kernel
theorem dX4_copy_15 : decode cX4_copy 15 = .ok (.if_icmp .gt 30, 3) := by decide +kernel
theorem dX4_copy_18 : decode cX4_copy 18 = .ok (.iload_n 2, 1) := by decide +kernel
theorem dX4_copy_19 : decode cX4_copy 19 = .ok (.bipush 12, 2) := by decide +kernel
theorem dX4_copy_21 : decode cX4_copy 21 = .ok (.if_icmp .gt 24, 3) := by decide +kernel
theorem dX4_copy_24 : decode cX4_copy 24 = .ok (.aload_n 0, 1) := by decide +kernel
theorem dX4_copy_25 : decode cX4_copy 25 = .ok (.getfield 11, 3) := by decide +kernel
theorem dX4_copy_28 : decode cX4_copy 28 = .ok (.iload_n 2, 1) := by decide +kernel
theorem dX4_copy_29 : decode cX4_copy 29 = .ok (.aaload, 1) := by decide +kernel
theorem dX4_copy_30 : decode cX4_copy 30 = .ok (.aload_n 1, 1) := by decide +kernel
theorem dX4_copy_31 : decode cX4_copy 31 = .ok (.getfield 11, 3) := by decide +kernel
theorem dX4_copy_34 : decode cX4_copy 34 = .ok (.iload_n 2, 1) := by decide +kernel
theorem dX4_copy_35 : decode cX4_copy 35 = .ok (.aaload, 1) := by decide +kernel
theorem dX4_copy_36 : decode cX4_copy 36 = .ok (.invokevirtual 20, 3) := by decide +kernel
theorem dX4_copy_39 : decode cX4_copy 39 = .ok (.iinc 2 1, 3) := by decide +kernel
theorem dX4_copy_42 : decode cX4_copy 42 = .ok (.goto (-32), 3) := by decide +kernel
theorem dX4_copy_45 : decode cX4_copy 45 = .ok (.return_, 1) := by decide +kernel
theorem dX4_trim_0 : decode cX4_trim 0 = .ok (.aload_n 0, 1) := by decide +kernel
theorem dX4_trim_1 : decode cX4_trim 1 = .ok (.iload_n 1, 1) := by decide +kernel
theorem dX4_trim_2 : decode cX4_trim 2 = .ok (.bipush 12, 2) := by decide +kernel
theorem dX4_trim_4 : decode cX4_trim 4 = .ok (.invokestatic 24, 3) := by decide +kernel
theorem dX4_trim_7 : decode cX4_trim 7 = .ok (.putfield 15, 3) := by decide +kernel
theorem dX4_trim_10 : decode cX4_trim 10 = .ok (.aload_n 0, 1) := by decide +kernel
theorem dX4_trim_11 : decode cX4_trim 11 = .ok (.getfield 15, 3) := by decide +kernel
theorem dX4_trim_14 : decode cX4_trim 14 = .ok (.ifCond .lt 31, 3) := by decide +kernel
theorem dX4_trim_17 : decode cX4_trim 17 = .ok (.aload_n 0, 1) := by decide +kernel
theorem dX4_trim_18 : decode cX4_trim 18 = .ok (.getfield 11, 3) := by decide +kernel
theorem dX4_trim_21 : decode cX4_trim 21 = .ok (.aload_n 0, 1) := by decide +kernel
theorem dX4_trim_22 : decode cX4_trim 22 = .ok (.getfield 15, 3) := by decide +kernel
theorem dX4_trim_25 : decode cX4_trim 25 = .ok (.aaload, 1) := by decide +kernel
theorem dX4_trim_26 : decode cX4_trim 26 = .ok (.getfield 30, 3) := by decide +kernel
theorem dX4_trim_29 : decode cX4_trim 29 = .ok (.ifCond .ne 16, 3) := by decide +kernel
theorem dX4_trim_32 : decode cX4_trim 32 = .ok (.aload_n 0, 1) := by decide +kernel
theorem dX4_trim_33 : decode cX4_trim 33 = .ok (.dup, 1) := by decide +kernel
theorem dX4_trim_34 : decode cX4_trim 34 = .ok (.getfield 15, 3) := by decide +kernel
theorem dX4_trim_37 : decode cX4_trim 37 = .ok (.iconst 1, 1) := by decide +kernel
theorem dX4_trim_38 : decode cX4_trim 38 = .ok (.isub, 1) := by decide +kernel
theorem dX4_trim_39 : decode cX4_trim 39 = .ok (.putfield 15, 3) := by decide +kernel
theorem dX4_trim_42 : decode cX4_trim 42 = .ok (.goto (-32), 3) := by decide +kernel
theorem dX4_trim_45 : decode cX4_trim 45 = .ok (.return_, 1) := by decide +kernel
theorem dX4_lead_0 : decode cX4_lead 0 = .ok (.aload_n 0, 1) := by decide +kernel
theorem dX4_lead_1 : decode cX4_lead 1 = .ok (.getfield 11, 3) := by decide +kernel
theorem dX4_lead_4 : decode cX4_lead 4 = .ok (.iconst 0, 1) := by decide +kernel
theorem dX4_lead_5 : decode cX4_lead 5 = .ok (.aload_n 0, 1) := by decide +kernel
theorem dX4_lead_6 : decode cX4_lead 6 = .ok (.getfield 15, 3) := by decide +kernel
theorem dX4_lead_9 : decode cX4_lead 9 = .ok (.bipush 12, 2) := by decide +kernel
theorem dX4_lead_11 : decode cX4_lead 11 = .ok (.invokestatic 24, 3) := by decide +kernel
theorem dX4_lead_14 : decode cX4_lead 14 = .ok (.invokestatic 33, 3) := by decide +kernel
theorem dX4_lead_17 : decode cX4_lead 17 = .ok (.aaload, 1) := by decide +kernel
theorem dX4_lead_18 : decode cX4_lead 18 = .ok (.areturn, 1) := by decide +kernel
theorem dX4_monomial_0 : decode cX4_monomial 0 = .ok (.aload_n 0, 1) := by decide +kernel
theorem dX4_monomial_1 : decode cX4_monomial 1 = .ok (.iconst 0, 1) := by decide +kernel
theorem dX4_monomial_2 : decode cX4_monomial 2 = .ok (.iload_n 1, 1) := by decide +kernel
theorem dX4_monomial_3 : decode cX4_monomial 3 = .ok (.bipush 12, 2) := by decide +kernel
theorem dX4_monomial_5 : decode cX4_monomial 5 = .ok (.invokestatic 24, 3) := by decide +kernel
theorem dX4_monomial_8 : decode cX4_monomial 8 = .ok (.invokestatic 33, 3) := by decide +kernel
theorem dX4_monomial_11 : decode cX4_monomial 11 = .ok (.putfield 15, 3) := by decide +kernel
theorem dX4_monomial_14 : decode cX4_monomial 14 = .ok (.iconst 0, 1) := by decide +kernel
theorem dX4_monomial_15 : decode cX4_monomial 15 = .ok (.istore_n 2, 1) := by decide +kernel
theorem dX4_monomial_16 : decode cX4_monomial 16 = .ok (.iload_n 2, 1) := by decide +kernel
theorem dX4_monomial_17 : decode cX4_monomial 17 = .ok (.aload_n 0, 1) := by decide +kernel
theorem dX4_monomial_18 : decode cX4_monomial 18 = .ok (.getfield 15, 3) := by decide +kernel
theorem dX4_monomial_21 : decode cX4_monomial 21 = .ok (.if_icmp .ge 18, 3) := by decide +kernel
theorem dX4_monomial_24 : decode cX4_monomial 24 = .ok (.aload_n 0, 1) := by decide +kernel
theorem dX4_monomial_25 : decode cX4_monomial 25 = .ok (.getfield 11, 3) := by decide +kernel
theorem dX4_monomial_28 : decode cX4_monomial 28 = .ok (.iload_n 2, 1) := by decide +kernel
theorem dX4_monomial_29 : decode cX4_monomial 29 = .ok (.aaload, 1) := by decide +kernel
theorem dX4_monomial_30 : decode cX4_monomial 30 = .ok (.invokevirtual 55, 3) := by decide +kernel
theorem dX4_monomial_33 : decode cX4_monomial 33 = .ok (.iinc 2 1, 3) := by decide +kernel
theorem dX4_monomial_36 : decode cX4_monomial 36 = .ok (.goto (-20), 3) := by decide +kernel
theorem dX4_monomial_39 : decode cX4_monomial 39 = .ok (.aload_n 0, 1) := by decide +kernel
theorem dX4_monomial_40 : decode cX4_monomial 40 = .ok (.getfield 11, 3) := by decide +kernel
theorem dX4_monomial_43 : decode cX4_monomial 43 = .ok (.aload_n 0, 1) := by decide +kernel
theorem dX4_monomial_44 : decode cX4_monomial 44 = .ok (.getfield 15, 3) := by decide +kernel
theorem dX4_monomial_47 : decode cX4_monomial 47 = .ok (.aaload, 1) := by decide +kernel
theorem dX4_monomial_48 : decode cX4_monomial 48 = .ok (.lconst 1, 1) := by decide +kernel
theorem dX4_monomial_49 : decode cX4_monomial 49 = .ok (.invokevirtual 58, 3) := by decide +kernel
theorem dX4_monomial_52 : decode cX4_monomial 52 = .ok (.return_, 1) := by decide +kernel
theorem dX5_init_0 : decode cX5_init 0 = .ok (.aload_n 0, 1) := by decide +kernel
theorem dX5_init_1 : decode cX5_init 1 = .ok (.invokespecial 1, 3) := by decide +kernel
theorem dX5_init_4 : decode cX5_init 4 = .ok (.aload_n 0, 1) := by decide +kernel
theorem dX5_init_5 : decode cX5_init 5 = .ok (.new 7, 3) := by decide +kernel
theorem dX5_init_8 : decode cX5_init 8 = .ok (.dup, 1) := by decide +kernel
theorem dX5_init_9 : decode cX5_init 9 = .ok (.invokespecial 9, 3) := by decide +kernel
theorem dX5_init_12 : decode cX5_init 12 = .ok (.putfield 10, 3) := by decide +kernel
theorem dX5_init_15 : decode cX5_init 15 = .ok (.aload_n 0, 1) := by decide +kernel
theorem dX5_init_16 : decode cX5_init 16 = .ok (.new 16, 3) := by decide +kernel
theorem dX5_init_19 : decode cX5_init 19 = .ok (.dup, 1) := by decide +kernel
theorem dX5_init_20 : decode cX5_init 20 = .ok (.invokespecial 18, 3) := by decide +kernel
theorem dX5_init_23 : decode cX5_init 23 = .ok (.putfield 19, 3) := by decide +kernel
theorem dX5_init_26 : decode cX5_init 26 = .ok (.aload_n 0, 1) := by decide +kernel
theorem dX5_init_27 : decode cX5_init 27 = .ok (.new 16, 3) := by decide +kernel
theorem dX5_init_30 : decode cX5_init 30 = .ok (.dup, 1) := by decide +kernel
theorem dX5_init_31 : decode cX5_init 31 = .ok (.invokespecial 18, 3) := by decide +kernel
theorem dX5_init_34 : decode cX5_init 34 = .ok (.putfield 23, 3) := by decide +kernel
theorem dX5_init_37 : decode cX5_init 37 = .ok (.return_, 1) := by decide +kernel
theorem dX5_single_0 : decode cX5_single 0 = .ok (.aload_n 0, 1) := by decide +kernel
theorem dX5_single_1 : decode cX5_single 1 = .ok (.iconst 0, 1) := by decide +kernel
theorem dX5_single_2 : decode cX5_single 2 = .ok (.putfield 37, 3) := by decide +kernel
theorem dX5_single_5 : decode cX5_single 5 = .ok (.aload_n 0, 1) := by decide +kernel
theorem dX5_single_6 : decode cX5_single 6 = .ok (.iconst 1, 1) := by decide +kernel
theorem dX5_single_7 : decode cX5_single 7 = .ok (.putfield 40, 3) := by decide +kernel
theorem dX5_single_10 : decode cX5_single 10 = .ok (.aload_n 0, 1) := by decide +kernel
theorem dX5_single_11 : decode cX5_single 11 = .ok (.aload_n 0, 1) := by decide +kernel
theorem dX5_single_12 : decode cX5_single 12 = .ok (.getfield 10, 3) := by decide +kernel
theorem dX5_single_15 : decode cX5_single 15 = .ok (.getfield 46, 3) := by decide +kernel
theorem dX5_single_18 : decode cX5_single 18 = .ok (.iconst 0, 1) := by decide +kernel
theorem dX5_single_19 : decode cX5_single 19 = .ok (.aaload, 1) := by decide +kernel
theorem dX5_single_20 : decode cX5_single 20 = .ok (.getfield 50, 3) := by decide +kernel
theorem dX5_single_23 : decode cX5_single 23 = .ok (.ineg, 1) := by decide +kernel
theorem dX5_single_24 : decode cX5_single 24 = .ok (.putfield 43, 3) := by decide +kernel
theorem dX5_single_27 : decode cX5_single 27 = .ok (.return_, 1) := by decide +kernel
theorem dX6_init_0 : decode cX6_init 0 = .ok (.aload_n 0, 1) := by decide +kernel
theorem dX6_init_1 : decode cX6_init 1 = .ok (.invokespecial 1, 3) := by decide +kernel
theorem dX6_init_4 : decode cX6_init 4 = .ok (.aload_n 0, 1) := by decide +kernel
theorem dX6_init_5 : decode cX6_init 5 = .ok (.bipush 28, 2) := by decide +kernel
theorem dX6_init_7 : decode cX6_init 7 = .ok (.newarray .long, 2) := by decide +kernel
theorem dX6_init_9 : decode cX6_init 9 = .ok (.putfield 7, 3) := by decide +kernel
theorem dX6_init_12 : decode cX6_init 12 = .ok (.aload_n 0, 1) := by decide +kernel
theorem dX6_init_13 : decode cX6_init 13 = .ok (.iconst (-1), 1) := by decide +kernel
theorem dX6_init_14 : decode cX6_init 14 = .ok (.putfield 13, 3) := by decide +kernel
theorem dX6_init_17 : decode cX6_init 17 = .ok (.return_, 1) := by decide +kernel
theorem dX6_shared_0 : decode cX6_shared 0 = .ok (.iconst 0, 1) := by decide +kernel
theorem dX6_shared_1 : decode cX6_shared 1 = .ok (.istore_n 2, 1) := by decide +kernel
theorem dX6_shared_2 : decode cX6_shared 2 = .ok (.iload_n 2, 1) := by decide +kernel
theorem dX6_shared_3 : decode cX6_shared 3 = .ok (.bipush 100, 2) := by decide +kernel
theorem dX6_shared_5 : decode cX6_shared 5 = .ok (.if_icmp .ge 21, 3) := by decide +kernel
theorem dX6_shared_8 : decode cX6_shared 8 = .ok (.iload_n 1, 1) := by decide +kernel
theorem dX6_shared_9 : decode cX6_shared 9 = .ok (.ifCond .eq 17, 3) := by decide +kernel
theorem dX6_shared_12 : decode cX6_shared 12 = .ok (.iload_n 0, 1) := by decide +kernel
theorem dX6_shared_13 : decode cX6_shared 13 = .ok (.iload_n 1, 1) := by decide +kernel
theorem dX6_shared_14 : decode cX6_shared 14 = .ok (.irem, 1) := by decide +kernel
theorem dX6_shared_15 : decode cX6_shared 15 = .ok (.istore_n 3, 1) := by decide +kernel
theorem dX6_shared_16 : decode cX6_shared 16 = .ok (.iload_n 1, 1) := by decide +kernel
theorem dX6_shared_17 : decode cX6_shared 17 = .ok (.istore_n 0, 1) := by decide +kernel
theorem dX6_shared_18 : decode cX6_shared 18 = .ok (.iload_n 3, 1) := by decide +kernel
theorem dX6_shared_19 : decode cX6_shared 19 = .ok (.istore_n 1, 1) := by decide +kernel
theorem dX6_shared_20 : decode cX6_shared 20 = .ok (.iinc 2 1, 3) := by decide +kernel
theorem dX6_shared_23 : decode cX6_shared 23 = .ok (.goto (-21), 3) := by decide +kernel
theorem dX6_shared_26 : decode cX6_shared 26 = .ok (.iload_n 0, 1) := by decide +kernel
theorem dX6_shared_27 : decode cX6_shared 27 = .ok (.invokestatic 17, 3) := by decide +kernel
theorem dX6_shared_30 : decode cX6_shared 30 = .ok (.ireturn, 1) := by decide +kernel
theorem dX6_units_0 : decode cX6_units 0 = .ok (.iconst 0, 1) := by decide +kernel
theorem dX6_units_1 : decode cX6_units 1 = .ok (.istore_n 2, 1) := by decide +kernel
theorem dX6_units_2 : decode cX6_units 2 = .ok (.iconst 1, 1) := by decide +kernel
theorem dX6_units_3 : decode cX6_units 3 = .ok (.istore_n 3, 1) := by decide +kernel
theorem dX6_units_4 : decode cX6_units 4 = .ok (.iload_n 3, 1) := by decide +kernel
theorem dX6_units_5 : decode cX6_units 5 = .ok (.iload_n 1, 1) := by decide +kernel
theorem dX6_units_6 : decode cX6_units 6 = .ok (.if_icmp .ge 21, 3) := by decide +kernel
theorem dX6_units_9 : decode cX6_units 9 = .ok (.iload_n 3, 1) := by decide +kernel
theorem dX6_units_10 : decode cX6_units 10 = .ok (.iload_n 0, 1) := by decide +kernel
theorem dX6_units_11 : decode cX6_units 11 = .ok (.invokestatic 23, 3) := by decide +kernel
theorem dX6_units_14 : decode cX6_units 14 = .ok (.iconst 1, 1) := by decide +kernel
theorem dX6_units_15 : decode cX6_units 15 = .ok (.if_icmp .ne 6, 3) := by decide +kernel
theorem dX6_units_18 : decode cX6_units 18 = .ok (.iinc 2 1, 3) := by decide +kernel
theorem dX6_units_21 : decode cX6_units 21 = .ok (.iinc 3 1, 3) := by decide +kernel
theorem dX6_units_24 : decode cX6_units 24 = .ok (.goto (-20), 3) := by decide +kernel
theorem dX6_units_27 : decode cX6_units 27 = .ok (.iload_n 2, 1) := by decide +kernel
theorem dX6_units_28 : decode cX6_units 28 = .ok (.ireturn, 1) := by decide +kernel
theorem dX7_init_0 : decode cX7_init 0 = .ok (.aload_n 0, 1) := by decide +kernel
theorem dX7_init_1 : decode cX7_init 1 = .ok (.invokespecial 1, 3) := by decide +kernel
theorem dX7_init_4 : decode cX7_init 4 = .ok (.aload_n 0, 1) := by decide +kernel
theorem dX7_init_5 : decode cX7_init 5 = .ok (.bipush 14, 2) := by decide +kernel
theorem dX7_init_7 : decode cX7_init 7 = .ok (.anewarray 7, 3) := by decide +kernel
theorem dX7_init_10 : decode cX7_init 10 = .ok (.putfield 9, 3) := by decide +kernel
theorem dX7_init_13 : decode cX7_init 13 = .ok (.aload_n 0, 1) := by decide +kernel
theorem dX7_init_14 : decode cX7_init 14 = .ok (.new 15, 3) := by decide +kernel
theorem dX7_init_17 : decode cX7_init 17 = .ok (.dup, 1) := by decide +kernel
theorem dX7_init_18 : decode cX7_init 18 = .ok (.invokespecial 17, 3) := by decide +kernel
theorem dX7_init_21 : decode cX7_init 21 = .ok (.putfield 18, 3) := by decide +kernel
theorem dX7_init_24 : decode cX7_init 24 = .ok (.aload_n 0, 1) := by decide +kernel
theorem dX7_init_25 : decode cX7_init 25 = .ok (.new 15, 3) := by decide +kernel
theorem dX7_init_28 : decode cX7_init 28 = .ok (.dup, 1) := by decide +kernel
theorem dX7_init_29 : decode cX7_init 29 = .ok (.invokespecial 17, 3) := by decide +kernel
theorem dX7_init_32 : decode cX7_init 32 = .ok (.putfield 22, 3) := by decide +kernel
theorem dX7_init_35 : decode cX7_init 35 = .ok (.aload_n 0, 1) := by decide +kernel
theorem dX7_init_36 : decode cX7_init 36 = .ok (.new 15, 3) := by decide +kernel
theorem dX7_init_39 : decode cX7_init 39 = .ok (.dup, 1) := by decide +kernel
theorem dX7_init_40 : decode cX7_init 40 = .ok (.invokespecial 17, 3) := by decide +kernel
theorem dX7_init_43 : decode cX7_init 43 = .ok (.putfield 25, 3) := by decide +kernel
theorem dX7_init_46 : decode cX7_init 46 = .ok (.aload_n 0, 1) := by decide +kernel
theorem dX7_init_47 : decode cX7_init 47 = .ok (.new 15, 3) := by decide +kernel
theorem dX7_init_50 : decode cX7_init 50 = .ok (.dup, 1) := by decide +kernel
theorem dX7_init_51 : decode cX7_init 51 = .ok (.invokespecial 17, 3) := by decide +kernel
theorem dX7_init_54 : decode cX7_init 54 = .ok (.putfield 28, 3) := by decide +kernel
theorem dX7_init_57 : decode cX7_init 57 = .ok (.aload_n 0, 1) := by decide +kernel
theorem dX7_init_58 : decode cX7_init 58 = .ok (.new 15, 3) := by decide +kernel
theorem dX7_init_61 : decode cX7_init 61 = .ok (.dup, 1) := by decide +kernel
theorem dX7_init_62 : decode cX7_init 62 = .ok (.invokespecial 17, 3) := by decide +kernel
theorem dX7_init_65 : decode cX7_init 65 = .ok (.putfield 31, 3) := by decide +kernel
theorem dX7_init_68 : decode cX7_init 68 = .ok (.aload_n 0, 1) := by decide +kernel
theorem dX7_init_69 : decode cX7_init 69 = .ok (.aload_n 1, 1) := by decide +kernel
theorem dX7_init_70 : decode cX7_init 70 = .ok (.putfield 34, 3) := by decide +kernel
theorem dX7_init_73 : decode cX7_init 73 = .ok (.iconst 0, 1) := by decide +kernel
theorem dX7_init_74 : decode cX7_init 74 = .ok (.istore_n 2, 1) := by decide +kernel
theorem dX7_init_75 : decode cX7_init 75 = .ok (.iload_n 2, 1) := by decide +kernel
theorem dX7_init_76 : decode cX7_init 76 = .ok (.aload_n 0, 1) := by decide +kernel
theorem dX7_init_77 : decode cX7_init 77 = .ok (.getfield 9, 3) := by decide +kernel
theorem dX7_init_80 : decode cX7_init 80 = .ok (.arraylength, 1) := by decide +kernel
theorem dX7_init_81 : decode cX7_init 81 = .ok (.if_icmp .ge 22, 3) := by decide +kernel
theorem dX7_init_84 : decode cX7_init 84 = .ok (.aload_n 0, 1) := by decide +kernel
theorem dX7_init_85 : decode cX7_init 85 = .ok (.getfield 9, 3) := by decide +kernel
theorem dX7_init_88 : decode cX7_init 88 = .ok (.iload_n 2, 1) := by decide +kernel
theorem dX7_init_89 : decode cX7_init 89 = .ok (.new 7, 3) := by decide +kernel
theorem dX7_init_92 : decode cX7_init 92 = .ok (.dup, 1) := by decide +kernel
theorem dX7_init_93 : decode cX7_init 93 = .ok (.invokespecial 38, 3) := by decide +kernel
theorem dX7_init_96 : decode cX7_init 96 = .ok (.aastore, 1) := by decide +kernel
theorem dX7_init_97 : decode cX7_init 97 = .ok (.iinc 2 1, 3) := by decide +kernel
theorem dX7_init_100 : decode cX7_init 100 = .ok (.goto (-25), 3) := by decide +kernel
theorem dX7_init_103 : decode cX7_init 103 = .ok (.return_, 1) := by decide +kernel
theorem dX7_build_0 : decode cX7_build 0 = .ok (.aload_n 0, 1) := by decide +kernel
theorem dX7_build_1 : decode cX7_build 1 = .ok (.getfield 9, 3) := by decide +kernel
theorem dX7_build_4 : decode cX7_build 4 = .ok (.iconst 0, 1) := by decide +kernel
theorem dX7_build_5 : decode cX7_build 5 = .ok (.aaload, 1) := by decide +kernel
theorem dX7_build_6 : decode cX7_build 6 = .ok (.aload_n 1, 1) := by decide +kernel
theorem dX7_build_7 : decode cX7_build 7 = .ok (.invokevirtual 39, 3) := by decide +kernel
theorem dX7_build_10 : decode cX7_build 10 = .ok (.aload_n 0, 1) := by decide +kernel
theorem dX7_build_11 : decode cX7_build 11 = .ok (.getfield 34, 3) := by decide +kernel
theorem dX7_build_14 : decode cX7_build 14 = .ok (.aload_n 1, 1) := by decide +kernel
theorem dX7_build_15 : decode cX7_build 15 = .ok (.aload_n 0, 1) := by decide +kernel
theorem dX7_build_16 : decode cX7_build 16 = .ok (.getfield 9, 3) := by decide +kernel
theorem dX7_build_19 : decode cX7_build 19 = .ok (.iconst 1, 1) := by decide +kernel
theorem dX7_build_20 : decode cX7_build 20 = .ok (.aaload, 1) := by decide +kernel
theorem dX7_build_21 : decode cX7_build 21 = .ok (.invokevirtual 43, 3) := by decide +kernel
theorem dX7_build_24 : decode cX7_build 24 = .ok (.aload_n 0, 1) := by decide +kernel
theorem dX7_build_25 : decode cX7_build 25 = .ok (.aload_n 1, 1) := by decide +kernel
theorem dX7_build_26 : decode cX7_build 26 = .ok (.getfield 49, 3) := by decide +kernel
theorem dX7_build_29 : decode cX7_build 29 = .ok (.iconst 1, 1) := by decide +kernel
theorem dX7_build_30 : decode cX7_build 30 = .ok (.if_icmp .ge 7, 3) := by decide +kernel
theorem dX7_build_33 : decode cX7_build 33 = .ok (.iconst 1, 1) := by decide +kernel
theorem dX7_build_34 : decode cX7_build 34 = .ok (.goto 4, 3) := by decide +kernel
theorem dX7_build_37 : decode cX7_build 37 = .ok (.iconst 2, 1) := by decide +kernel
theorem dX7_build_38 : decode cX7_build 38 = .ok (.putfield 53, 3) := by decide +kernel
theorem dX7_build_41 : decode cX7_build 41 = .ok (.aload_n 0, 1) := by decide +kernel
theorem dX7_build_42 : decode cX7_build 42 = .ok (.getfield 18, 3) := by decide +kernel
theorem dX7_build_45 : decode cX7_build 45 = .ok (.lconst 1, 1) := by decide +kernel
theorem dX7_build_46 : decode cX7_build 46 = .ok (.invokevirtual 56, 3) := by decide +kernel
theorem dX7_build_49 : decode cX7_build 49 = .ok (.aload_n 0, 1) := by decide +kernel
theorem dX7_build_50 : decode cX7_build 50 = .ok (.getfield 22, 3) := by decide +kernel
theorem dX7_build_53 : decode cX7_build 53 = .ok (.lconst 1, 1) := by decide +kernel
theorem dX7_build_54 : decode cX7_build 54 = .ok (.invokevirtual 56, 3) := by decide +kernel
theorem dX7_build_57 : decode cX7_build 57 = .ok (.iconst 2, 1) := by decide +kernel
theorem dX7_build_58 : decode cX7_build 58 = .ok (.istore_n 2, 1) := by decide +kernel
theorem dX7_build_59 : decode cX7_build 59 = .ok (.iload_n 2, 1) := by decide +kernel
theorem dX7_build_60 : decode cX7_build 60 = .ok (.aload_n 0, 1) := by decide +kernel
theorem dX7_build_61 : decode cX7_build 61 = .ok (.getfield 9, 3) := by decide +kernel
theorem dX7_build_64 : decode cX7_build 64 = .ok (.arraylength, 1) := by decide +kernel
theorem dX7_build_65 : decode cX7_build 65 = .ok (.if_icmp .ge 213, 3) := by decide +kernel
theorem dX7_build_68 : decode cX7_build 68 = .ok (.iload_n 2, 1) := by decide +kernel
theorem dX7_build_69 : decode cX7_build 69 = .ok (.aload_n 0, 1) := by decide +kernel
theorem dX7_build_70 : decode cX7_build 70 = .ok (.getfield 53, 3) := by decide +kernel
theorem dX7_build_73 : decode cX7_build 73 = .ok (.if_icmp .ne 205, 3) := by decide +kernel
theorem dX7_build_76 : decode cX7_build 76 = .ok (.aload_n 0, 1) := by decide +kernel
theorem dX7_build_77 : decode cX7_build 77 = .ok (.getfield 9, 3) := by decide +kernel
theorem dX7_build_80 : decode cX7_build 80 = .ok (.iload_n 2, 1) := by decide +kernel
theorem dX7_build_81 : decode cX7_build 81 = .ok (.iconst 1, 1) := by decide +kernel
theorem dX7_build_82 : decode cX7_build 82 = .ok (.isub, 1) := by decide +kernel
theorem dX7_build_83 : decode cX7_build 83 = .ok (.aaload, 1) := by decide +kernel
theorem dX7_build_84 : decode cX7_build 84 = .ok (.getfield 49, 3) := by decide +kernel
theorem dX7_build_87 : decode cX7_build 87 = .ok (.ifCond .le 191, 3) := by decide +kernel
theorem dX7_build_90 : decode cX7_build 90 = .ok (.aload_n 0, 1) := by decide +kernel
theorem dX7_build_91 : decode cX7_build 91 = .ok (.getfield 9, 3) := by decide +kernel
theorem dX7_build_94 : decode cX7_build 94 = .ok (.iload_n 2, 1) := by decide +kernel
theorem dX7_build_95 : decode cX7_build 95 = .ok (.aaload, 1) := by decide +kernel
theorem dX7_build_96 : decode cX7_build 96 = .ok (.astore_n 3, 1) := by decide +kernel
theorem dX7_build_97 : decode cX7_build 97 = .ok (.aload_n 0, 1) := by decide +kernel
theorem dX7_build_98 : decode cX7_build 98 = .ok (.getfield 9, 3) := by decide +kernel
theorem dX7_build_101 : decode cX7_build 101 = .ok (.iload_n 2, 1) := by decide +kernel
theorem dX7_build_102 : decode cX7_build 102 = .ok (.iconst 2, 1) := by decide +kernel
theorem dX7_build_103 : decode cX7_build 103 = .ok (.isub, 1) := by decide +kernel
theorem dX7_build_104 : decode cX7_build 104 = .ok (.aaload, 1) := by decide +kernel
theorem dX7_build_105 : decode cX7_build 105 = .ok (.getfield 49, 3) := by decide +kernel
theorem dX7_build_108 : decode cX7_build 108 = .ok (.aload_n 0, 1) := by decide +kernel
theorem dX7_build_109 : decode cX7_build 109 = .ok (.getfield 9, 3) := by decide +kernel
theorem dX7_build_112 : decode cX7_build 112 = .ok (.iload_n 2, 1) := by decide +kernel
theorem dX7_build_113 : decode cX7_build 113 = .ok (.iconst 1, 1) := by decide +kernel
theorem dX7_build_114 : decode cX7_build 114 = .ok (.isub, 1) := by decide +kernel
theorem dX7_build_115 : decode cX7_build 115 = .ok (.aaload, 1) := by decide +kernel
theorem dX7_build_116 : decode cX7_build 116 = .ok (.getfield 49, 3) := by decide +kernel
theorem dX7_build_119 : decode cX7_build 119 = .ok (.isub, 1) := by decide +kernel
theorem dX7_build_120 : decode cX7_build 120 = .ok (.istore 4, 2) := by decide +kernel
theorem dX7_build_122 : decode cX7_build 122 = .ok (.aload_n 3, 1) := by decide +kernel
theorem dX7_build_123 : decode cX7_build 123 = .ok (.aload_n 0, 1) := by decide +kernel
theorem dX7_build_124 : decode cX7_build 124 = .ok (.getfield 9, 3) := by decide +kernel
theorem dX7_build_127 : decode cX7_build 127 = .ok (.iload_n 2, 1) := by decide +kernel
theorem dX7_build_128 : decode cX7_build 128 = .ok (.iconst 2, 1) := by decide +kernel
theorem dX7_build_129 : decode cX7_build 129 = .ok (.isub, 1) := by decide +kernel
theorem dX7_build_130 : decode cX7_build 130 = .ok (.aaload, 1) := by decide +kernel
theorem dX7_build_131 : decode cX7_build 131 = .ok (.invokevirtual 39, 3) := by decide +kernel
theorem dX7_build_134 : decode cX7_build 134 = .ok (.aload_n 0, 1) := by decide +kernel
theorem dX7_build_135 : decode cX7_build 135 = .ok (.getfield 34, 3) := by decide +kernel
theorem dX7_build_138 : decode cX7_build 138 = .ok (.aload_n 3, 1) := by decide +kernel
theorem dX7_build_139 : decode cX7_build 139 = .ok (.aload_n 0, 1) := by decide +kernel
theorem dX7_build_140 : decode cX7_build 140 = .ok (.getfield 9, 3) := by decide +kernel
theorem dX7_build_143 : decode cX7_build 143 = .ok (.iload_n 2, 1) := by decide +kernel
theorem dX7_build_144 : decode cX7_build 144 = .ok (.iconst 1, 1) := by decide +kernel
theorem dX7_build_145 : decode cX7_build 145 = .ok (.isub, 1) := by decide +kernel
theorem dX7_build_146 : decode cX7_build 146 = .ok (.aaload, 1) := by decide +kernel
theorem dX7_build_147 : decode cX7_build 147 = .ok (.invokevirtual 60, 3) := by decide +kernel
theorem dX7_build_150 : decode cX7_build 150 = .ok (.istore 5, 2) := by decide +kernel
theorem dX7_build_152 : decode cX7_build 152 = .ok (.aload_n 3, 1) := by decide +kernel
theorem dX7_build_153 : decode cX7_build 153 = .ok (.getfield 49, 3) := by decide +kernel
theorem dX7_build_156 : decode cX7_build 156 = .ok (.ifCond .ge 6, 3) := by decide +kernel
theorem dX7_build_159 : decode cX7_build 159 = .ok (.goto 119, 3) := by decide +kernel
theorem dX7_build_162 : decode cX7_build 162 = .ok (.aload_n 0, 1) := by decide +kernel
theorem dX7_build_163 : decode cX7_build 163 = .ok (.aload_n 0, 1) := by decide +kernel
theorem dX7_build_164 : decode cX7_build 164 = .ok (.getfield 18, 3) := by decide +kernel
theorem dX7_build_167 : decode cX7_build 167 = .ok (.aload_n 0, 1) := by decide +kernel
theorem dX7_build_168 : decode cX7_build 168 = .ok (.getfield 22, 3) := by decide +kernel
theorem dX7_build_171 : decode cX7_build 171 = .ok (.iload 4, 2) := by decide +kernel
theorem dX7_build_173 : decode cX7_build 173 = .ok (.invokevirtual 64, 3) := by decide +kernel
theorem dX7_build_176 : decode cX7_build 176 = .ok (.iconst 0, 1) := by decide +kernel
theorem dX7_build_177 : decode cX7_build 177 = .ok (.istore 6, 2) := by decide +kernel
theorem dX7_build_179 : decode cX7_build 179 = .ok (.iload 6, 2) := by decide +kernel
theorem dX7_build_181 : decode cX7_build 181 = .ok (.aload_n 3, 1) := by decide +kernel
theorem dX7_build_182 : decode cX7_build 182 = .ok (.getfield 49, 3) := by decide +kernel
theorem dX7_build_185 : decode cX7_build 185 = .ok (.if_icmp .gt 60, 3) := by decide +kernel
theorem dX7_build_188 : decode cX7_build 188 = .ok (.aload_n 0, 1) := by decide +kernel
theorem dX7_build_189 : decode cX7_build 189 = .ok (.getfield 31, 3) := by decide +kernel
theorem dX7_build_192 : decode cX7_build 192 = .ok (.aload_n 3, 1) := by decide +kernel
theorem dX7_build_193 : decode cX7_build 193 = .ok (.getfield 68, 3) := by decide +kernel
theorem dX7_build_196 : decode cX7_build 196 = .ok (.iload 6, 2) := by decide +kernel
theorem dX7_build_198 : decode cX7_build 198 = .ok (.aaload, 1) := by decide +kernel
theorem dX7_build_199 : decode cX7_build 199 = .ok (.invokevirtual 72, 3) := by decide +kernel
theorem dX7_build_202 : decode cX7_build 202 = .ok (.aload_n 0, 1) := by decide +kernel
theorem dX7_build_203 : decode cX7_build 203 = .ok (.getfield 25, 3) := by decide +kernel
theorem dX7_build_206 : decode cX7_build 206 = .ok (.aload_n 0, 1) := by decide +kernel
theorem dX7_build_207 : decode cX7_build 207 = .ok (.getfield 31, 3) := by decide +kernel
theorem dX7_build_210 : decode cX7_build 210 = .ok (.aload_n 0, 1) := by decide +kernel
theorem dX7_build_211 : decode cX7_build 211 = .ok (.getfield 28, 3) := by decide +kernel
theorem dX7_build_214 : decode cX7_build 214 = .ok (.aload_n 3, 1) := by decide +kernel
theorem dX7_build_215 : decode cX7_build 215 = .ok (.getfield 68, 3) := by decide +kernel
theorem dX7_build_218 : decode cX7_build 218 = .ok (.iload 6, 2) := by decide +kernel
theorem dX7_build_220 : decode cX7_build 220 = .ok (.aaload, 1) := by decide +kernel
theorem dX7_build_221 : decode cX7_build 221 = .ok (.invokevirtual 75, 3) := by decide +kernel
theorem dX7_build_224 : decode cX7_build 224 = .ok (.iload 5, 2) := by decide +kernel
theorem dX7_build_226 : decode cX7_build 226 = .ok (.ifCond .ne 13, 3) := by decide +kernel
theorem dX7_build_229 : decode cX7_build 229 = .ok (.aload_n 3, 1) := by decide +kernel
theorem dX7_build_230 : decode cX7_build 230 = .ok (.getfield 68, 3) := by decide +kernel
theorem dX7_build_233 : decode cX7_build 233 = .ok (.iload 6, 2) := by decide +kernel
theorem dX7_build_235 : decode cX7_build 235 = .ok (.aaload, 1) := by decide +kernel
theorem dX7_build_236 : decode cX7_build 236 = .ok (.invokevirtual 79, 3) := by decide +kernel
theorem dX7_build_239 : decode cX7_build 239 = .ok (.iinc 6 1, 3) := by decide +kernel
theorem dX7_build_242 : decode cX7_build 242 = .ok (.goto (-63), 3) := by decide +kernel
theorem dX7_build_245 : decode cX7_build 245 = .ok (.aload_n 0, 1) := by decide +kernel
theorem dX7_build_246 : decode cX7_build 246 = .ok (.aload_n 0, 1) := by decide +kernel
theorem dX7_build_247 : decode cX7_build 247 = .ok (.getfield 9, 3) := by decide +kernel
theorem dX7_build_250 : decode cX7_build 250 = .ok (.iload_n 2, 1) := by decide +kernel
theorem dX7_build_251 : decode cX7_build 251 = .ok (.iconst 1, 1) := by decide +kernel
theorem dX7_build_252 : decode cX7_build 252 = .ok (.isub, 1) := by decide +kernel
theorem dX7_build_253 : decode cX7_build 253 = .ok (.aaload, 1) := by decide +kernel
theorem dX7_build_254 : decode cX7_build 254 = .ok (.invokevirtual 82, 3) := by decide +kernel
theorem dX7_build_257 : decode cX7_build 257 = .ok (.iload 4, 2) := by decide +kernel
theorem dX7_build_259 : decode cX7_build 259 = .ok (.invokevirtual 86, 3) := by decide +kernel
theorem dX7_build_262 : decode cX7_build 262 = .ok (.aload_n 0, 1) := by decide +kernel
theorem dX7_build_263 : decode cX7_build 263 = .ok (.dup, 1) := by decide +kernel
theorem dX7_build_264 : decode cX7_build 264 = .ok (.getfield 53, 3) := by decide +kernel
theorem dX7_build_267 : decode cX7_build 267 = .ok (.iconst 1, 1) := by decide +kernel
theorem dX7_build_268 : decode cX7_build 268 = .ok (.iadd, 1) := by decide +kernel
theorem dX7_build_269 : decode cX7_build 269 = .ok (.putfield 53, 3) := by decide +kernel
theorem dX7_build_272 : decode cX7_build 272 = .ok (.iinc 2 1, 3) := by decide +kernel
theorem dX7_build_275 : decode cX7_build 275 = .ok (.goto (-216), 3) := by decide +kernel
theorem dX7_build_278 : decode cX7_build 278 = .ok (.aload_n 0, 1) := by decide +kernel
theorem dX7_build_279 : decode cX7_build 279 = .ok (.aload_n 0, 1) := by decide +kernel
theorem dX7_build_280 : decode cX7_build 280 = .ok (.iconst 1, 1) := by decide +kernel
theorem dX7_build_281 : decode cX7_build 281 = .ok (.invokevirtual 90, 3) := by decide +kernel
theorem dX7_build_284 : decode cX7_build 284 = .ok (.putfield 94, 3) := by decide +kernel
theorem dX7_build_287 : decode cX7_build 287 = .ok (.aload_n 0, 1) := by decide +kernel
theorem dX7_build_288 : decode cX7_build 288 = .ok (.aload_n 0, 1) := by decide +kernel
theorem dX7_build_289 : decode cX7_build 289 = .ok (.getfield 94, 3) := by decide +kernel
theorem dX7_build_292 : decode cX7_build 292 = .ok (.aload_n 0, 1) := by decide +kernel
theorem dX7_build_293 : decode cX7_build 293 = .ok (.iconst 0, 1) := by decide +kernel
theorem dX7_build_294 : decode cX7_build 294 = .ok (.invokevirtual 90, 3) := by decide +kernel
theorem dX7_build_297 : decode cX7_build 297 = .ok (.isub, 1) := by decide +kernel
theorem dX7_build_298 : decode cX7_build 298 = .ok (.putfield 97, 3) := by decide +kernel
theorem dX7_build_301 : decode cX7_build 301 = .ok (.return_, 1) := by decide +kernel
theorem dX7_multiply_0 : decode cX7_multiply 0 = .ok (.aload_n 0, 1) := by decide +kernel
theorem dX7_multiply_1 : decode cX7_multiply 1 = .ok (.getfield 28, 3) := by decide +kernel
theorem dX7_multiply_4 : decode cX7_multiply 4 = .ok (.aload_n 1, 1) := by decide +kernel
theorem dX7_multiply_5 : decode cX7_multiply 5 = .ok (.invokevirtual 72, 3) := by decide +kernel
theorem dX7_multiply_8 : decode cX7_multiply 8 = .ok (.iconst 0, 1) := by decide +kernel
theorem dX7_multiply_9 : decode cX7_multiply 9 = .ok (.istore 4, 2) := by decide +kernel
theorem dX7_multiply_11 : decode cX7_multiply 11 = .ok (.iload 4, 2) := by decide +kernel
theorem dX7_multiply_13 : decode cX7_multiply 13 = .ok (.iload_n 3, 1) := by decide +kernel
theorem dX7_multiply_14 : decode cX7_multiply 14 = .ok (.if_icmp .ge 32, 3) := by decide +kernel
theorem dX7_multiply_17 : decode cX7_multiply 17 = .ok (.aload_n 0, 1) := by decide +kernel
theorem dX7_multiply_18 : decode cX7_multiply 18 = .ok (.getfield 31, 3) := by decide +kernel
theorem dX7_multiply_21 : decode cX7_multiply 21 = .ok (.aload_n 0, 1) := by decide +kernel
theorem dX7_multiply_22 : decode cX7_multiply 22 = .ok (.getfield 28, 3) := by decide +kernel
theorem dX7_multiply_25 : decode cX7_multiply 25 = .ok (.aload_n 2, 1) := by decide +kernel
theorem dX7_multiply_26 : decode cX7_multiply 26 = .ok (.invokevirtual 100, 3) := by decide +kernel
theorem dX7_multiply_29 : decode cX7_multiply 29 = .ok (.aload_n 0, 1) := by decide +kernel
theorem dX7_multiply_30 : decode cX7_multiply 30 = .ok (.getfield 28, 3) := by decide +kernel
theorem dX7_multiply_33 : decode cX7_multiply 33 = .ok (.aload_n 0, 1) := by decide +kernel
theorem dX7_multiply_34 : decode cX7_multiply 34 = .ok (.getfield 31, 3) := by decide +kernel
theorem dX7_multiply_37 : decode cX7_multiply 37 = .ok (.invokevirtual 72, 3) := by decide +kernel
theorem dX7_multiply_40 : decode cX7_multiply 40 = .ok (.iinc 4 1, 3) := by decide +kernel
theorem dX7_multiply_43 : decode cX7_multiply 43 = .ok (.goto (-32), 3) := by decide +kernel
theorem dX7_multiply_46 : decode cX7_multiply 46 = .ok (.return_, 1) := by decide +kernel
theorem dX7_advance_0 : decode cX7_advance 0 = .ok (.aload_n 0, 1) := by decide +kernel
theorem dX7_advance_1 : decode cX7_advance 1 = .ok (.getfield 18, 3) := by decide +kernel
theorem dX7_advance_4 : decode cX7_advance 4 = .ok (.aload_n 1, 1) := by decide +kernel
theorem dX7_advance_5 : decode cX7_advance 5 = .ok (.invokevirtual 72, 3) := by decide +kernel
theorem dX7_advance_8 : decode cX7_advance 8 = .ok (.aload_n 0, 1) := by decide +kernel
theorem dX7_advance_9 : decode cX7_advance 9 = .ok (.getfield 18, 3) := by decide +kernel
theorem dX7_advance_12 : decode cX7_advance 12 = .ok (.aload_n 0, 1) := by decide +kernel
theorem dX7_advance_13 : decode cX7_advance 13 = .ok (.getfield 18, 3) := by decide +kernel
theorem dX7_advance_16 : decode cX7_advance 16 = .ok (.getfield 104, 3) := by decide +kernel
theorem dX7_advance_19 : decode cX7_advance 19 = .ok (.invokestatic 107, 3) := by decide +kernel
theorem dX7_advance_22 : decode cX7_advance 22 = .ok (.putfield 104, 3) := by decide +kernel
theorem dX7_advance_25 : decode cX7_advance 25 = .ok (.iload_n 2, 1) := by decide +kernel
theorem dX7_advance_26 : decode cX7_advance 26 = .ok (.iconst 2, 1) := by decide +kernel
theorem dX7_advance_27 : decode cX7_advance 27 = .ok (.if_icmp .ge 15, 3) := by decide +kernel
theorem dX7_advance_30 : decode cX7_advance 30 = .ok (.aload_n 0, 1) := by decide +kernel
theorem dX7_advance_31 : decode cX7_advance 31 = .ok (.getfield 22, 3) := by decide +kernel
theorem dX7_advance_34 : decode cX7_advance 34 = .ok (.aload_n 0, 1) := by decide +kernel
theorem dX7_advance_35 : decode cX7_advance 35 = .ok (.getfield 18, 3) := by decide +kernel
theorem dX7_advance_38 : decode cX7_advance 38 = .ok (.invokevirtual 72, 3) := by decide +kernel
theorem dX7_advance_41 : decode cX7_advance 41 = .ok (.return_, 1) := by decide +kernel
theorem dX7_advance_42 : decode cX7_advance 42 = .ok (.aload_n 0, 1) := by decide +kernel
theorem dX7_advance_43 : decode cX7_advance 43 = .ok (.getfield 25, 3) := by decide +kernel
theorem dX7_advance_46 : decode cX7_advance 46 = .ok (.lconst 1, 1) := by decide +kernel
theorem dX7_advance_47 : decode cX7_advance 47 = .ok (.invokevirtual 56, 3) := by decide +kernel
theorem dX7_advance_50 : decode cX7_advance 50 = .ok (.aload_n 0, 1) := by decide +kernel
theorem dX7_advance_51 : decode cX7_advance 51 = .ok (.aload_n 0, 1) := by decide +kernel
theorem dX7_advance_52 : decode cX7_advance 52 = .ok (.getfield 25, 3) := by decide +kernel
theorem dX7_advance_55 : decode cX7_advance 55 = .ok (.aload_n 0, 1) := by decide +kernel
theorem dX7_advance_56 : decode cX7_advance 56 = .ok (.getfield 22, 3) := by decide +kernel
theorem dX7_advance_59 : decode cX7_advance 59 = .ok (.iload_n 2, 1) := by decide +kernel
theorem dX7_advance_60 : decode cX7_advance 60 = .ok (.iconst 1, 1) := by decide +kernel
theorem dX7_advance_61 : decode cX7_advance 61 = .ok (.isub, 1) := by decide +kernel
theorem dX7_advance_62 : decode cX7_advance 62 = .ok (.invokevirtual 64, 3) := by decide +kernel
theorem dX7_advance_65 : decode cX7_advance 65 = .ok (.aload_n 0, 1) := by decide +kernel
theorem dX7_advance_66 : decode cX7_advance 66 = .ok (.getfield 25, 3) := by decide +kernel
theorem dX7_advance_69 : decode cX7_advance 69 = .ok (.aload_n 0, 1) := by decide +kernel
theorem dX7_advance_70 : decode cX7_advance 70 = .ok (.getfield 28, 3) := by decide +kernel
theorem dX7_advance_73 : decode cX7_advance 73 = .ok (.invokevirtual 72, 3) := by decide +kernel
theorem dX7_advance_76 : decode cX7_advance 76 = .ok (.aload_n 0, 1) := by decide +kernel
theorem dX7_advance_77 : decode cX7_advance 77 = .ok (.aload_n 0, 1) := by decide +kernel
theorem dX7_advance_78 : decode cX7_advance 78 = .ok (.getfield 18, 3) := by decide +kernel
theorem dX7_advance_81 : decode cX7_advance 81 = .ok (.aload_n 0, 1) := by decide +kernel
theorem dX7_advance_82 : decode cX7_advance 82 = .ok (.getfield 18, 3) := by decide +kernel
theorem dX7_advance_85 : decode cX7_advance 85 = .ok (.iload_n 2, 1) := by decide +kernel
theorem dX7_advance_86 : decode cX7_advance 86 = .ok (.iconst 1, 1) := by decide +kernel
theorem dX7_advance_87 : decode cX7_advance 87 = .ok (.isub, 1) := by decide +kernel
theorem dX7_advance_88 : decode cX7_advance 88 = .ok (.invokevirtual 64, 3) := by decide +kernel
theorem dX7_advance_91 : decode cX7_advance 91 = .ok (.aload_n 0, 1) := by decide +kernel
theorem dX7_advance_92 : decode cX7_advance 92 = .ok (.getfield 31, 3) := by decide +kernel
theorem dX7_advance_95 : decode cX7_advance 95 = .ok (.aload_n 0, 1) := by decide +kernel
theorem dX7_advance_96 : decode cX7_advance 96 = .ok (.getfield 28, 3) := by decide +kernel
theorem dX7_advance_99 : decode cX7_advance 99 = .ok (.aload_n 0, 1) := by decide +kernel
theorem dX7_advance_100 : decode cX7_advance 100 = .ok (.getfield 25, 3) := by decide +kernel
theorem dX7_advance_103 : decode cX7_advance 103 = .ok (.aload_n 0, 1) := by decide +kernel
theorem dX7_advance_104 : decode cX7_advance 104 = .ok (.getfield 22, 3) := by decide +kernel
theorem dX7_advance_107 : decode cX7_advance 107 = .ok (.invokevirtual 75, 3) := by decide +kernel
theorem dX7_advance_110 : decode cX7_advance 110 = .ok (.return_, 1) := by decide +kernel
theorem dX7_changesFar_0 : decode cX7_changesFar 0 = .ok (.iconst 0, 1) := by decide +kernel
theorem dX7_changesFar_1 : decode cX7_changesFar 1 = .ok (.istore_n 2, 1) := by decide +kernel
theorem dX7_changesFar_2 : decode cX7_changesFar 2 = .ok (.iconst 0, 1) := by decide +kernel
theorem dX7_changesFar_3 : decode cX7_changesFar 3 = .ok (.istore_n 3, 1) := by decide +kernel
theorem dX7_changesFar_4 : decode cX7_changesFar 4 = .ok (.iconst 0, 1) := by decide +kernel
theorem dX7_changesFar_5 : decode cX7_changesFar 5 = .ok (.istore 4, 2) := by decide +kernel
theorem dX7_changesFar_7 : decode cX7_changesFar 7 = .ok (.iload 4, 2) := by decide +kernel
theorem dX7_changesFar_9 : decode cX7_changesFar 9 = .ok (.aload_n 0, 1) := by decide +kernel
theorem dX7_changesFar_10 : decode cX7_changesFar 10 = .ok (.getfield 53, 3) := by decide +kernel
theorem dX7_changesFar_13 : decode cX7_changesFar 13 = .ok (.if_icmp .ge 66, 3) := by decide +kernel
theorem dX7_changesFar_16 : decode cX7_changesFar 16 = .ok (.aload_n 0, 1) := by decide +kernel
theorem dX7_changesFar_17 : decode cX7_changesFar 17 = .ok (.getfield 9, 3) := by decide +kernel
theorem dX7_changesFar_20 : decode cX7_changesFar 20 = .ok (.iload 4, 2) := by decide +kernel
theorem dX7_changesFar_22 : decode cX7_changesFar 22 = .ok (.aaload, 1) := by decide +kernel
theorem dX7_changesFar_23 : decode cX7_changesFar 23 = .ok (.invokevirtual 82, 3) := by decide +kernel
theorem dX7_changesFar_26 : decode cX7_changesFar 26 = .ok (.getfield 104, 3) := by decide +kernel
theorem dX7_changesFar_29 : decode cX7_changesFar 29 = .ok (.istore 5, 2) := by decide +kernel
theorem dX7_changesFar_31 : decode cX7_changesFar 31 = .ok (.iload_n 1, 1) := by decide +kernel
theorem dX7_changesFar_32 : decode cX7_changesFar 32 = .ok (.ifCond .eq 23, 3) := by decide +kernel
theorem dX7_changesFar_35 : decode cX7_changesFar 35 = .ok (.aload_n 0, 1) := by decide +kernel
theorem dX7_changesFar_36 : decode cX7_changesFar 36 = .ok (.getfield 9, 3) := by decide +kernel
theorem dX7_changesFar_39 : decode cX7_changesFar 39 = .ok (.iload 4, 2) := by decide +kernel
theorem dX7_changesFar_41 : decode cX7_changesFar 41 = .ok (.aaload, 1) := by decide +kernel
theorem dX7_changesFar_42 : decode cX7_changesFar 42 = .ok (.getfield 49, 3) := by decide +kernel
theorem dX7_changesFar_45 : decode cX7_changesFar 45 = .ok (.iconst 2, 1) := by decide +kernel
theorem dX7_changesFar_46 : decode cX7_changesFar 46 = .ok (.irem, 1) := by decide +kernel
theorem dX7_changesFar_47 : decode cX7_changesFar 47 = .ok (.ifCond .eq 8, 3) := by decide +kernel
theorem dX7_changesFar_50 : decode cX7_changesFar 50 = .ok (.iload 5, 2) := by decide +kernel
theorem dX7_changesFar_52 : decode cX7_changesFar 52 = .ok (.ineg, 1) := by decide +kernel
theorem dX7_changesFar_53 : decode cX7_changesFar 53 = .ok (.istore 5, 2) := by decide +kernel
theorem dX7_changesFar_55 : decode cX7_changesFar 55 = .ok (.iload 5, 2) := by decide +kernel
theorem dX7_changesFar_57 : decode cX7_changesFar 57 = .ok (.iload_n 3, 1) := by decide +kernel
theorem dX7_changesFar_58 : decode cX7_changesFar 58 = .ok (.imul, 1) := by decide +kernel
theorem dX7_changesFar_59 : decode cX7_changesFar 59 = .ok (.ifCond .ge 6, 3) := by decide +kernel
theorem dX7_changesFar_62 : decode cX7_changesFar 62 = .ok (.iinc 2 1, 3) := by decide +kernel
theorem dX7_changesFar_65 : decode cX7_changesFar 65 = .ok (.iload 5, 2) := by decide +kernel
theorem dX7_changesFar_67 : decode cX7_changesFar 67 = .ok (.ifCond .eq 6, 3) := by decide +kernel
theorem dX7_changesFar_70 : decode cX7_changesFar 70 = .ok (.iload 5, 2) := by decide +kernel
theorem dX7_changesFar_72 : decode cX7_changesFar 72 = .ok (.istore_n 3, 1) := by decide +kernel
theorem dX7_changesFar_73 : decode cX7_changesFar 73 = .ok (.iinc 4 1, 3) := by decide +kernel
theorem dX7_changesFar_76 : decode cX7_changesFar 76 = .ok (.goto (-69), 3) := by decide +kernel
theorem dX7_changesFar_79 : decode cX7_changesFar 79 = .ok (.iload_n 2, 1) := by decide +kernel
theorem dX7_changesFar_80 : decode cX7_changesFar 80 = .ok (.ireturn, 1) := by decide +kernel
theorem dX7_upTo_0 : decode cX7_upTo 0 = .ok (.iconst 0, 1) := by decide +kernel
theorem dX7_upTo_1 : decode cX7_upTo 1 = .ok (.istore 4, 2) := by decide +kernel
theorem dX7_upTo_3 : decode cX7_upTo 3 = .ok (.iconst 0, 1) := by decide +kernel
theorem dX7_upTo_4 : decode cX7_upTo 4 = .ok (.istore 5, 2) := by decide +kernel
theorem dX7_upTo_6 : decode cX7_upTo 6 = .ok (.iconst 0, 1) := by decide +kernel
theorem dX7_upTo_7 : decode cX7_upTo 7 = .ok (.istore 6, 2) := by decide +kernel
theorem dX7_upTo_9 : decode cX7_upTo 9 = .ok (.iload 6, 2) := by decide +kernel
theorem dX7_upTo_11 : decode cX7_upTo 11 = .ok (.aload_n 0, 1) := by decide +kernel
theorem dX7_upTo_12 : decode cX7_upTo 12 = .ok (.getfield 53, 3) := by decide +kernel
theorem dX7_upTo_15 : decode cX7_upTo 15 = .ok (.if_icmp .ge 65, 3) := by decide +kernel
theorem dX7_upTo_18 : decode cX7_upTo 18 = .ok (.aload_n 0, 1) := by decide +kernel
theorem dX7_upTo_19 : decode cX7_upTo 19 = .ok (.getfield 34, 3) := by decide +kernel
theorem dX7_upTo_22 : decode cX7_upTo 22 = .ok (.aload_n 0, 1) := by decide +kernel
theorem dX7_upTo_23 : decode cX7_upTo 23 = .ok (.getfield 9, 3) := by decide +kernel
theorem dX7_upTo_26 : decode cX7_upTo 26 = .ok (.iload 6, 2) := by decide +kernel
theorem dX7_upTo_28 : decode cX7_upTo 28 = .ok (.aaload, 1) := by decide +kernel
theorem dX7_upTo_29 : decode cX7_upTo 29 = .ok (.aload_n 1, 1) := by decide +kernel
theorem dX7_upTo_30 : decode cX7_upTo 30 = .ok (.aload_n 2, 1) := by decide +kernel
theorem dX7_upTo_31 : decode cX7_upTo 31 = .ok (.iload_n 3, 1) := by decide +kernel
theorem dX7_upTo_32 : decode cX7_upTo 32 = .ok (.aload_n 0, 1) := by decide +kernel
theorem dX7_upTo_33 : decode cX7_upTo 33 = .ok (.getfield 28, 3) := by decide +kernel
theorem dX7_upTo_36 : decode cX7_upTo 36 = .ok (.invokevirtual 113, 3) := by decide +kernel
theorem dX7_upTo_39 : decode cX7_upTo 39 = .ok (.aload_n 0, 1) := by decide +kernel
theorem dX7_upTo_40 : decode cX7_upTo 40 = .ok (.getfield 28, 3) := by decide +kernel
theorem dX7_upTo_43 : decode cX7_upTo 43 = .ok (.getfield 104, 3) := by decide +kernel
theorem dX7_upTo_46 : decode cX7_upTo 46 = .ok (.iload 5, 2) := by decide +kernel
theorem dX7_upTo_48 : decode cX7_upTo 48 = .ok (.imul, 1) := by decide +kernel
theorem dX7_upTo_49 : decode cX7_upTo 49 = .ok (.ifCond .ge 6, 3) := by decide +kernel
theorem dX7_upTo_52 : decode cX7_upTo 52 = .ok (.iinc 4 1, 3) := by decide +kernel
theorem dX7_upTo_55 : decode cX7_upTo 55 = .ok (.aload_n 0, 1) := by decide +kernel
theorem dX7_upTo_56 : decode cX7_upTo 56 = .ok (.getfield 28, 3) := by decide +kernel
theorem dX7_upTo_59 : decode cX7_upTo 59 = .ok (.getfield 104, 3) := by decide +kernel
theorem dX7_upTo_62 : decode cX7_upTo 62 = .ok (.ifCond .eq 12, 3) := by decide +kernel
theorem dX7_upTo_65 : decode cX7_upTo 65 = .ok (.aload_n 0, 1) := by decide +kernel
theorem dX7_upTo_66 : decode cX7_upTo 66 = .ok (.getfield 28, 3) := by decide +kernel
theorem dX7_upTo_69 : decode cX7_upTo 69 = .ok (.getfield 104, 3) := by decide +kernel
theorem dX7_upTo_72 : decode cX7_upTo 72 = .ok (.istore 5, 2) := by decide +kernel
theorem dX7_upTo_74 : decode cX7_upTo 74 = .ok (.iinc 6 1, 3) := by decide +kernel
theorem dX7_upTo_77 : decode cX7_upTo 77 = .ok (.goto (-68), 3) := by decide +kernel
theorem dX7_upTo_80 : decode cX7_upTo 80 = .ok (.aload_n 0, 1) := by decide +kernel
theorem dX7_upTo_81 : decode cX7_upTo 81 = .ok (.getfield 94, 3) := by decide +kernel
theorem dX7_upTo_84 : decode cX7_upTo 84 = .ok (.iload 4, 2) := by decide +kernel
theorem dX7_upTo_86 : decode cX7_upTo 86 = .ok (.isub, 1) := by decide +kernel
theorem dX7_upTo_87 : decode cX7_upTo 87 = .ok (.ireturn, 1) := by decide +kernel
theorem dX7_locate_0 : decode cX7_locate 0 = .ok (.iconst 0, 1) := by decide +kernel
theorem dX7_locate_1 : decode cX7_locate 1 = .ok (.istore 4, 2) := by decide +kernel
theorem dX7_locate_3 : decode cX7_locate 3 = .ok (.iconst 0, 1) := by decide +kernel
theorem dX7_locate_4 : decode cX7_locate 4 = .ok (.istore 5, 2) := by decide +kernel
theorem dX7_locate_6 : decode cX7_locate 6 = .ok (.iconst 0, 1) := by decide +kernel
theorem dX7_locate_7 : decode cX7_locate 7 = .ok (.istore 6, 2) := by decide +kernel
theorem dX7_locate_9 : decode cX7_locate 9 = .ok (.aload_n 0, 1) := by decide +kernel
theorem dX7_locate_10 : decode cX7_locate 10 = .ok (.getfield 97, 3) := by decide +kernel
theorem dX7_locate_13 : decode cX7_locate 13 = .ok (.istore 7, 2) := by decide +kernel
theorem dX7_locate_15 : decode cX7_locate 15 = .ok (.aload_n 0, 1) := by decide +kernel
theorem dX7_locate_16 : decode cX7_locate 16 = .ok (.getfield 9, 3) := by decide +kernel
theorem dX7_locate_19 : decode cX7_locate 19 = .ok (.iconst 0, 1) := by decide +kernel
theorem dX7_locate_20 : decode cX7_locate 20 = .ok (.aaload, 1) := by decide +kernel
theorem dX7_locate_21 : decode cX7_locate 21 = .ok (.astore 8, 2) := by decide +kernel
theorem dX7_locate_23 : decode cX7_locate 23 = .ok (.iconst 1, 1) := by decide +kernel
theorem dX7_locate_24 : decode cX7_locate 24 = .ok (.istore 9, 2) := by decide +kernel
theorem dX7_locate_26 : decode cX7_locate 26 = .ok (.iload 9, 2) := by decide +kernel
theorem dX7_locate_28 : decode cX7_locate 28 = .ok (.aload 8, 2) := by decide +kernel
theorem dX7_locate_30 : decode cX7_locate 30 = .ok (.getfield 49, 3) := by decide +kernel
theorem dX7_locate_33 : decode cX7_locate 33 = .ok (.if_icmp .gt 76, 3) := by decide +kernel
theorem dX7_locate_36 : decode cX7_locate 36 = .ok (.aload 8, 2) := by decide +kernel
theorem dX7_locate_38 : decode cX7_locate 38 = .ok (.getfield 68, 3) := by decide +kernel
theorem dX7_locate_41 : decode cX7_locate 41 = .ok (.aload 8, 2) := by decide +kernel
theorem dX7_locate_43 : decode cX7_locate 43 = .ok (.getfield 49, 3) := by decide +kernel
theorem dX7_locate_46 : decode cX7_locate 46 = .ok (.iload 9, 2) := by decide +kernel
theorem dX7_locate_48 : decode cX7_locate 48 = .ok (.isub, 1) := by decide +kernel
theorem dX7_locate_49 : decode cX7_locate 49 = .ok (.aaload, 1) := by decide +kernel
theorem dX7_locate_50 : decode cX7_locate 50 = .ok (.invokevirtual 117, 3) := by decide +kernel
theorem dX7_locate_53 : decode cX7_locate 53 = .ok (.aload 8, 2) := by decide +kernel
theorem dX7_locate_55 : decode cX7_locate 55 = .ok (.invokevirtual 82, 3) := by decide +kernel
theorem dX7_locate_58 : decode cX7_locate 58 = .ok (.invokevirtual 117, 3) := by decide +kernel
theorem dX7_locate_61 : decode cX7_locate 61 = .ok (.isub, 1) := by decide +kernel
theorem dX7_locate_62 : decode cX7_locate 62 = .ok (.iconst 1, 1) := by decide +kernel
theorem dX7_locate_63 : decode cX7_locate 63 = .ok (.iadd, 1) := by decide +kernel
theorem dX7_locate_64 : decode cX7_locate 64 = .ok (.istore 10, 2) := by decide +kernel
theorem dX7_locate_66 : decode cX7_locate 66 = .ok (.aload 8, 2) := by decide +kernel
theorem dX7_locate_68 : decode cX7_locate 68 = .ok (.getfield 68, 3) := by decide +kernel
theorem dX7_locate_71 : decode cX7_locate 71 = .ok (.aload 8, 2) := by decide +kernel
theorem dX7_locate_73 : decode cX7_locate 73 = .ok (.getfield 49, 3) := by decide +kernel
theorem dX7_locate_76 : decode cX7_locate 76 = .ok (.iload 9, 2) := by decide +kernel
theorem dX7_locate_78 : decode cX7_locate 78 = .ok (.isub, 1) := by decide +kernel
theorem dX7_locate_79 : decode cX7_locate 79 = .ok (.aaload, 1) := by decide +kernel
theorem dX7_locate_80 : decode cX7_locate 80 = .ok (.getfield 104, 3) := by decide +kernel
theorem dX7_locate_83 : decode cX7_locate 83 = .ok (.ifCond .eq 20, 3) := by decide +kernel
theorem dX7_locate_86 : decode cX7_locate 86 = .ok (.iload 4, 2) := by decide +kernel
theorem dX7_locate_88 : decode cX7_locate 88 = .ok (.iconst 1, 1) := by decide +kernel
theorem dX7_locate_89 : decode cX7_locate 89 = .ok (.iload 10, 2) := by decide +kernel
theorem dX7_locate_91 : decode cX7_locate 91 = .ok (.ineg, 1) := by decide +kernel
theorem dX7_locate_92 : decode cX7_locate 92 = .ok (.iload 9, 2) := by decide +kernel
theorem dX7_locate_94 : decode cX7_locate 94 = .ok (.invokestatic 121, 3) := by decide +kernel
theorem dX7_locate_97 : decode cX7_locate 97 = .ok (.isub, 1) := by decide +kernel
theorem dX7_locate_98 : decode cX7_locate 98 = .ok (.invokestatic 125, 3) := by decide +kernel
theorem dX7_locate_101 : decode cX7_locate 101 = .ok (.istore 4, 2) := by decide +kernel
theorem dX7_locate_103 : decode cX7_locate 103 = .ok (.iinc 9 1, 3) := by decide +kernel
theorem dX7_locate_106 : decode cX7_locate 106 = .ok (.goto (-80), 3) := by decide +kernel
theorem dX7_locate_109 : decode cX7_locate 109 = .ok (.aload_n 3, 1) := by decide +kernel
theorem dX7_locate_110 : decode cX7_locate 110 = .ok (.lconst 1, 1) := by decide +kernel
theorem dX7_locate_111 : decode cX7_locate 111 = .ok (.invokevirtual 56, 3) := by decide +kernel
theorem dX7_locate_114 : decode cX7_locate 114 = .ok (.aload_n 3, 1) := by decide +kernel
theorem dX7_locate_115 : decode cX7_locate 115 = .ok (.aload_n 3, 1) := by decide +kernel
theorem dX7_locate_116 : decode cX7_locate 116 = .ok (.iload 4, 2) := by decide +kernel
theorem dX7_locate_118 : decode cX7_locate 118 = .ok (.invokevirtual 128, 3) := by decide +kernel
theorem dX7_locate_121 : decode cX7_locate 121 = .ok (.aload_n 2, 1) := by decide +kernel
theorem dX7_locate_122 : decode cX7_locate 122 = .ok (.aload_n 3, 1) := by decide +kernel
theorem dX7_locate_123 : decode cX7_locate 123 = .ok (.invokevirtual 72, 3) := by decide +kernel
theorem dX7_locate_126 : decode cX7_locate 126 = .ok (.aload_n 2, 1) := by decide +kernel
theorem dX7_locate_127 : decode cX7_locate 127 = .ok (.invokevirtual 79, 3) := by decide +kernel
theorem dX7_locate_130 : decode cX7_locate 130 = .ok (.iconst 0, 1) := by decide +kernel
theorem dX7_locate_131 : decode cX7_locate 131 = .ok (.istore 9, 2) := by decide +kernel
theorem dX7_locate_133 : decode cX7_locate 133 = .ok (.iload 9, 2) := by decide +kernel
theorem dX7_locate_135 : decode cX7_locate 135 = .ok (.ldc 131, 2) := by decide +kernel
theorem dX7_locate_137 : decode cX7_locate 137 = .ok (.if_icmp .ge 120, 3) := by decide +kernel
theorem dX7_locate_140 : decode cX7_locate 140 = .ok (.iload 6, 2) := by decide +kernel
theorem dX7_locate_142 : decode cX7_locate 142 = .ok (.iload_n 1, 1) := by decide +kernel
theorem dX7_locate_143 : decode cX7_locate 143 = .ok (.if_icmp .ne 11, 3) := by decide +kernel
theorem dX7_locate_146 : decode cX7_locate 146 = .ok (.iload 7, 2) := by decide +kernel
theorem dX7_locate_148 : decode cX7_locate 148 = .ok (.iload_n 1, 1) := by decide +kernel
theorem dX7_locate_149 : decode cX7_locate 149 = .ok (.iconst 1, 1) := by decide +kernel
theorem dX7_locate_150 : decode cX7_locate 150 = .ok (.iadd, 1) := by decide +kernel
theorem dX7_locate_151 : decode cX7_locate 151 = .ok (.if_icmp .eq 106, 3) := by decide +kernel
theorem dX7_locate_154 : decode cX7_locate 154 = .ok (.aload_n 0, 1) := by decide +kernel
theorem dX7_locate_155 : decode cX7_locate 155 = .ok (.getfield 31, 3) := by decide +kernel
theorem dX7_locate_158 : decode cX7_locate 158 = .ok (.aload_n 2, 1) := by decide +kernel
theorem dX7_locate_159 : decode cX7_locate 159 = .ok (.aload_n 3, 1) := by decide +kernel
theorem dX7_locate_160 : decode cX7_locate 160 = .ok (.iconst 1, 1) := by decide +kernel
theorem dX7_locate_161 : decode cX7_locate 161 = .ok (.invokevirtual 132, 3) := by decide +kernel
theorem dX7_locate_164 : decode cX7_locate 164 = .ok (.aload_n 0, 1) := by decide +kernel
theorem dX7_locate_165 : decode cX7_locate 165 = .ok (.getfield 31, 3) := by decide +kernel
theorem dX7_locate_168 : decode cX7_locate 168 = .ok (.invokevirtual 135, 3) := by decide +kernel
theorem dX7_locate_171 : decode cX7_locate 171 = .ok (.ifCond .eq 21, 3) := by decide +kernel
theorem dX7_locate_174 : decode cX7_locate 174 = .ok (.aload_n 2, 1) := by decide +kernel
theorem dX7_locate_175 : decode cX7_locate 175 = .ok (.aload_n 2, 1) := by decide +kernel
theorem dX7_locate_176 : decode cX7_locate 176 = .ok (.iconst 1, 1) := by decide +kernel
theorem dX7_locate_177 : decode cX7_locate 177 = .ok (.invokevirtual 128, 3) := by decide +kernel
theorem dX7_locate_180 : decode cX7_locate 180 = .ok (.aload_n 3, 1) := by decide +kernel
theorem dX7_locate_181 : decode cX7_locate 181 = .ok (.aload_n 3, 1) := by decide +kernel
theorem dX7_locate_182 : decode cX7_locate 182 = .ok (.iconst 1, 1) := by decide +kernel
theorem dX7_locate_183 : decode cX7_locate 183 = .ok (.invokevirtual 128, 3) := by decide +kernel
theorem dX7_locate_186 : decode cX7_locate 186 = .ok (.iinc 5 1, 3) := by decide +kernel
theorem dX7_locate_189 : decode cX7_locate 189 = .ok (.goto 16, 3) := by decide +kernel
theorem dX7_locate_192 : decode cX7_locate 192 = .ok (.aload_n 0, 1) := by decide +kernel
theorem dX7_locate_193 : decode cX7_locate 193 = .ok (.getfield 31, 3) := by decide +kernel
theorem dX7_locate_196 : decode cX7_locate 196 = .ok (.aload_n 0, 1) := by decide +kernel
theorem dX7_locate_197 : decode cX7_locate 197 = .ok (.getfield 31, 3) := by decide +kernel
theorem dX7_locate_200 : decode cX7_locate 200 = .ok (.iconst 1, 1) := by decide +kernel
theorem dX7_locate_201 : decode cX7_locate 201 = .ok (.iconst 0, 1) := by decide +kernel
theorem dX7_locate_202 : decode cX7_locate 202 = .ok (.invokevirtual 139, 3) := by decide +kernel
theorem dX7_locate_205 : decode cX7_locate 205 = .ok (.aload_n 0, 1) := by decide +kernel
theorem dX7_locate_206 : decode cX7_locate 206 = .ok (.aload_n 0, 1) := by decide +kernel
theorem dX7_locate_207 : decode cX7_locate 207 = .ok (.getfield 31, 3) := by decide +kernel
theorem dX7_locate_210 : decode cX7_locate 210 = .ok (.aconst_null, 1) := by decide +kernel
theorem dX7_locate_211 : decode cX7_locate 211 = .ok (.iload 5, 2) := by decide +kernel
theorem dX7_locate_213 : decode cX7_locate 213 = .ok (.invokevirtual 143, 3) := by decide +kernel
theorem dX7_locate_216 : decode cX7_locate 216 = .ok (.istore 10, 2) := by decide +kernel
theorem dX7_locate_218 : decode cX7_locate 218 = .ok (.iload 10, 2) := by decide +kernel
theorem dX7_locate_220 : decode cX7_locate 220 = .ok (.iload_n 1, 1) := by decide +kernel
theorem dX7_locate_221 : decode cX7_locate 221 = .ok (.if_icmp .le 18, 3) := by decide +kernel
theorem dX7_locate_224 : decode cX7_locate 224 = .ok (.aload_n 3, 1) := by decide +kernel
theorem dX7_locate_225 : decode cX7_locate 225 = .ok (.aload_n 0, 1) := by decide +kernel
theorem dX7_locate_226 : decode cX7_locate 226 = .ok (.getfield 31, 3) := by decide +kernel
theorem dX7_locate_229 : decode cX7_locate 229 = .ok (.invokevirtual 72, 3) := by decide +kernel
theorem dX7_locate_232 : decode cX7_locate 232 = .ok (.iload 10, 2) := by decide +kernel
theorem dX7_locate_234 : decode cX7_locate 234 = .ok (.istore 7, 2) := by decide +kernel
theorem dX7_locate_236 : decode cX7_locate 236 = .ok (.goto 15, 3) := by decide +kernel
theorem dX7_locate_239 : decode cX7_locate 239 = .ok (.aload_n 2, 1) := by decide +kernel
theorem dX7_locate_240 : decode cX7_locate 240 = .ok (.aload_n 0, 1) := by decide +kernel
theorem dX7_locate_241 : decode cX7_locate 241 = .ok (.getfield 31, 3) := by decide +kernel
theorem dX7_locate_244 : decode cX7_locate 244 = .ok (.invokevirtual 72, 3) := by decide +kernel
theorem dX7_locate_247 : decode cX7_locate 247 = .ok (.iload 10, 2) := by decide +kernel
theorem dX7_locate_249 : decode cX7_locate 249 = .ok (.istore 6, 2) := by decide +kernel
theorem dX7_locate_251 : decode cX7_locate 251 = .ok (.iinc 9 1, 3) := by decide +kernel
theorem dX7_locate_254 : decode cX7_locate 254 = .ok (.goto (-121), 3) := by decide +kernel
theorem dX7_locate_257 : decode cX7_locate 257 = .ok (.iload 5, 2) := by decide +kernel
theorem dX7_locate_259 : decode cX7_locate 259 = .ok (.ireturn, 1) := by decide +kernel
theorem dX8_init_0 : decode cX8_init 0 = .ok (.aload_n 0, 1) := by decide +kernel
theorem dX8_init_1 : decode cX8_init 1 = .ok (.invokespecial 3, 3) := by decide +kernel
theorem dX8_init_4 : decode cX8_init 4 = .ok (.aload_n 0, 1) := by decide +kernel
theorem dX8_init_5 : decode cX8_init 5 = .ok (.sipush 300, 3) := by decide +kernel
theorem dX8_init_8 : decode cX8_init 8 = .ok (.newarray .int, 2) := by decide +kernel
theorem dX8_init_10 : decode cX8_init 10 = .ok (.putfield 9, 3) := by decide +kernel
theorem dX8_init_13 : decode cX8_init 13 = .ok (.aload_n 0, 1) := by decide +kernel
theorem dX8_init_14 : decode cX8_init 14 = .ok (.sipush 1200, 3) := by decide +kernel
theorem dX8_init_17 : decode cX8_init 17 = .ok (.newarray .int, 2) := by decide +kernel
theorem dX8_init_19 : decode cX8_init 19 = .ok (.putfield 15, 3) := by decide +kernel
theorem dX8_init_22 : decode cX8_init 22 = .ok (.aload_n 0, 1) := by decide +kernel
theorem dX8_init_23 : decode cX8_init 23 = .ok (.sipush 640, 3) := by decide +kernel
theorem dX8_init_26 : decode cX8_init 26 = .ok (.newarray .int, 2) := by decide +kernel
theorem dX8_init_28 : decode cX8_init 28 = .ok (.putfield 18, 3) := by decide +kernel
theorem dX8_init_31 : decode cX8_init 31 = .ok (.aload_n 0, 1) := by decide +kernel
theorem dX8_init_32 : decode cX8_init 32 = .ok (.sipush 640, 3) := by decide +kernel
theorem dX8_init_35 : decode cX8_init 35 = .ok (.newarray .int, 2) := by decide +kernel
theorem dX8_init_37 : decode cX8_init 37 = .ok (.putfield 21, 3) := by decide +kernel
theorem dX8_init_40 : decode cX8_init 40 = .ok (.aload_n 0, 1) := by decide +kernel
theorem dX8_init_41 : decode cX8_init 41 = .ok (.sipush 640, 3) := by decide +kernel
theorem dX8_init_44 : decode cX8_init 44 = .ok (.newarray .int, 2) := by decide +kernel
theorem dX8_init_46 : decode cX8_init 46 = .ok (.putfield 24, 3) := by decide +kernel
theorem dX8_init_49 : decode cX8_init 49 = .ok (.aload_n 0, 1) := by decide +kernel
theorem dX8_init_50 : decode cX8_init 50 = .ok (.new 27, 3) := by decide +kernel
theorem dX8_init_53 : decode cX8_init 53 = .ok (.dup, 1) := by decide +kernel
theorem dX8_init_54 : decode cX8_init 54 = .ok (.invokespecial 29, 3) := by decide +kernel
theorem dX8_init_57 : decode cX8_init 57 = .ok (.putfield 30, 3) := by decide +kernel
theorem dX8_init_60 : decode cX8_init 60 = .ok (.return_, 1) := by decide +kernel
theorem dX8_take_0 : decode cX8_take 0 = .ok (.bipush 24, 2) := by decide +kernel
theorem dX8_take_2 : decode cX8_take 2 = .ok (.istore_n 2, 1) := by decide +kernel
theorem dX8_take_3 : decode cX8_take 3 = .ok (.iload_n 2, 1) := by decide +kernel
theorem dX8_take_4 : decode cX8_take 4 = .ok (.ifCond .lt 44, 3) := by decide +kernel
theorem dX8_take_7 : decode cX8_take 7 = .ok (.aload_n 0, 1) := by decide +kernel
theorem dX8_take_8 : decode cX8_take 8 = .ok (.getfield 34, 3) := by decide +kernel
theorem dX8_take_11 : decode cX8_take 11 = .ok (.aload_n 0, 1) := by decide +kernel
theorem dX8_take_12 : decode cX8_take 12 = .ok (.getfield 9, 3) := by decide +kernel
theorem dX8_take_15 : decode cX8_take 15 = .ok (.arraylength, 1) := by decide +kernel
theorem dX8_take_16 : decode cX8_take 16 = .ok (.if_icmp .ge 32, 3) := by decide +kernel
theorem dX8_take_19 : decode cX8_take 19 = .ok (.aload_n 0, 1) := by decide +kernel
theorem dX8_take_20 : decode cX8_take 20 = .ok (.getfield 9, 3) := by decide +kernel
theorem dX8_take_23 : decode cX8_take 23 = .ok (.aload_n 0, 1) := by decide +kernel
theorem dX8_take_24 : decode cX8_take 24 = .ok (.dup, 1) := by decide +kernel
theorem dX8_take_25 : decode cX8_take 25 = .ok (.getfield 34, 3) := by decide +kernel
theorem dX8_take_28 : decode cX8_take 28 = .ok (.dup_x1, 1) := by decide +kernel
theorem dX8_take_29 : decode cX8_take 29 = .ok (.iconst 1, 1) := by decide +kernel
theorem dX8_take_30 : decode cX8_take 30 = .ok (.iadd, 1) := by decide +kernel
theorem dX8_take_31 : decode cX8_take 31 = .ok (.putfield 34, 3) := by decide +kernel
theorem dX8_take_34 : decode cX8_take 34 = .ok (.iload_n 1, 1) := by decide +kernel
theorem dX8_take_35 : decode cX8_take 35 = .ok (.iload_n 2, 1) := by decide +kernel
theorem dX8_take_36 : decode cX8_take 36 = .ok (.iushr, 1) := by decide +kernel
theorem dX8_take_37 : decode cX8_take 37 = .ok (.sipush 255, 3) := by decide +kernel
theorem dX8_take_40 : decode cX8_take 40 = .ok (.iand, 1) := by decide +kernel
theorem dX8_take_41 : decode cX8_take 41 = .ok (.iastore, 1) := by decide +kernel
theorem dX8_take_42 : decode cX8_take 42 = .ok (.iinc 2 (-8), 3) := by decide +kernel
theorem dX8_take_45 : decode cX8_take 45 = .ok (.goto (-42), 3) := by decide +kernel
theorem dX8_take_48 : decode cX8_take 48 = .ok (.return_, 1) := by decide +kernel
theorem dX8_parse_0 : decode cX8_parse 0 = .ok (.aload_n 0, 1) := by decide +kernel
theorem dX8_parse_1 : decode cX8_parse 1 = .ok (.iload_n 1, 1) := by decide +kernel
theorem dX8_parse_2 : decode cX8_parse 2 = .ok (.putfield 38, 3) := by decide +kernel
theorem dX8_parse_5 : decode cX8_parse 5 = .ok (.aload_n 0, 1) := by decide +kernel
theorem dX8_parse_6 : decode cX8_parse 6 = .ok (.iconst 0, 1) := by decide +kernel
theorem dX8_parse_7 : decode cX8_parse 7 = .ok (.putfield 41, 3) := by decide +kernel
theorem dX8_parse_10 : decode cX8_parse 10 = .ok (.aload_n 0, 1) := by decide +kernel
theorem dX8_parse_11 : decode cX8_parse 11 = .ok (.iconst 0, 1) := by decide +kernel
theorem dX8_parse_12 : decode cX8_parse 12 = .ok (.putfield 44, 3) := by decide +kernel
theorem dX8_parse_15 : decode cX8_parse 15 = .ok (.aload_n 0, 1) := by decide +kernel
theorem dX8_parse_16 : decode cX8_parse 16 = .ok (.iconst (-1), 1) := by decide +kernel
theorem dX8_parse_17 : decode cX8_parse 17 = .ok (.putfield 47, 3) := by decide +kernel
theorem dX8_parse_20 : decode cX8_parse 20 = .ok (.aload_n 0, 1) := by decide +kernel
theorem dX8_parse_21 : decode cX8_parse 21 = .ok (.invokevirtual 50, 3) := by decide +kernel
theorem dX8_parse_24 : decode cX8_parse 24 = .ok (.aload_n 0, 1) := by decide +kernel
theorem dX8_parse_25 : decode cX8_parse 25 = .ok (.iconst 0, 1) := by decide +kernel
theorem dX8_parse_26 : decode cX8_parse 26 = .ok (.invokevirtual 53, 3) := by decide +kernel
theorem dX8_parse_29 : decode cX8_parse 29 = .ok (.ifCond .eq 16, 3) := by decide +kernel
theorem dX8_parse_32 : decode cX8_parse 32 = .ok (.aload_n 0, 1) := by decide +kernel
theorem dX8_parse_33 : decode cX8_parse 33 = .ok (.getfield 57, 3) := by decide +kernel
theorem dX8_parse_36 : decode cX8_parse 36 = .ok (.iconst (-1), 1) := by decide +kernel
theorem dX8_parse_37 : decode cX8_parse 37 = .ok (.if_icmp .eq 8, 3) := by decide +kernel
theorem dX8_parse_40 : decode cX8_parse 40 = .ok (.aload_n 0, 1) := by decide +kernel
theorem dX8_parse_41 : decode cX8_parse 41 = .ok (.invokevirtual 60, 3) := by decide +kernel
theorem dX8_parse_44 : decode cX8_parse 44 = .ok (.pop, 1) := by decide +kernel
theorem dX8_parse_45 : decode cX8_parse 45 = .ok (.aload_n 0, 1) := by decide +kernel
theorem dX8_parse_46 : decode cX8_parse 46 = .ok (.iconst 0, 1) := by decide +kernel
theorem dX8_parse_47 : decode cX8_parse 47 = .ok (.putfield 34, 3) := by decide +kernel
theorem dX8_parse_50 : decode cX8_parse 50 = .ok (.aload_n 0, 1) := by decide +kernel
theorem dX8_parse_51 : decode cX8_parse 51 = .ok (.getfield 47, 3) := by decide +kernel
theorem dX8_parse_54 : decode cX8_parse 54 = .ok (.ireturn, 1) := by decide +kernel
theorem dX8_refuse_0 : decode cX8_refuse 0 = .ok (.aload_n 0, 1) := by decide +kernel
theorem dX8_refuse_1 : decode cX8_refuse 1 = .ok (.aload_n 0, 1) := by decide +kernel
theorem dX8_refuse_2 : decode cX8_refuse 2 = .ok (.getfield 64, 3) := by decide +kernel
theorem dX8_refuse_5 : decode cX8_refuse 5 = .ok (.putfield 47, 3) := by decide +kernel
theorem dX8_refuse_8 : decode cX8_refuse 8 = .ok (.iconst 0, 1) := by decide +kernel
theorem dX8_refuse_9 : decode cX8_refuse 9 = .ok (.ireturn, 1) := by decide +kernel
theorem dX8_advance_0 : decode cX8_advance 0 = .ok (.aload_n 0, 1) := by decide +kernel
theorem dX8_advance_1 : decode cX8_advance 1 = .ok (.getfield 41, 3) := by decide +kernel
theorem dX8_advance_4 : decode cX8_advance 4 = .ok (.aload_n 0, 1) := by decide +kernel
theorem dX8_advance_5 : decode cX8_advance 5 = .ok (.getfield 34, 3) := by decide +kernel
theorem dX8_advance_8 : decode cX8_advance 8 = .ok (.if_icmp .ge 30, 3) := by decide +kernel
theorem dX8_advance_11 : decode cX8_advance 11 = .ok (.aload_n 0, 1) := by decide +kernel
theorem dX8_advance_12 : decode cX8_advance 12 = .ok (.getfield 9, 3) := by decide +kernel
theorem dX8_advance_15 : decode cX8_advance 15 = .ok (.aload_n 0, 1) := by decide +kernel
theorem dX8_advance_16 : decode cX8_advance 16 = .ok (.getfield 41, 3) := by decide +kernel
theorem dX8_advance_19 : decode cX8_advance 19 = .ok (.iaload, 1) := by decide +kernel
theorem dX8_advance_20 : decode cX8_advance 20 = .ok (.bipush 32, 2) := by decide +kernel
theorem dX8_advance_22 : decode cX8_advance 22 = .ok (.if_icmp .ne 16, 3) := by decide +kernel
theorem dX8_advance_25 : decode cX8_advance 25 = .ok (.aload_n 0, 1) := by decide +kernel
theorem dX8_advance_26 : decode cX8_advance 26 = .ok (.dup, 1) := by decide +kernel
theorem dX8_advance_27 : decode cX8_advance 27 = .ok (.getfield 41, 3) := by decide +kernel
theorem dX8_advance_30 : decode cX8_advance 30 = .ok (.iconst 1, 1) := by decide +kernel
theorem dX8_advance_31 : decode cX8_advance 31 = .ok (.iadd, 1) := by decide +kernel
theorem dX8_advance_32 : decode cX8_advance 32 = .ok (.putfield 41, 3) := by decide +kernel
theorem dX8_advance_35 : decode cX8_advance 35 = .ok (.goto (-35), 3) := by decide +kernel
theorem dX8_advance_38 : decode cX8_advance 38 = .ok (.aload_n 0, 1) := by decide +kernel
theorem dX8_advance_39 : decode cX8_advance 39 = .ok (.aload_n 0, 1) := by decide +kernel
theorem dX8_advance_40 : decode cX8_advance 40 = .ok (.getfield 41, 3) := by decide +kernel
theorem dX8_advance_43 : decode cX8_advance 43 = .ok (.putfield 64, 3) := by decide +kernel
theorem dX8_advance_46 : decode cX8_advance 46 = .ok (.aload_n 0, 1) := by decide +kernel
theorem dX8_advance_47 : decode cX8_advance 47 = .ok (.getfield 41, 3) := by decide +kernel
theorem dX8_advance_50 : decode cX8_advance 50 = .ok (.aload_n 0, 1) := by decide +kernel
theorem dX8_advance_51 : decode cX8_advance 51 = .ok (.getfield 34, 3) := by decide +kernel
theorem dX8_advance_54 : decode cX8_advance 54 = .ok (.if_icmp .lt 9, 3) := by decide +kernel
theorem dX8_advance_57 : decode cX8_advance 57 = .ok (.aload_n 0, 1) := by decide +kernel
theorem dX8_advance_58 : decode cX8_advance 58 = .ok (.iconst (-1), 1) := by decide +kernel
theorem dX8_advance_59 : decode cX8_advance 59 = .ok (.putfield 57, 3) := by decide +kernel
theorem dX8_advance_62 : decode cX8_advance 62 = .ok (.return_, 1) := by decide +kernel
theorem dX8_advance_63 : decode cX8_advance 63 = .ok (.aload_n 0, 1) := by decide +kernel
theorem dX8_advance_64 : decode cX8_advance 64 = .ok (.aload_n 0, 1) := by decide +kernel
theorem dX8_advance_65 : decode cX8_advance 65 = .ok (.getfield 9, 3) := by decide +kernel
theorem dX8_advance_68 : decode cX8_advance 68 = .ok (.aload_n 0, 1) := by decide +kernel
theorem dX8_advance_69 : decode cX8_advance 69 = .ok (.getfield 41, 3) := by decide +kernel
theorem dX8_advance_72 : decode cX8_advance 72 = .ok (.iaload, 1) := by decide +kernel
theorem dX8_advance_73 : decode cX8_advance 73 = .ok (.putfield 57, 3) := by decide +kernel
theorem dX8_advance_76 : decode cX8_advance 76 = .ok (.aload_n 0, 1) := by decide +kernel
theorem dX8_advance_77 : decode cX8_advance 77 = .ok (.dup, 1) := by decide +kernel
theorem dX8_advance_78 : decode cX8_advance 78 = .ok (.getfield 41, 3) := by decide +kernel
theorem dX8_advance_81 : decode cX8_advance 81 = .ok (.iconst 1, 1) := by decide +kernel
theorem dX8_advance_82 : decode cX8_advance 82 = .ok (.iadd, 1) := by decide +kernel
theorem dX8_advance_83 : decode cX8_advance 83 = .ok (.putfield 41, 3) := by decide +kernel
theorem dX8_advance_86 : decode cX8_advance 86 = .ok (.aload_n 0, 1) := by decide +kernel
theorem dX8_advance_87 : decode cX8_advance 87 = .ok (.getfield 57, 3) := by decide +kernel
theorem dX8_advance_90 : decode cX8_advance 90 = .ok (.invokestatic 67, 3) := by decide +kernel
theorem dX8_advance_93 : decode cX8_advance 93 = .ok (.ifCond .eq 108, 3) := by decide +kernel
theorem dX8_advance_96 : decode cX8_advance 96 = .ok (.aload_n 0, 1) := by decide +kernel
theorem dX8_advance_97 : decode cX8_advance 97 = .ok (.aload_n 0, 1) := by decide +kernel
theorem dX8_advance_98 : decode cX8_advance 98 = .ok (.getfield 57, 3) := by decide +kernel
theorem dX8_advance_101 : decode cX8_advance 101 = .ok (.bipush 48, 2) := by decide +kernel
theorem dX8_advance_103 : decode cX8_advance 103 = .ok (.isub, 1) := by decide +kernel
theorem dX8_advance_104 : decode cX8_advance 104 = .ok (.putfield 70, 3) := by decide +kernel
theorem dX8_advance_107 : decode cX8_advance 107 = .ok (.iconst 1, 1) := by decide +kernel
theorem dX8_advance_108 : decode cX8_advance 108 = .ok (.istore_n 1, 1) := by decide +kernel
theorem dX8_advance_109 : decode cX8_advance 109 = .ok (.aload_n 0, 1) := by decide +kernel
theorem dX8_advance_110 : decode cX8_advance 110 = .ok (.getfield 41, 3) := by decide +kernel
theorem dX8_advance_113 : decode cX8_advance 113 = .ok (.aload_n 0, 1) := by decide +kernel
theorem dX8_advance_114 : decode cX8_advance 114 = .ok (.getfield 34, 3) := by decide +kernel
theorem dX8_advance_117 : decode cX8_advance 117 = .ok (.if_icmp .ge 64, 3) := by decide +kernel
theorem dX8_advance_120 : decode cX8_advance 120 = .ok (.aload_n 0, 1) := by decide +kernel
theorem dX8_advance_121 : decode cX8_advance 121 = .ok (.getfield 9, 3) := by decide +kernel
theorem dX8_advance_124 : decode cX8_advance 124 = .ok (.aload_n 0, 1) := by decide +kernel
theorem dX8_advance_125 : decode cX8_advance 125 = .ok (.getfield 41, 3) := by decide +kernel
theorem dX8_advance_128 : decode cX8_advance 128 = .ok (.iaload, 1) := by decide +kernel
theorem dX8_advance_129 : decode cX8_advance 129 = .ok (.invokestatic 67, 3) := by decide +kernel
theorem dX8_advance_132 : decode cX8_advance 132 = .ok (.ifCond .eq 49, 3) := by decide +kernel
theorem dX8_advance_135 : decode cX8_advance 135 = .ok (.iinc 1 1, 3) := by decide +kernel
theorem dX8_advance_138 : decode cX8_advance 138 = .ok (.iload_n 1, 1) := by decide +kernel
theorem dX8_advance_139 : decode cX8_advance 139 = .ok (.bipush 9, 2) := by decide +kernel
theorem dX8_advance_141 : decode cX8_advance 141 = .ok (.if_icmp .gt 27, 3) := by decide +kernel
theorem dX8_advance_144 : decode cX8_advance 144 = .ok (.aload_n 0, 1) := by decide +kernel
theorem dX8_advance_145 : decode cX8_advance 145 = .ok (.aload_n 0, 1) := by decide +kernel
theorem dX8_advance_146 : decode cX8_advance 146 = .ok (.getfield 70, 3) := by decide +kernel
theorem dX8_advance_149 : decode cX8_advance 149 = .ok (.bipush 10, 2) := by decide +kernel
theorem dX8_advance_151 : decode cX8_advance 151 = .ok (.imul, 1) := by decide +kernel
theorem dX8_advance_152 : decode cX8_advance 152 = .ok (.aload_n 0, 1) := by decide +kernel
theorem dX8_advance_153 : decode cX8_advance 153 = .ok (.getfield 9, 3) := by decide +kernel
theorem dX8_advance_156 : decode cX8_advance 156 = .ok (.aload_n 0, 1) := by decide +kernel
theorem dX8_advance_157 : decode cX8_advance 157 = .ok (.getfield 41, 3) := by decide +kernel
theorem dX8_advance_160 : decode cX8_advance 160 = .ok (.iaload, 1) := by decide +kernel
theorem dX8_advance_161 : decode cX8_advance 161 = .ok (.iadd, 1) := by decide +kernel
theorem dX8_advance_162 : decode cX8_advance 162 = .ok (.bipush 48, 2) := by decide +kernel
theorem dX8_advance_164 : decode cX8_advance 164 = .ok (.isub, 1) := by decide +kernel
theorem dX8_advance_165 : decode cX8_advance 165 = .ok (.putfield 70, 3) := by decide +kernel
theorem dX8_advance_168 : decode cX8_advance 168 = .ok (.aload_n 0, 1) := by decide +kernel
theorem dX8_advance_169 : decode cX8_advance 169 = .ok (.dup, 1) := by decide +kernel
theorem dX8_advance_170 : decode cX8_advance 170 = .ok (.getfield 41, 3) := by decide +kernel
theorem dX8_advance_173 : decode cX8_advance 173 = .ok (.iconst 1, 1) := by decide +kernel
theorem dX8_advance_174 : decode cX8_advance 174 = .ok (.iadd, 1) := by decide +kernel
theorem dX8_advance_175 : decode cX8_advance 175 = .ok (.putfield 41, 3) := by decide +kernel
theorem dX8_advance_178 : decode cX8_advance 178 = .ok (.goto (-69), 3) := by decide +kernel
theorem dX8_advance_181 : decode cX8_advance 181 = .ok (.aload_n 0, 1) := by decide +kernel
theorem dX8_advance_182 : decode cX8_advance 182 = .ok (.iload_n 1, 1) := by decide +kernel
theorem dX8_advance_183 : decode cX8_advance 183 = .ok (.bipush 9, 2) := by decide +kernel
theorem dX8_advance_185 : decode cX8_advance 185 = .ok (.if_icmp .le 8, 3) := by decide +kernel
theorem dX8_advance_188 : decode cX8_advance 188 = .ok (.bipush (-2), 2) := by decide +kernel
theorem dX8_advance_190 : decode cX8_advance 190 = .ok (.goto 5, 3) := by decide +kernel
theorem dX8_advance_193 : decode cX8_advance 193 = .ok (.bipush 48, 2) := by decide +kernel
theorem dX8_advance_195 : decode cX8_advance 195 = .ok (.putfield 57, 3) := by decide +kernel
theorem dX8_advance_198 : decode cX8_advance 198 = .ok (.goto 19, 3) := by decide +kernel
theorem dX8_advance_201 : decode cX8_advance 201 = .ok (.aload_n 0, 1) := by decide +kernel
theorem dX8_advance_202 : decode cX8_advance 202 = .ok (.getfield 57, 3) := by decide +kernel
theorem dX8_advance_205 : decode cX8_advance 205 = .ok (.invokestatic 73, 3) := by decide +kernel
theorem dX8_advance_208 : decode cX8_advance 208 = .ok (.ifCond .ne 9, 3) := by decide +kernel
theorem dX8_advance_211 : decode cX8_advance 211 = .ok (.aload_n 0, 1) := by decide +kernel
theorem dX8_advance_212 : decode cX8_advance 212 = .ok (.bipush (-2), 2) := by decide +kernel
theorem dX8_advance_214 : decode cX8_advance 214 = .ok (.putfield 57, 3) := by decide +kernel
theorem dX8_advance_217 : decode cX8_advance 217 = .ok (.return_, 1) := by decide +kernel
theorem dX8_minus_0 : decode cX8_minus 0 = .ok (.aload_n 0, 1) := by decide +kernel
theorem dX8_minus_1 : decode cX8_minus 1 = .ok (.getfield 57, 3) := by decide +kernel
theorem dX8_minus_4 : decode cX8_minus 4 = .ok (.bipush 45, 2) := by decide +kernel
theorem dX8_minus_6 : decode cX8_minus 6 = .ok (.if_icmp .eq 5, 3) := by decide +kernel
theorem dX8_minus_9 : decode cX8_minus 9 = .ok (.iconst 0, 1) := by decide +kernel
theorem dX8_minus_10 : decode cX8_minus 10 = .ok (.ireturn, 1) := by decide +kernel
theorem dX8_minus_11 : decode cX8_minus 11 = .ok (.aload_n 0, 1) := by decide +kernel
theorem dX8_minus_12 : decode cX8_minus 12 = .ok (.invokevirtual 50, 3) := by decide +kernel
theorem dX8_minus_15 : decode cX8_minus 15 = .ok (.iconst 1, 1) := by decide +kernel
theorem dX8_minus_16 : decode cX8_minus 16 = .ok (.ireturn, 1) := by decide +kernel
theorem dX8_sum_0 : decode cX8_sum 0 = .ok (.aload_n 0, 1) := by decide +kernel
theorem dX8_sum_1 : decode cX8_sum 1 = .ok (.invokevirtual 76, 3) := by decide +kernel
theorem dX8_sum_4 : decode cX8_sum 4 = .ok (.istore_n 2, 1) := by decide +kernel
theorem dX8_sum_5 : decode cX8_sum 5 = .ok (.aload_n 0, 1) := by decide +kernel
theorem dX8_sum_6 : decode cX8_sum 6 = .ok (.iload_n 1, 1) := by decide +kernel
theorem dX8_sum_7 : decode cX8_sum 7 = .ok (.invokevirtual 79, 3) := by decide +kernel
theorem dX8_sum_10 : decode cX8_sum 10 = .ok (.ifCond .ne 5, 3) := by decide +kernel
theorem dX8_sum_13 : decode cX8_sum 13 = .ok (.iconst 0, 1) := by decide +kernel
theorem dX8_sum_14 : decode cX8_sum 14 = .ok (.ireturn, 1) := by decide +kernel
theorem dX8_sum_15 : decode cX8_sum 15 = .ok (.iload_n 2, 1) := by decide +kernel
theorem dX8_sum_16 : decode cX8_sum 16 = .ok (.ifCond .eq 11, 3) := by decide +kernel
theorem dX8_sum_19 : decode cX8_sum 19 = .ok (.aload_n 0, 1) := by decide +kernel
theorem dX8_sum_20 : decode cX8_sum 20 = .ok (.bipush 6, 2) := by decide +kernel
theorem dX8_sum_22 : decode cX8_sum 22 = .ok (.iconst 0, 1) := by decide +kernel
theorem dX8_sum_23 : decode cX8_sum 23 = .ok (.iconst 0, 1) := by decide +kernel
theorem dX8_sum_24 : decode cX8_sum 24 = .ok (.invokevirtual 82, 3) := by decide +kernel
theorem dX8_sum_27 : decode cX8_sum 27 = .ok (.iconst 0, 1) := by decide +kernel
theorem dX8_sum_28 : decode cX8_sum 28 = .ok (.istore_n 3, 1) := by decide +kernel
theorem dX8_sum_29 : decode cX8_sum 29 = .ok (.iload_n 3, 1) := by decide +kernel
theorem dX8_sum_30 : decode cX8_sum 30 = .ok (.aload_n 0, 1) := by decide +kernel
theorem dX8_sum_31 : decode cX8_sum 31 = .ok (.getfield 9, 3) := by decide +kernel
theorem dX8_sum_34 : decode cX8_sum 34 = .ok (.arraylength, 1) := by decide +kernel
theorem dX8_sum_35 : decode cX8_sum 35 = .ok (.if_icmp .ge 65, 3) := by decide +kernel
theorem dX8_sum_38 : decode cX8_sum 38 = .ok (.aload_n 0, 1) := by decide +kernel
theorem dX8_sum_39 : decode cX8_sum 39 = .ok (.getfield 57, 3) := by decide +kernel
theorem dX8_sum_42 : decode cX8_sum 42 = .ok (.bipush 43, 2) := by decide +kernel
theorem dX8_sum_44 : decode cX8_sum 44 = .ok (.if_icmp .eq 12, 3) := by decide +kernel
theorem dX8_sum_47 : decode cX8_sum 47 = .ok (.aload_n 0, 1) := by decide +kernel
theorem dX8_sum_48 : decode cX8_sum 48 = .ok (.getfield 57, 3) := by decide +kernel
theorem dX8_sum_51 : decode cX8_sum 51 = .ok (.bipush 45, 2) := by decide +kernel
theorem dX8_sum_53 : decode cX8_sum 53 = .ok (.if_icmp .ne 47, 3) := by decide +kernel
theorem dX8_sum_56 : decode cX8_sum 56 = .ok (.aload_n 0, 1) := by decide +kernel
theorem dX8_sum_57 : decode cX8_sum 57 = .ok (.getfield 57, 3) := by decide +kernel
theorem dX8_sum_60 : decode cX8_sum 60 = .ok (.bipush 43, 2) := by decide +kernel
theorem dX8_sum_62 : decode cX8_sum 62 = .ok (.if_icmp .ne 7, 3) := by decide +kernel
theorem dX8_sum_65 : decode cX8_sum 65 = .ok (.iconst 0, 1) := by decide +kernel
theorem dX8_sum_66 : decode cX8_sum 66 = .ok (.goto 4, 3) := by decide +kernel
theorem dX8_sum_69 : decode cX8_sum 69 = .ok (.iconst 1, 1) := by decide +kernel
theorem dX8_sum_70 : decode cX8_sum 70 = .ok (.istore 4, 2) := by decide +kernel
theorem dX8_sum_72 : decode cX8_sum 72 = .ok (.aload_n 0, 1) := by decide +kernel
theorem dX8_sum_73 : decode cX8_sum 73 = .ok (.invokevirtual 50, 3) := by decide +kernel
theorem dX8_sum_76 : decode cX8_sum 76 = .ok (.aload_n 0, 1) := by decide +kernel
theorem dX8_sum_77 : decode cX8_sum 77 = .ok (.iload_n 1, 1) := by decide +kernel
theorem dX8_sum_78 : decode cX8_sum 78 = .ok (.invokevirtual 79, 3) := by decide +kernel
theorem dX8_sum_81 : decode cX8_sum 81 = .ok (.ifCond .ne 5, 3) := by decide +kernel
theorem dX8_sum_84 : decode cX8_sum 84 = .ok (.iconst 0, 1) := by decide +kernel
theorem dX8_sum_85 : decode cX8_sum 85 = .ok (.ireturn, 1) := by decide +kernel
theorem dX8_sum_86 : decode cX8_sum 86 = .ok (.aload_n 0, 1) := by decide +kernel
theorem dX8_sum_87 : decode cX8_sum 87 = .ok (.iload 4, 2) := by decide +kernel
theorem dX8_sum_89 : decode cX8_sum 89 = .ok (.iconst 0, 1) := by decide +kernel
theorem dX8_sum_90 : decode cX8_sum 90 = .ok (.iconst 0, 1) := by decide +kernel
theorem dX8_sum_91 : decode cX8_sum 91 = .ok (.invokevirtual 82, 3) := by decide +kernel
theorem dX8_sum_94 : decode cX8_sum 94 = .ok (.iinc 3 1, 3) := by decide +kernel
theorem dX8_sum_97 : decode cX8_sum 97 = .ok (.goto (-68), 3) := by decide +kernel
theorem dX8_sum_100 : decode cX8_sum 100 = .ok (.iconst 1, 1) := by decide +kernel
theorem dX8_sum_101 : decode cX8_sum 101 = .ok (.ireturn, 1) := by decide +kernel
theorem dX8_product_0 : decode cX8_product 0 = .ok (.aload_n 0, 1) := by decide +kernel
theorem dX8_product_1 : decode cX8_product 1 = .ok (.iload_n 1, 1) := by decide +kernel
theorem dX8_product_2 : decode cX8_product 2 = .ok (.invokevirtual 86, 3) := by decide +kernel
theorem dX8_product_5 : decode cX8_product 5 = .ok (.ifCond .ne 5, 3) := by decide +kernel
theorem dX8_product_8 : decode cX8_product 8 = .ok (.iconst 0, 1) := by decide +kernel
theorem dX8_product_9 : decode cX8_product 9 = .ok (.ireturn, 1) := by decide +kernel
theorem dX8_product_10 : decode cX8_product 10 = .ok (.iconst 0, 1) := by decide +kernel
theorem dX8_product_11 : decode cX8_product 11 = .ok (.istore_n 2, 1) := by decide +kernel
theorem dX8_product_12 : decode cX8_product 12 = .ok (.iload_n 2, 1) := by decide +kernel
theorem dX8_product_13 : decode cX8_product 13 = .ok (.aload_n 0, 1) := by decide +kernel
theorem dX8_product_14 : decode cX8_product 14 = .ok (.getfield 9, 3) := by decide +kernel
theorem dX8_product_17 : decode cX8_product 17 = .ok (.arraylength, 1) := by decide +kernel
theorem dX8_product_18 : decode cX8_product 18 = .ok (.if_icmp .ge 63, 3) := by decide +kernel
theorem dX8_product_21 : decode cX8_product 21 = .ok (.aload_n 0, 1) := by decide +kernel
theorem dX8_product_22 : decode cX8_product 22 = .ok (.getfield 57, 3) := by decide +kernel
theorem dX8_product_25 : decode cX8_product 25 = .ok (.bipush 42, 2) := by decide +kernel
theorem dX8_product_27 : decode cX8_product 27 = .ok (.if_icmp .eq 12, 3) := by decide +kernel
theorem dX8_product_30 : decode cX8_product 30 = .ok (.aload_n 0, 1) := by decide +kernel
theorem dX8_product_31 : decode cX8_product 31 = .ok (.getfield 57, 3) := by decide +kernel
theorem dX8_product_34 : decode cX8_product 34 = .ok (.bipush 47, 2) := by decide +kernel
theorem dX8_product_36 : decode cX8_product 36 = .ok (.if_icmp .ne 45, 3) := by decide +kernel
theorem dX8_product_39 : decode cX8_product 39 = .ok (.aload_n 0, 1) := by decide +kernel
theorem dX8_product_40 : decode cX8_product 40 = .ok (.getfield 57, 3) := by decide +kernel
theorem dX8_product_43 : decode cX8_product 43 = .ok (.bipush 42, 2) := by decide +kernel
theorem dX8_product_45 : decode cX8_product 45 = .ok (.if_icmp .ne 7, 3) := by decide +kernel
theorem dX8_product_48 : decode cX8_product 48 = .ok (.iconst 2, 1) := by decide +kernel
theorem dX8_product_49 : decode cX8_product 49 = .ok (.goto 4, 3) := by decide +kernel
theorem dX8_product_52 : decode cX8_product 52 = .ok (.iconst 3, 1) := by decide +kernel
theorem dX8_product_53 : decode cX8_product 53 = .ok (.istore_n 3, 1) := by decide +kernel
theorem dX8_product_54 : decode cX8_product 54 = .ok (.aload_n 0, 1) := by decide +kernel
theorem dX8_product_55 : decode cX8_product 55 = .ok (.invokevirtual 50, 3) := by decide +kernel
theorem dX8_product_58 : decode cX8_product 58 = .ok (.aload_n 0, 1) := by decide +kernel
theorem dX8_product_59 : decode cX8_product 59 = .ok (.iload_n 1, 1) := by decide +kernel
theorem dX8_product_60 : decode cX8_product 60 = .ok (.invokevirtual 86, 3) := by decide +kernel
theorem dX8_product_63 : decode cX8_product 63 = .ok (.ifCond .ne 5, 3) := by decide +kernel
theorem dX8_product_66 : decode cX8_product 66 = .ok (.iconst 0, 1) := by decide +kernel
theorem dX8_product_67 : decode cX8_product 67 = .ok (.ireturn, 1) := by decide +kernel
theorem dX8_product_68 : decode cX8_product 68 = .ok (.aload_n 0, 1) := by decide +kernel
theorem dX8_product_69 : decode cX8_product 69 = .ok (.iload_n 3, 1) := by decide +kernel
theorem dX8_product_70 : decode cX8_product 70 = .ok (.iconst 0, 1) := by decide +kernel
theorem dX8_product_71 : decode cX8_product 71 = .ok (.iconst 0, 1) := by decide +kernel
theorem dX8_product_72 : decode cX8_product 72 = .ok (.invokevirtual 82, 3) := by decide +kernel
theorem dX8_product_75 : decode cX8_product 75 = .ok (.iinc 2 1, 3) := by decide +kernel
theorem dX8_product_78 : decode cX8_product 78 = .ok (.goto (-66), 3) := by decide +kernel
theorem dX8_product_81 : decode cX8_product 81 = .ok (.iconst 1, 1) := by decide +kernel
theorem dX8_product_82 : decode cX8_product 82 = .ok (.ireturn, 1) := by decide +kernel
theorem dX8_raised_0 : decode cX8_raised 0 = .ok (.aload_n 0, 1) := by decide +kernel
theorem dX8_raised_1 : decode cX8_raised 1 = .ok (.iload_n 1, 1) := by decide +kernel
theorem dX8_raised_2 : decode cX8_raised 2 = .ok (.invokevirtual 89, 3) := by decide +kernel
theorem dX8_raised_5 : decode cX8_raised 5 = .ok (.ifCond .ne 5, 3) := by decide +kernel
theorem dX8_raised_8 : decode cX8_raised 8 = .ok (.iconst 0, 1) := by decide +kernel
theorem dX8_raised_9 : decode cX8_raised 9 = .ok (.ireturn, 1) := by decide +kernel
theorem dX8_raised_10 : decode cX8_raised 10 = .ok (.aload_n 0, 1) := by decide +kernel
theorem dX8_raised_11 : decode cX8_raised 11 = .ok (.getfield 57, 3) := by decide +kernel
theorem dX8_raised_14 : decode cX8_raised 14 = .ok (.bipush 94, 2) := by decide +kernel
theorem dX8_raised_16 : decode cX8_raised 16 = .ok (.if_icmp .eq 5, 3) := by decide +kernel
theorem dX8_raised_19 : decode cX8_raised 19 = .ok (.iconst 1, 1) := by decide +kernel
theorem dX8_raised_20 : decode cX8_raised 20 = .ok (.ireturn, 1) := by decide +kernel
theorem dX8_raised_21 : decode cX8_raised 21 = .ok (.aload_n 0, 1) := by decide +kernel
theorem dX8_raised_22 : decode cX8_raised 22 = .ok (.invokevirtual 50, 3) := by decide +kernel
theorem dX8_raised_25 : decode cX8_raised 25 = .ok (.aload_n 0, 1) := by decide +kernel
theorem dX8_raised_26 : decode cX8_raised 26 = .ok (.invokevirtual 76, 3) := by decide +kernel
theorem dX8_raised_29 : decode cX8_raised 29 = .ok (.istore_n 2, 1) := by decide +kernel
theorem dX8_raised_30 : decode cX8_raised 30 = .ok (.aload_n 0, 1) := by decide +kernel
theorem dX8_raised_31 : decode cX8_raised 31 = .ok (.iconst 0, 1) := by decide +kernel
theorem dX8_raised_32 : decode cX8_raised 32 = .ok (.bipush 8, 2) := by decide +kernel
theorem dX8_raised_34 : decode cX8_raised 34 = .ok (.invokevirtual 92, 3) := by decide +kernel
theorem dX8_raised_37 : decode cX8_raised 37 = .ok (.ifCond .ne 5, 3) := by decide +kernel
theorem dX8_raised_40 : decode cX8_raised 40 = .ok (.iconst 0, 1) := by decide +kernel
theorem dX8_raised_41 : decode cX8_raised 41 = .ok (.ireturn, 1) := by decide +kernel
theorem dX8_raised_42 : decode cX8_raised 42 = .ok (.aload_n 0, 1) := by decide +kernel
theorem dX8_raised_43 : decode cX8_raised 43 = .ok (.iconst 4, 1) := by decide +kernel
theorem dX8_raised_44 : decode cX8_raised 44 = .ok (.iload_n 2, 1) := by decide +kernel
theorem dX8_raised_45 : decode cX8_raised 45 = .ok (.ifCond .eq 11, 3) := by decide +kernel
theorem dX8_raised_48 : decode cX8_raised 48 = .ok (.aload_n 0, 1) := by decide +kernel
theorem dX8_raised_49 : decode cX8_raised 49 = .ok (.getfield 70, 3) := by decide +kernel
theorem dX8_raised_52 : decode cX8_raised 52 = .ok (.ineg, 1) := by decide +kernel
theorem dX8_raised_53 : decode cX8_raised 53 = .ok (.goto 7, 3) := by decide +kernel
theorem dX8_raised_56 : decode cX8_raised 56 = .ok (.aload_n 0, 1) := by decide +kernel
theorem dX8_raised_57 : decode cX8_raised 57 = .ok (.getfield 70, 3) := by decide +kernel
theorem dX8_raised_60 : decode cX8_raised 60 = .ok (.iconst 0, 1) := by decide +kernel
theorem dX8_raised_61 : decode cX8_raised 61 = .ok (.invokevirtual 82, 3) := by decide +kernel
theorem dX8_raised_64 : decode cX8_raised 64 = .ok (.aload_n 0, 1) := by decide +kernel
theorem dX8_raised_65 : decode cX8_raised 65 = .ok (.invokevirtual 50, 3) := by decide +kernel
theorem dX8_raised_68 : decode cX8_raised 68 = .ok (.iconst 1, 1) := by decide +kernel
theorem dX8_raised_69 : decode cX8_raised 69 = .ok (.ireturn, 1) := by decide +kernel
theorem dX8_atom_0 : decode cX8_atom 0 = .ok (.aload_n 0, 1) := by decide +kernel
theorem dX8_atom_1 : decode cX8_atom 1 = .ok (.getfield 57, 3) := by decide +kernel
theorem dX8_atom_4 : decode cX8_atom 4 = .ok (.lookupswitch 192 #[(40, 114), (48, 60), (64, 77), (91, 154), (99, 173), (115, 173)], 60) := by decide +kernel
theorem dX8_atom_64 : decode cX8_atom 64 = .ok (.aload_n 0, 1) := by decide +kernel
theorem dX8_atom_65 : decode cX8_atom 65 = .ok (.bipush 8, 2) := by decide +kernel
theorem dX8_atom_67 : decode cX8_atom 67 = .ok (.aload_n 0, 1) := by decide +kernel
theorem dX8_atom_68 : decode cX8_atom 68 = .ok (.getfield 70, 3) := by decide +kernel
theorem dX8_atom_71 : decode cX8_atom 71 = .ok (.iconst 0, 1) := by decide +kernel
theorem dX8_atom_72 : decode cX8_atom 72 = .ok (.invokevirtual 82, 3) := by decide +kernel
theorem dX8_atom_75 : decode cX8_atom 75 = .ok (.aload_n 0, 1) := by decide +kernel
theorem dX8_atom_76 : decode cX8_atom 76 = .ok (.invokevirtual 50, 3) := by decide +kernel
theorem dX8_atom_79 : decode cX8_atom 79 = .ok (.iconst 1, 1) := by decide +kernel
theorem dX8_atom_80 : decode cX8_atom 80 = .ok (.ireturn, 1) := by decide +kernel
theorem dX8_atom_81 : decode cX8_atom 81 = .ok (.aload_n 0, 1) := by decide +kernel
theorem dX8_atom_82 : decode cX8_atom 82 = .ok (.invokevirtual 50, 3) := by decide +kernel
theorem dX8_atom_85 : decode cX8_atom 85 = .ok (.aload_n 0, 1) := by decide +kernel
theorem dX8_atom_86 : decode cX8_atom 86 = .ok (.iconst 0, 1) := by decide +kernel
theorem dX8_atom_87 : decode cX8_atom 87 = .ok (.aload_n 0, 1) := by decide +kernel
theorem dX8_atom_88 : decode cX8_atom 88 = .ok (.getfield 38, 3) := by decide +kernel
theorem dX8_atom_91 : decode cX8_atom 91 = .ok (.iconst 1, 1) := by decide +kernel
theorem dX8_atom_92 : decode cX8_atom 92 = .ok (.isub, 1) := by decide +kernel
theorem dX8_atom_93 : decode cX8_atom 93 = .ok (.invokevirtual 92, 3) := by decide +kernel
theorem dX8_atom_96 : decode cX8_atom 96 = .ok (.ifCond .ne 5, 3) := by decide +kernel
theorem dX8_atom_99 : decode cX8_atom 99 = .ok (.iconst 0, 1) := by decide +kernel
theorem dX8_atom_100 : decode cX8_atom 100 = .ok (.ireturn, 1) := by decide +kernel
theorem dX8_atom_101 : decode cX8_atom 101 = .ok (.aload_n 0, 1) := by decide +kernel
theorem dX8_atom_102 : decode cX8_atom 102 = .ok (.bipush 9, 2) := by decide +kernel
theorem dX8_atom_104 : decode cX8_atom 104 = .ok (.aload_n 0, 1) := by decide +kernel
theorem dX8_atom_105 : decode cX8_atom 105 = .ok (.getfield 70, 3) := by decide +kernel
theorem dX8_atom_108 : decode cX8_atom 108 = .ok (.iconst 0, 1) := by decide +kernel
theorem dX8_atom_109 : decode cX8_atom 109 = .ok (.invokevirtual 82, 3) := by decide +kernel
theorem dX8_atom_112 : decode cX8_atom 112 = .ok (.aload_n 0, 1) := by decide +kernel
theorem dX8_atom_113 : decode cX8_atom 113 = .ok (.invokevirtual 50, 3) := by decide +kernel
theorem dX8_atom_116 : decode cX8_atom 116 = .ok (.iconst 1, 1) := by decide +kernel
theorem dX8_atom_117 : decode cX8_atom 117 = .ok (.ireturn, 1) := by decide +kernel
theorem dX8_atom_118 : decode cX8_atom 118 = .ok (.iload_n 1, 1) := by decide +kernel
theorem dX8_atom_119 : decode cX8_atom 119 = .ok (.bipush 10, 2) := by decide +kernel
theorem dX8_atom_121 : decode cX8_atom 121 = .ok (.if_icmp .lt 8, 3) := by decide +kernel
theorem dX8_atom_124 : decode cX8_atom 124 = .ok (.aload_n 0, 1) := by decide +kernel
theorem dX8_atom_125 : decode cX8_atom 125 = .ok (.invokevirtual 60, 3) := by decide +kernel
theorem dX8_atom_128 : decode cX8_atom 128 = .ok (.ireturn, 1) := by decide +kernel
theorem dX8_atom_129 : decode cX8_atom 129 = .ok (.aload_n 0, 1) := by decide +kernel
theorem dX8_atom_130 : decode cX8_atom 130 = .ok (.invokevirtual 50, 3) := by decide +kernel
theorem dX8_atom_133 : decode cX8_atom 133 = .ok (.aload_n 0, 1) := by decide +kernel
theorem dX8_atom_134 : decode cX8_atom 134 = .ok (.iload_n 1, 1) := by decide +kernel
theorem dX8_atom_135 : decode cX8_atom 135 = .ok (.iconst 1, 1) := by decide +kernel
theorem dX8_atom_136 : decode cX8_atom 136 = .ok (.iadd, 1) := by decide +kernel
theorem dX8_atom_137 : decode cX8_atom 137 = .ok (.invokevirtual 53, 3) := by decide +kernel
theorem dX8_atom_140 : decode cX8_atom 140 = .ok (.ifCond .eq 16, 3) := by decide +kernel
theorem dX8_atom_143 : decode cX8_atom 143 = .ok (.aload_n 0, 1) := by decide +kernel
theorem dX8_atom_144 : decode cX8_atom 144 = .ok (.bipush 41, 2) := by decide +kernel
theorem dX8_atom_146 : decode cX8_atom 146 = .ok (.invokevirtual 96, 3) := by decide +kernel
theorem dX8_atom_149 : decode cX8_atom 149 = .ok (.ifCond .eq 7, 3) := by decide +kernel
theorem dX8_atom_152 : decode cX8_atom 152 = .ok (.iconst 1, 1) := by decide +kernel
theorem dX8_atom_153 : decode cX8_atom 153 = .ok (.goto 4, 3) := by decide +kernel
theorem dX8_atom_156 : decode cX8_atom 156 = .ok (.iconst 0, 1) := by decide +kernel
theorem dX8_atom_157 : decode cX8_atom 157 = .ok (.ireturn, 1) := by decide +kernel
theorem dX8_atom_158 : decode cX8_atom 158 = .ok (.iload_n 1, 1) := by decide +kernel
theorem dX8_atom_159 : decode cX8_atom 159 = .ok (.bipush 10, 2) := by decide +kernel
theorem dX8_atom_161 : decode cX8_atom 161 = .ok (.if_icmp .ge 11, 3) := by decide +kernel
theorem dX8_atom_164 : decode cX8_atom 164 = .ok (.aload_n 0, 1) := by decide +kernel
theorem dX8_atom_165 : decode cX8_atom 165 = .ok (.iload_n 1, 1) := by decide +kernel
theorem dX8_atom_166 : decode cX8_atom 166 = .ok (.invokevirtual 99, 3) := by decide +kernel
theorem dX8_atom_169 : decode cX8_atom 169 = .ok (.goto 7, 3) := by decide +kernel
theorem dX8_atom_172 : decode cX8_atom 172 = .ok (.aload_n 0, 1) := by decide +kernel
theorem dX8_atom_173 : decode cX8_atom 173 = .ok (.invokevirtual 60, 3) := by decide +kernel
theorem dX8_atom_176 : decode cX8_atom 176 = .ok (.ireturn, 1) := by decide +kernel
theorem dX8_atom_177 : decode cX8_atom 177 = .ok (.aload_n 0, 1) := by decide +kernel
theorem dX8_atom_178 : decode cX8_atom 178 = .ok (.aload_n 0, 1) := by decide +kernel
theorem dX8_atom_179 : decode cX8_atom 179 = .ok (.getfield 57, 3) := by decide +kernel
theorem dX8_atom_182 : decode cX8_atom 182 = .ok (.bipush 115, 2) := by decide +kernel
theorem dX8_atom_184 : decode cX8_atom 184 = .ok (.if_icmp .ne 7, 3) := by decide +kernel
theorem dX8_atom_187 : decode cX8_atom 187 = .ok (.iconst 1, 1) := by decide +kernel
theorem dX8_atom_188 : decode cX8_atom 188 = .ok (.goto 4, 3) := by decide +kernel
theorem dX8_atom_191 : decode cX8_atom 191 = .ok (.iconst 0, 1) := by decide +kernel
theorem dX8_atom_192 : decode cX8_atom 192 = .ok (.invokevirtual 102, 3) := by decide +kernel
theorem dX8_atom_195 : decode cX8_atom 195 = .ok (.ireturn, 1) := by decide +kernel
theorem dX8_atom_196 : decode cX8_atom 196 = .ok (.aload_n 0, 1) := by decide +kernel
theorem dX8_atom_197 : decode cX8_atom 197 = .ok (.invokevirtual 60, 3) := by decide +kernel
theorem dX8_atom_200 : decode cX8_atom 200 = .ok (.ireturn, 1) := by decide +kernel
theorem dX9_init_0 : decode cX9_init 0 = .ok (.aload_n 0, 1) := by decide +kernel
theorem dX9_init_1 : decode cX9_init 1 = .ok (.invokespecial 3, 3) := by decide +kernel
theorem dX9_init_4 : decode cX9_init 4 = .ok (.aload_n 0, 1) := by decide +kernel
theorem dX9_init_5 : decode cX9_init 5 = .ok (.new 9, 3) := by decide +kernel
theorem dX9_init_8 : decode cX9_init 8 = .ok (.dup, 1) := by decide +kernel
theorem dX9_init_9 : decode cX9_init 9 = .ok (.invokespecial 11, 3) := by decide +kernel
theorem dX9_init_12 : decode cX9_init 12 = .ok (.putfield 12, 3) := by decide +kernel
theorem dX9_init_15 : decode cX9_init 15 = .ok (.aload_n 0, 1) := by decide +kernel
theorem dX9_init_16 : decode cX9_init 16 = .ok (.new 9, 3) := by decide +kernel
theorem dX9_init_19 : decode cX9_init 19 = .ok (.dup, 1) := by decide +kernel
theorem dX9_init_20 : decode cX9_init 20 = .ok (.invokespecial 11, 3) := by decide +kernel
theorem dX9_init_23 : decode cX9_init 23 = .ok (.putfield 18, 3) := by decide +kernel
theorem dX9_init_26 : decode cX9_init 26 = .ok (.aload_n 0, 1) := by decide +kernel
theorem dX9_init_27 : decode cX9_init 27 = .ok (.new 9, 3) := by decide +kernel
theorem dX9_init_30 : decode cX9_init 30 = .ok (.dup, 1) := by decide +kernel
theorem dX9_init_31 : decode cX9_init 31 = .ok (.invokespecial 11, 3) := by decide +kernel
theorem dX9_init_34 : decode cX9_init 34 = .ok (.putfield 21, 3) := by decide +kernel
theorem dX9_init_37 : decode cX9_init 37 = .ok (.aload_n 0, 1) := by decide +kernel
theorem dX9_init_38 : decode cX9_init 38 = .ok (.new 9, 3) := by decide +kernel
theorem dX9_init_41 : decode cX9_init 41 = .ok (.dup, 1) := by decide +kernel
theorem dX9_init_42 : decode cX9_init 42 = .ok (.invokespecial 11, 3) := by decide +kernel
theorem dX9_init_45 : decode cX9_init 45 = .ok (.putfield 24, 3) := by decide +kernel
theorem dX9_init_48 : decode cX9_init 48 = .ok (.aload_n 0, 1) := by decide +kernel
theorem dX9_init_49 : decode cX9_init 49 = .ok (.new 9, 3) := by decide +kernel
theorem dX9_init_52 : decode cX9_init 52 = .ok (.dup, 1) := by decide +kernel
theorem dX9_init_53 : decode cX9_init 53 = .ok (.invokespecial 11, 3) := by decide +kernel
theorem dX9_init_56 : decode cX9_init 56 = .ok (.putfield 27, 3) := by decide +kernel
theorem dX9_init_59 : decode cX9_init 59 = .ok (.aload_n 0, 1) := by decide +kernel
theorem dX9_init_60 : decode cX9_init 60 = .ok (.new 30, 3) := by decide +kernel
theorem dX9_init_63 : decode cX9_init 63 = .ok (.dup, 1) := by decide +kernel
theorem dX9_init_64 : decode cX9_init 64 = .ok (.invokespecial 32, 3) := by decide +kernel
theorem dX9_init_67 : decode cX9_init 67 = .ok (.putfield 33, 3) := by decide +kernel
theorem dX9_init_70 : decode cX9_init 70 = .ok (.aload_n 0, 1) := by decide +kernel
theorem dX9_init_71 : decode cX9_init 71 = .ok (.bipush 8, 2) := by decide +kernel
theorem dX9_init_73 : decode cX9_init 73 = .ok (.newarray .int, 2) := by decide +kernel
theorem dX9_init_75 : decode cX9_init 75 = .ok (.putfield 37, 3) := by decide +kernel
theorem dX9_init_78 : decode cX9_init 78 = .ok (.return_, 1) := by decide +kernel
theorem dX9_tidy_0 : decode cX9_tidy 0 = .ok (.aload_n 1, 1) := by decide +kernel
theorem dX9_tidy_1 : decode cX9_tidy 1 = .ok (.getfield 59, 3) := by decide +kernel
theorem dX9_tidy_4 : decode cX9_tidy 4 = .ok (.ifCond .ge 4, 3) := by decide +kernel
theorem dX9_tidy_7 : decode cX9_tidy 7 = .ok (.return_, 1) := by decide +kernel
theorem dX9_tidy_8 : decode cX9_tidy 8 = .ok (.aload_n 0, 1) := by decide +kernel
theorem dX9_tidy_9 : decode cX9_tidy 9 = .ok (.getfield 12, 3) := by decide +kernel
theorem dX9_tidy_12 : decode cX9_tidy 12 = .ok (.astore_n 2, 1) := by decide +kernel
theorem dX9_tidy_13 : decode cX9_tidy 13 = .ok (.aload_n 0, 1) := by decide +kernel
theorem dX9_tidy_14 : decode cX9_tidy 14 = .ok (.getfield 18, 3) := by decide +kernel
theorem dX9_tidy_17 : decode cX9_tidy 17 = .ok (.astore_n 3, 1) := by decide +kernel
theorem dX9_tidy_18 : decode cX9_tidy 18 = .ok (.aload_n 0, 1) := by decide +kernel
theorem dX9_tidy_19 : decode cX9_tidy 19 = .ok (.getfield 24, 3) := by decide +kernel
theorem dX9_tidy_22 : decode cX9_tidy 22 = .ok (.astore 4, 2) := by decide +kernel
theorem dX9_tidy_24 : decode cX9_tidy 24 = .ok (.aload_n 2, 1) := by decide +kernel
theorem dX9_tidy_25 : decode cX9_tidy 25 = .ok (.aload_n 1, 1) := by decide +kernel
theorem dX9_tidy_26 : decode cX9_tidy 26 = .ok (.invokevirtual 62, 3) := by decide +kernel
theorem dX9_tidy_29 : decode cX9_tidy 29 = .ok (.invokevirtual 66, 3) := by decide +kernel
theorem dX9_tidy_32 : decode cX9_tidy 32 = .ok (.aload_n 1, 1) := by decide +kernel
theorem dX9_tidy_33 : decode cX9_tidy 33 = .ok (.getfield 59, 3) := by decide +kernel
theorem dX9_tidy_36 : decode cX9_tidy 36 = .ok (.iconst 1, 1) := by decide +kernel
theorem dX9_tidy_37 : decode cX9_tidy 37 = .ok (.isub, 1) := by decide +kernel
theorem dX9_tidy_38 : decode cX9_tidy 38 = .ok (.istore 5, 2) := by decide +kernel
theorem dX9_tidy_40 : decode cX9_tidy 40 = .ok (.iload 5, 2) := by decide +kernel
theorem dX9_tidy_42 : decode cX9_tidy 42 = .ok (.ifCond .lt 107, 3) := by decide +kernel
theorem dX9_tidy_45 : decode cX9_tidy 45 = .ok (.aload_n 2, 1) := by decide +kernel
theorem dX9_tidy_46 : decode cX9_tidy 46 = .ok (.invokevirtual 70, 3) := by decide +kernel
theorem dX9_tidy_49 : decode cX9_tidy 49 = .ok (.ifCond .ne 100, 3) := by decide +kernel
theorem dX9_tidy_52 : decode cX9_tidy 52 = .ok (.aload_n 3, 1) := by decide +kernel
theorem dX9_tidy_53 : decode cX9_tidy 53 = .ok (.aload_n 1, 1) := by decide +kernel
theorem dX9_tidy_54 : decode cX9_tidy 54 = .ok (.getfield 74, 3) := by decide +kernel
theorem dX9_tidy_57 : decode cX9_tidy 57 = .ok (.iload 5, 2) := by decide +kernel
theorem dX9_tidy_59 : decode cX9_tidy 59 = .ok (.aaload, 1) := by decide +kernel
theorem dX9_tidy_60 : decode cX9_tidy 60 = .ok (.invokevirtual 66, 3) := by decide +kernel
theorem dX9_tidy_63 : decode cX9_tidy 63 = .ok (.iconst 0, 1) := by decide +kernel
theorem dX9_tidy_64 : decode cX9_tidy 64 = .ok (.istore 6, 2) := by decide +kernel
theorem dX9_tidy_66 : decode cX9_tidy 66 = .ok (.iload 6, 2) := by decide +kernel
theorem dX9_tidy_68 : decode cX9_tidy 68 = .ok (.ldc 78, 2) := by decide +kernel
theorem dX9_tidy_70 : decode cX9_tidy 70 = .ok (.if_icmp .ge 73, 3) := by decide +kernel
theorem dX9_tidy_73 : decode cX9_tidy 73 = .ok (.aload_n 3, 1) := by decide +kernel
theorem dX9_tidy_74 : decode cX9_tidy 74 = .ok (.getfield 79, 3) := by decide +kernel
theorem dX9_tidy_77 : decode cX9_tidy 77 = .ok (.ifCond .eq 66, 3) := by decide +kernel
theorem dX9_tidy_80 : decode cX9_tidy 80 = .ok (.aload_n 2, 1) := by decide +kernel
theorem dX9_tidy_81 : decode cX9_tidy 81 = .ok (.getfield 82, 3) := by decide +kernel
theorem dX9_tidy_84 : decode cX9_tidy 84 = .ok (.iconst 2, 1) := by decide +kernel
theorem dX9_tidy_85 : decode cX9_tidy 85 = .ok (.if_icmp .gt 29, 3) := by decide +kernel
theorem dX9_tidy_88 : decode cX9_tidy 88 = .ok (.aload_n 3, 1) := by decide +kernel
theorem dX9_tidy_89 : decode cX9_tidy 89 = .ok (.getfield 82, 3) := by decide +kernel
theorem dX9_tidy_92 : decode cX9_tidy 92 = .ok (.iconst 2, 1) := by decide +kernel
theorem dX9_tidy_93 : decode cX9_tidy 93 = .ok (.if_icmp .gt 21, 3) := by decide +kernel
theorem dX9_tidy_96 : decode cX9_tidy 96 = .ok (.aload_n 2, 1) := by decide +kernel
theorem dX9_tidy_97 : decode cX9_tidy 97 = .ok (.aload_n 2, 1) := by decide +kernel
theorem dX9_tidy_98 : decode cX9_tidy 98 = .ok (.invokestatic 85, 3) := by decide +kernel
theorem dX9_tidy_101 : decode cX9_tidy 101 = .ok (.aload_n 3, 1) := by decide +kernel
theorem dX9_tidy_102 : decode cX9_tidy 102 = .ok (.invokestatic 85, 3) := by decide +kernel
theorem dX9_tidy_105 : decode cX9_tidy 105 = .ok (.invokestatic 89, 3) := by decide +kernel
theorem dX9_tidy_108 : decode cX9_tidy 108 = .ok (.invokevirtual 93, 3) := by decide +kernel
theorem dX9_tidy_111 : decode cX9_tidy 111 = .ok (.goto 32, 3) := by decide +kernel
theorem dX9_tidy_114 : decode cX9_tidy 114 = .ok (.aload 4, 2) := by decide +kernel
theorem dX9_tidy_116 : decode cX9_tidy 116 = .ok (.aload_n 2, 1) := by decide +kernel
theorem dX9_tidy_117 : decode cX9_tidy 117 = .ok (.aload_n 3, 1) := by decide +kernel
theorem dX9_tidy_118 : decode cX9_tidy 118 = .ok (.aload_n 0, 1) := by decide +kernel
theorem dX9_tidy_119 : decode cX9_tidy 119 = .ok (.getfield 21, 3) := by decide +kernel
theorem dX9_tidy_122 : decode cX9_tidy 122 = .ok (.invokevirtual 97, 3) := by decide +kernel
theorem dX9_tidy_125 : decode cX9_tidy 125 = .ok (.aload_n 2, 1) := by decide +kernel
theorem dX9_tidy_126 : decode cX9_tidy 126 = .ok (.astore 7, 2) := by decide +kernel
theorem dX9_tidy_128 : decode cX9_tidy 128 = .ok (.aload_n 3, 1) := by decide +kernel
theorem dX9_tidy_129 : decode cX9_tidy 129 = .ok (.astore_n 2, 1) := by decide +kernel
theorem dX9_tidy_130 : decode cX9_tidy 130 = .ok (.aload 4, 2) := by decide +kernel
theorem dX9_tidy_132 : decode cX9_tidy 132 = .ok (.astore_n 3, 1) := by decide +kernel
theorem dX9_tidy_133 : decode cX9_tidy 133 = .ok (.aload 7, 2) := by decide +kernel
theorem dX9_tidy_135 : decode cX9_tidy 135 = .ok (.astore 4, 2) := by decide +kernel
theorem dX9_tidy_137 : decode cX9_tidy 137 = .ok (.iinc 6 1, 3) := by decide +kernel
theorem dX9_tidy_140 : decode cX9_tidy 140 = .ok (.goto (-74), 3) := by decide +kernel
theorem dX9_tidy_143 : decode cX9_tidy 143 = .ok (.iinc 5 (-1), 3) := by decide +kernel
theorem dX9_tidy_146 : decode cX9_tidy 146 = .ok (.goto (-106), 3) := by decide +kernel
theorem dX9_tidy_149 : decode cX9_tidy 149 = .ok (.aload_n 2, 1) := by decide +kernel
theorem dX9_tidy_150 : decode cX9_tidy 150 = .ok (.iconst 1, 1) := by decide +kernel
theorem dX9_tidy_151 : decode cX9_tidy 151 = .ok (.putfield 79, 3) := by decide +kernel
theorem dX9_tidy_154 : decode cX9_tidy 154 = .ok (.aload_n 1, 1) := by decide +kernel
theorem dX9_tidy_155 : decode cX9_tidy 155 = .ok (.invokevirtual 62, 3) := by decide +kernel
theorem dX9_tidy_158 : decode cX9_tidy 158 = .ok (.getfield 79, 3) := by decide +kernel
theorem dX9_tidy_161 : decode cX9_tidy 161 = .ok (.ifCond .ge 7, 3) := by decide +kernel
theorem dX9_tidy_164 : decode cX9_tidy 164 = .ok (.iconst 1, 1) := by decide +kernel
theorem dX9_tidy_165 : decode cX9_tidy 165 = .ok (.goto 4, 3) := by decide +kernel
theorem dX9_tidy_168 : decode cX9_tidy 168 = .ok (.iconst 0, 1) := by decide +kernel
theorem dX9_tidy_169 : decode cX9_tidy 169 = .ok (.istore 5, 2) := by decide +kernel
theorem dX9_tidy_171 : decode cX9_tidy 171 = .ok (.aload_n 2, 1) := by decide +kernel
theorem dX9_tidy_172 : decode cX9_tidy 172 = .ok (.invokevirtual 70, 3) := by decide +kernel
theorem dX9_tidy_175 : decode cX9_tidy 175 = .ok (.istore 6, 2) := by decide +kernel
theorem dX9_tidy_177 : decode cX9_tidy 177 = .ok (.iconst 0, 1) := by decide +kernel
theorem dX9_tidy_178 : decode cX9_tidy 178 = .ok (.istore 7, 2) := by decide +kernel
theorem dX9_tidy_180 : decode cX9_tidy 180 = .ok (.iload 7, 2) := by decide +kernel
theorem dX9_tidy_182 : decode cX9_tidy 182 = .ok (.aload_n 1, 1) := by decide +kernel
theorem dX9_tidy_183 : decode cX9_tidy 183 = .ok (.getfield 59, 3) := by decide +kernel
theorem dX9_tidy_186 : decode cX9_tidy 186 = .ok (.if_icmp .gt 62, 3) := by decide +kernel
theorem dX9_tidy_189 : decode cX9_tidy 189 = .ok (.iload 6, 2) := by decide +kernel
theorem dX9_tidy_191 : decode cX9_tidy 191 = .ok (.ifCond .ne 36, 3) := by decide +kernel
theorem dX9_tidy_194 : decode cX9_tidy 194 = .ok (.aload_n 0, 1) := by decide +kernel
theorem dX9_tidy_195 : decode cX9_tidy 195 = .ok (.getfield 27, 3) := by decide +kernel
theorem dX9_tidy_198 : decode cX9_tidy 198 = .ok (.aload_n 1, 1) := by decide +kernel
theorem dX9_tidy_199 : decode cX9_tidy 199 = .ok (.getfield 74, 3) := by decide +kernel
theorem dX9_tidy_202 : decode cX9_tidy 202 = .ok (.iload 7, 2) := by decide +kernel
theorem dX9_tidy_204 : decode cX9_tidy 204 = .ok (.aaload, 1) := by decide +kernel
theorem dX9_tidy_205 : decode cX9_tidy 205 = .ok (.aload_n 2, 1) := by decide +kernel
theorem dX9_tidy_206 : decode cX9_tidy 206 = .ok (.aload_n 0, 1) := by decide +kernel
theorem dX9_tidy_207 : decode cX9_tidy 207 = .ok (.getfield 21, 3) := by decide +kernel
theorem dX9_tidy_210 : decode cX9_tidy 210 = .ok (.invokevirtual 97, 3) := by decide +kernel
theorem dX9_tidy_213 : decode cX9_tidy 213 = .ok (.aload_n 1, 1) := by decide +kernel
theorem dX9_tidy_214 : decode cX9_tidy 214 = .ok (.getfield 74, 3) := by decide +kernel
theorem dX9_tidy_217 : decode cX9_tidy 217 = .ok (.iload 7, 2) := by decide +kernel
theorem dX9_tidy_219 : decode cX9_tidy 219 = .ok (.aaload, 1) := by decide +kernel
theorem dX9_tidy_220 : decode cX9_tidy 220 = .ok (.aload_n 0, 1) := by decide +kernel
theorem dX9_tidy_221 : decode cX9_tidy 221 = .ok (.getfield 21, 3) := by decide +kernel
theorem dX9_tidy_224 : decode cX9_tidy 224 = .ok (.invokevirtual 66, 3) := by decide +kernel
theorem dX9_tidy_227 : decode cX9_tidy 227 = .ok (.iload 5, 2) := by decide +kernel
theorem dX9_tidy_229 : decode cX9_tidy 229 = .ok (.ifCond .eq 13, 3) := by decide +kernel
theorem dX9_tidy_232 : decode cX9_tidy 232 = .ok (.aload_n 1, 1) := by decide +kernel
theorem dX9_tidy_233 : decode cX9_tidy 233 = .ok (.getfield 74, 3) := by decide +kernel
theorem dX9_tidy_236 : decode cX9_tidy 236 = .ok (.iload 7, 2) := by decide +kernel
theorem dX9_tidy_238 : decode cX9_tidy 238 = .ok (.aaload, 1) := by decide +kernel
theorem dX9_tidy_239 : decode cX9_tidy 239 = .ok (.invokevirtual 101, 3) := by decide +kernel
theorem dX9_tidy_242 : decode cX9_tidy 242 = .ok (.iinc 7 1, 3) := by decide +kernel
theorem dX9_tidy_245 : decode cX9_tidy 245 = .ok (.goto (-65), 3) := by decide +kernel
theorem dX9_tidy_248 : decode cX9_tidy 248 = .ok (.return_, 1) := by decide +kernel
theorem dX9_low_0 : decode cX9_low 0 = .ok (.aload_n 0, 1) := by decide +kernel
theorem dX9_low_1 : decode cX9_low 1 = .ok (.getfield 82, 3) := by decide +kernel
theorem dX9_low_4 : decode cX9_low 4 = .ok (.ifCond .ne 7, 3) := by decide +kernel
theorem dX9_low_7 : decode cX9_low 7 = .ok (.lconst 0, 1) := by decide +kernel
theorem dX9_low_8 : decode cX9_low 8 = .ok (.goto 39, 3) := by decide +kernel
theorem dX9_low_11 : decode cX9_low 11 = .ok (.aload_n 0, 1) := by decide +kernel
theorem dX9_low_12 : decode cX9_low 12 = .ok (.getfield 82, 3) := by decide +kernel
theorem dX9_low_15 : decode cX9_low 15 = .ok (.iconst 1, 1) := by decide +kernel
theorem dX9_low_16 : decode cX9_low 16 = .ok (.if_icmp .ne 13, 3) := by decide +kernel
theorem dX9_low_19 : decode cX9_low 19 = .ok (.aload_n 0, 1) := by decide +kernel
theorem dX9_low_20 : decode cX9_low 20 = .ok (.getfield 104, 3) := by decide +kernel
theorem dX9_low_23 : decode cX9_low 23 = .ok (.iconst 0, 1) := by decide +kernel
theorem dX9_low_24 : decode cX9_low 24 = .ok (.iaload, 1) := by decide +kernel
theorem dX9_low_25 : decode cX9_low 25 = .ok (.i2l, 1) := by decide +kernel
theorem dX9_low_26 : decode cX9_low 26 = .ok (.goto 21, 3) := by decide +kernel
theorem dX9_low_29 : decode cX9_low 29 = .ok (.aload_n 0, 1) := by decide +kernel
theorem dX9_low_30 : decode cX9_low 30 = .ok (.getfield 104, 3) := by decide +kernel
theorem dX9_low_33 : decode cX9_low 33 = .ok (.iconst 1, 1) := by decide +kernel
theorem dX9_low_34 : decode cX9_low 34 = .ok (.iaload, 1) := by decide +kernel
theorem dX9_low_35 : decode cX9_low 35 = .ok (.i2l, 1) := by decide +kernel
theorem dX9_low_36 : decode cX9_low 36 = .ok (.bipush 30, 2) := by decide +kernel
theorem dX9_low_38 : decode cX9_low 38 = .ok (.lshl, 1) := by decide +kernel
theorem dX9_low_39 : decode cX9_low 39 = .ok (.aload_n 0, 1) := by decide +kernel
theorem dX9_low_40 : decode cX9_low 40 = .ok (.getfield 104, 3) := by decide +kernel
theorem dX9_low_43 : decode cX9_low 43 = .ok (.iconst 0, 1) := by decide +kernel
theorem dX9_low_44 : decode cX9_low 44 = .ok (.iaload, 1) := by decide +kernel
theorem dX9_low_45 : decode cX9_low 45 = .ok (.i2l, 1) := by decide +kernel
theorem dX9_low_46 : decode cX9_low 46 = .ok (.lor, 1) := by decide +kernel
theorem dX9_low_47 : decode cX9_low 47 = .ok (.lreturn, 1) := by decide +kernel
theorem dX9_shared_0 : decode cX9_shared 0 = .ok (.iconst 0, 1) := by decide +kernel
theorem dX9_shared_1 : decode cX9_shared 1 = .ok (.istore 4, 2) := by decide +kernel
theorem dX9_shared_3 : decode cX9_shared 3 = .ok (.iload 4, 2) := by decide +kernel
theorem dX9_shared_5 : decode cX9_shared 5 = .ok (.sipush 200, 3) := by decide +kernel
theorem dX9_shared_8 : decode cX9_shared 8 = .ok (.if_icmp .ge 25, 3) := by decide +kernel
theorem dX9_shared_11 : decode cX9_shared 11 = .ok (.lload_n 2, 1) := by decide +kernel
theorem dX9_shared_12 : decode cX9_shared 12 = .ok (.lconst 0, 1) := by decide +kernel
theorem dX9_shared_13 : decode cX9_shared 13 = .ok (.lcmp, 1) := by decide +kernel
theorem dX9_shared_14 : decode cX9_shared 14 = .ok (.ifCond .eq 19, 3) := by decide +kernel
theorem dX9_shared_17 : decode cX9_shared 17 = .ok (.lload_n 0, 1) := by decide +kernel
theorem dX9_shared_18 : decode cX9_shared 18 = .ok (.lload_n 2, 1) := by decide +kernel
theorem dX9_shared_19 : decode cX9_shared 19 = .ok (.lrem, 1) := by decide +kernel
theorem dX9_shared_20 : decode cX9_shared 20 = .ok (.lstore 5, 2) := by decide +kernel
theorem dX9_shared_22 : decode cX9_shared 22 = .ok (.lload_n 2, 1) := by decide +kernel
theorem dX9_shared_23 : decode cX9_shared 23 = .ok (.lstore_n 0, 1) := by decide +kernel
theorem dX9_shared_24 : decode cX9_shared 24 = .ok (.lload 5, 2) := by decide +kernel
theorem dX9_shared_26 : decode cX9_shared 26 = .ok (.lstore_n 2, 1) := by decide +kernel
theorem dX9_shared_27 : decode cX9_shared 27 = .ok (.iinc 4 1, 3) := by decide +kernel
theorem dX9_shared_30 : decode cX9_shared 30 = .ok (.goto (-27), 3) := by decide +kernel
theorem dX9_shared_33 : decode cX9_shared 33 = .ok (.lload_n 0, 1) := by decide +kernel
theorem dX9_shared_34 : decode cX9_shared 34 = .ok (.lreturn, 1) := by decide +kernel
theorem dX9_slope_0 : decode cX9_slope 0 = .ok (.aload_n 1, 1) := by decide +kernel
theorem dX9_slope_1 : decode cX9_slope 1 = .ok (.getfield 59, 3) := by decide +kernel
theorem dX9_slope_4 : decode cX9_slope 4 = .ok (.istore_n 3, 1) := by decide +kernel
theorem dX9_slope_5 : decode cX9_slope 5 = .ok (.aload_n 2, 1) := by decide +kernel
theorem dX9_slope_6 : decode cX9_slope 6 = .ok (.iload_n 3, 1) := by decide +kernel
theorem dX9_slope_7 : decode cX9_slope 7 = .ok (.iconst 1, 1) := by decide +kernel
theorem dX9_slope_8 : decode cX9_slope 8 = .ok (.isub, 1) := by decide +kernel
theorem dX9_slope_9 : decode cX9_slope 9 = .ok (.putfield 59, 3) := by decide +kernel
theorem dX9_slope_12 : decode cX9_slope 12 = .ok (.iconst 1, 1) := by decide +kernel
theorem dX9_slope_13 : decode cX9_slope 13 = .ok (.istore 4, 2) := by decide +kernel
theorem dX9_slope_15 : decode cX9_slope 15 = .ok (.iload 4, 2) := by decide +kernel
theorem dX9_slope_17 : decode cX9_slope 17 = .ok (.iload_n 3, 1) := by decide +kernel
theorem dX9_slope_18 : decode cX9_slope 18 = .ok (.if_icmp .gt 31, 3) := by decide +kernel
theorem dX9_slope_21 : decode cX9_slope 21 = .ok (.aload_n 2, 1) := by decide +kernel
theorem dX9_slope_22 : decode cX9_slope 22 = .ok (.getfield 74, 3) := by decide +kernel
theorem dX9_slope_25 : decode cX9_slope 25 = .ok (.iload 4, 2) := by decide +kernel
theorem dX9_slope_27 : decode cX9_slope 27 = .ok (.iconst 1, 1) := by decide +kernel
theorem dX9_slope_28 : decode cX9_slope 28 = .ok (.isub, 1) := by decide +kernel
theorem dX9_slope_29 : decode cX9_slope 29 = .ok (.aaload, 1) := by decide +kernel
theorem dX9_slope_30 : decode cX9_slope 30 = .ok (.aload_n 1, 1) := by decide +kernel
theorem dX9_slope_31 : decode cX9_slope 31 = .ok (.getfield 74, 3) := by decide +kernel
theorem dX9_slope_34 : decode cX9_slope 34 = .ok (.iload 4, 2) := by decide +kernel
theorem dX9_slope_36 : decode cX9_slope 36 = .ok (.aaload, 1) := by decide +kernel
theorem dX9_slope_37 : decode cX9_slope 37 = .ok (.iload 4, 2) := by decide +kernel
theorem dX9_slope_39 : decode cX9_slope 39 = .ok (.i2l, 1) := by decide +kernel
theorem dX9_slope_40 : decode cX9_slope 40 = .ok (.invokevirtual 107, 3) := by decide +kernel
theorem dX9_slope_43 : decode cX9_slope 43 = .ok (.iinc 4 1, 3) := by decide +kernel
theorem dX9_slope_46 : decode cX9_slope 46 = .ok (.goto (-31), 3) := by decide +kernel
theorem dX9_slope_49 : decode cX9_slope 49 = .ok (.return_, 1) := by decide +kernel
theorem dX9_leave_0 : decode cX9_leave 0 = .ok (.aload_n 1, 1) := by decide +kernel
theorem dX9_leave_1 : decode cX9_leave 1 = .ok (.getfield 59, 3) := by decide +kernel
theorem dX9_leave_4 : decode cX9_leave 4 = .ok (.aload_n 2, 1) := by decide +kernel
theorem dX9_leave_5 : decode cX9_leave 5 = .ok (.getfield 59, 3) := by decide +kernel
theorem dX9_leave_8 : decode cX9_leave 8 = .ok (.isub, 1) := by decide +kernel
theorem dX9_leave_9 : decode cX9_leave 9 = .ok (.istore_n 3, 1) := by decide +kernel
theorem dX9_leave_10 : decode cX9_leave 10 = .ok (.aload_n 2, 1) := by decide +kernel
theorem dX9_leave_11 : decode cX9_leave 11 = .ok (.invokevirtual 62, 3) := by decide +kernel
theorem dX9_leave_14 : decode cX9_leave 14 = .ok (.astore 4, 2) := by decide +kernel
theorem dX9_leave_16 : decode cX9_leave 16 = .ok (.iload_n 3, 1) := by decide +kernel
theorem dX9_leave_17 : decode cX9_leave 17 = .ok (.istore 5, 2) := by decide +kernel
theorem dX9_leave_19 : decode cX9_leave 19 = .ok (.iload 5, 2) := by decide +kernel
theorem dX9_leave_21 : decode cX9_leave 21 = .ok (.ifCond .lt 129, 3) := by decide +kernel
theorem dX9_leave_24 : decode cX9_leave 24 = .ok (.aload_n 0, 1) := by decide +kernel
theorem dX9_leave_25 : decode cX9_leave 25 = .ok (.getfield 12, 3) := by decide +kernel
theorem dX9_leave_28 : decode cX9_leave 28 = .ok (.aload_n 1, 1) := by decide +kernel
theorem dX9_leave_29 : decode cX9_leave 29 = .ok (.getfield 74, 3) := by decide +kernel
theorem dX9_leave_32 : decode cX9_leave 32 = .ok (.aload_n 2, 1) := by decide +kernel
theorem dX9_leave_33 : decode cX9_leave 33 = .ok (.getfield 59, 3) := by decide +kernel
theorem dX9_leave_36 : decode cX9_leave 36 = .ok (.iload 5, 2) := by decide +kernel
theorem dX9_leave_38 : decode cX9_leave 38 = .ok (.iadd, 1) := by decide +kernel
theorem dX9_leave_39 : decode cX9_leave 39 = .ok (.aaload, 1) := by decide +kernel
theorem dX9_leave_40 : decode cX9_leave 40 = .ok (.invokevirtual 66, 3) := by decide +kernel
theorem dX9_leave_43 : decode cX9_leave 43 = .ok (.iconst 0, 1) := by decide +kernel
theorem dX9_leave_44 : decode cX9_leave 44 = .ok (.istore 6, 2) := by decide +kernel
theorem dX9_leave_46 : decode cX9_leave 46 = .ok (.iload 6, 2) := by decide +kernel
theorem dX9_leave_48 : decode cX9_leave 48 = .ok (.aload_n 2, 1) := by decide +kernel
theorem dX9_leave_49 : decode cX9_leave 49 = .ok (.getfield 59, 3) := by decide +kernel
theorem dX9_leave_52 : decode cX9_leave 52 = .ok (.iload 5, 2) := by decide +kernel
theorem dX9_leave_54 : decode cX9_leave 54 = .ok (.iadd, 1) := by decide +kernel
theorem dX9_leave_55 : decode cX9_leave 55 = .ok (.if_icmp .ge 89, 3) := by decide +kernel
theorem dX9_leave_58 : decode cX9_leave 58 = .ok (.aload_n 0, 1) := by decide +kernel
theorem dX9_leave_59 : decode cX9_leave 59 = .ok (.getfield 24, 3) := by decide +kernel
theorem dX9_leave_62 : decode cX9_leave 62 = .ok (.aload_n 1, 1) := by decide +kernel
theorem dX9_leave_63 : decode cX9_leave 63 = .ok (.getfield 74, 3) := by decide +kernel
theorem dX9_leave_66 : decode cX9_leave 66 = .ok (.iload 6, 2) := by decide +kernel
theorem dX9_leave_68 : decode cX9_leave 68 = .ok (.aaload, 1) := by decide +kernel
theorem dX9_leave_69 : decode cX9_leave 69 = .ok (.aload 4, 2) := by decide +kernel
theorem dX9_leave_71 : decode cX9_leave 71 = .ok (.invokevirtual 114, 3) := by decide +kernel
theorem dX9_leave_74 : decode cX9_leave 74 = .ok (.iload 6, 2) := by decide +kernel
theorem dX9_leave_76 : decode cX9_leave 76 = .ok (.iload 5, 2) := by decide +kernel
theorem dX9_leave_78 : decode cX9_leave 78 = .ok (.if_icmp .ge 20, 3) := by decide +kernel
theorem dX9_leave_81 : decode cX9_leave 81 = .ok (.aload_n 1, 1) := by decide +kernel
theorem dX9_leave_82 : decode cX9_leave 82 = .ok (.getfield 74, 3) := by decide +kernel
theorem dX9_leave_85 : decode cX9_leave 85 = .ok (.iload 6, 2) := by decide +kernel
theorem dX9_leave_87 : decode cX9_leave 87 = .ok (.aaload, 1) := by decide +kernel
theorem dX9_leave_88 : decode cX9_leave 88 = .ok (.aload_n 0, 1) := by decide +kernel
theorem dX9_leave_89 : decode cX9_leave 89 = .ok (.getfield 24, 3) := by decide +kernel
theorem dX9_leave_92 : decode cX9_leave 92 = .ok (.invokevirtual 66, 3) := by decide +kernel
theorem dX9_leave_95 : decode cX9_leave 95 = .ok (.goto 43, 3) := by decide +kernel
theorem dX9_leave_98 : decode cX9_leave 98 = .ok (.aload_n 0, 1) := by decide +kernel
theorem dX9_leave_99 : decode cX9_leave 99 = .ok (.getfield 27, 3) := by decide +kernel
theorem dX9_leave_102 : decode cX9_leave 102 = .ok (.aload_n 0, 1) := by decide +kernel
theorem dX9_leave_103 : decode cX9_leave 103 = .ok (.getfield 12, 3) := by decide +kernel
theorem dX9_leave_106 : decode cX9_leave 106 = .ok (.aload_n 2, 1) := by decide +kernel
theorem dX9_leave_107 : decode cX9_leave 107 = .ok (.getfield 74, 3) := by decide +kernel
theorem dX9_leave_110 : decode cX9_leave 110 = .ok (.iload 6, 2) := by decide +kernel
theorem dX9_leave_112 : decode cX9_leave 112 = .ok (.iload 5, 2) := by decide +kernel
theorem dX9_leave_114 : decode cX9_leave 114 = .ok (.isub, 1) := by decide +kernel
theorem dX9_leave_115 : decode cX9_leave 115 = .ok (.aaload, 1) := by decide +kernel
theorem dX9_leave_116 : decode cX9_leave 116 = .ok (.invokevirtual 114, 3) := by decide +kernel
theorem dX9_leave_119 : decode cX9_leave 119 = .ok (.aload_n 1, 1) := by decide +kernel
theorem dX9_leave_120 : decode cX9_leave 120 = .ok (.getfield 74, 3) := by decide +kernel
theorem dX9_leave_123 : decode cX9_leave 123 = .ok (.iload 6, 2) := by decide +kernel
theorem dX9_leave_125 : decode cX9_leave 125 = .ok (.aaload, 1) := by decide +kernel
theorem dX9_leave_126 : decode cX9_leave 126 = .ok (.aload_n 0, 1) := by decide +kernel
theorem dX9_leave_127 : decode cX9_leave 127 = .ok (.getfield 24, 3) := by decide +kernel
theorem dX9_leave_130 : decode cX9_leave 130 = .ok (.aload_n 0, 1) := by decide +kernel
theorem dX9_leave_131 : decode cX9_leave 131 = .ok (.getfield 27, 3) := by decide +kernel
theorem dX9_leave_134 : decode cX9_leave 134 = .ok (.iconst (-1), 1) := by decide +kernel
theorem dX9_leave_135 : decode cX9_leave 135 = .ok (.invokevirtual 118, 3) := by decide +kernel
theorem dX9_leave_138 : decode cX9_leave 138 = .ok (.iinc 6 1, 3) := by decide +kernel
theorem dX9_leave_141 : decode cX9_leave 141 = .ok (.goto (-95), 3) := by decide +kernel
theorem dX9_leave_144 : decode cX9_leave 144 = .ok (.iinc 5 (-1), 3) := by decide +kernel
theorem dX9_leave_147 : decode cX9_leave 147 = .ok (.goto (-128), 3) := by decide +kernel
theorem dX9_leave_150 : decode cX9_leave 150 = .ok (.aload_n 1, 1) := by decide +kernel
theorem dX9_leave_151 : decode cX9_leave 151 = .ok (.aload_n 2, 1) := by decide +kernel
theorem dX9_leave_152 : decode cX9_leave 152 = .ok (.getfield 59, 3) := by decide +kernel
theorem dX9_leave_155 : decode cX9_leave 155 = .ok (.iconst 1, 1) := by decide +kernel
theorem dX9_leave_156 : decode cX9_leave 156 = .ok (.isub, 1) := by decide +kernel
theorem dX9_leave_157 : decode cX9_leave 157 = .ok (.invokevirtual 122, 3) := by decide +kernel
theorem dX9_leave_160 : decode cX9_leave 160 = .ok (.aload 4, 2) := by decide +kernel
theorem dX9_leave_162 : decode cX9_leave 162 = .ok (.getfield 79, 3) := by decide +kernel
theorem dX9_leave_165 : decode cX9_leave 165 = .ok (.ifCond .ge 13, 3) := by decide +kernel
theorem dX9_leave_168 : decode cX9_leave 168 = .ok (.iload_n 3, 1) := by decide +kernel
theorem dX9_leave_169 : decode cX9_leave 169 = .ok (.iconst 2, 1) := by decide +kernel
theorem dX9_leave_170 : decode cX9_leave 170 = .ok (.irem, 1) := by decide +kernel
theorem dX9_leave_171 : decode cX9_leave 171 = .ok (.ifCond .ne 7, 3) := by decide +kernel
theorem dX9_leave_174 : decode cX9_leave 174 = .ok (.iconst 1, 1) := by decide +kernel
theorem dX9_leave_175 : decode cX9_leave 175 = .ok (.goto 4, 3) := by decide +kernel
theorem dX9_leave_178 : decode cX9_leave 178 = .ok (.iconst 0, 1) := by decide +kernel
theorem dX9_leave_179 : decode cX9_leave 179 = .ok (.ireturn, 1) := by decide +kernel
theorem dX9_eval_0 : decode cX9_eval 0 = .ok (.aload_n 1, 1) := by decide +kernel
theorem dX9_eval_1 : decode cX9_eval 1 = .ok (.getfield 59, 3) := by decide +kernel
theorem dX9_eval_4 : decode cX9_eval 4 = .ok (.ifCond .ge 9, 3) := by decide +kernel
theorem dX9_eval_7 : decode cX9_eval 7 = .ok (.aload 5, 2) := by decide +kernel
theorem dX9_eval_9 : decode cX9_eval 9 = .ok (.invokevirtual 126, 3) := by decide +kernel
theorem dX9_eval_12 : decode cX9_eval 12 = .ok (.return_, 1) := by decide +kernel
theorem dX9_eval_13 : decode cX9_eval 13 = .ok (.aload 5, 2) := by decide +kernel
theorem dX9_eval_15 : decode cX9_eval 15 = .ok (.aload_n 1, 1) := by decide +kernel
theorem dX9_eval_16 : decode cX9_eval 16 = .ok (.invokevirtual 62, 3) := by decide +kernel
theorem dX9_eval_19 : decode cX9_eval 19 = .ok (.invokevirtual 66, 3) := by decide +kernel
theorem dX9_eval_22 : decode cX9_eval 22 = .ok (.aload_n 3, 1) := by decide +kernel
theorem dX9_eval_23 : decode cX9_eval 23 = .ok (.ifnull 11, 3) := by decide +kernel
theorem dX9_eval_26 : decode cX9_eval 26 = .ok (.aload_n 0, 1) := by decide +kernel
theorem dX9_eval_27 : decode cX9_eval 27 = .ok (.getfield 12, 3) := by decide +kernel
theorem dX9_eval_30 : decode cX9_eval 30 = .ok (.lconst 1, 1) := by decide +kernel
theorem dX9_eval_31 : decode cX9_eval 31 = .ok (.invokevirtual 93, 3) := by decide +kernel
theorem dX9_eval_34 : decode cX9_eval 34 = .ok (.aload_n 1, 1) := by decide +kernel
theorem dX9_eval_35 : decode cX9_eval 35 = .ok (.getfield 59, 3) := by decide +kernel
theorem dX9_eval_38 : decode cX9_eval 38 = .ok (.iconst 1, 1) := by decide +kernel
theorem dX9_eval_39 : decode cX9_eval 39 = .ok (.isub, 1) := by decide +kernel
theorem dX9_eval_40 : decode cX9_eval 40 = .ok (.istore 6, 2) := by decide +kernel
theorem dX9_eval_42 : decode cX9_eval 42 = .ok (.iload 6, 2) := by decide +kernel
theorem dX9_eval_44 : decode cX9_eval 44 = .ok (.ifCond .lt 105, 3) := by decide +kernel
theorem dX9_eval_47 : decode cX9_eval 47 = .ok (.aload_n 0, 1) := by decide +kernel
theorem dX9_eval_48 : decode cX9_eval 48 = .ok (.getfield 24, 3) := by decide +kernel
theorem dX9_eval_51 : decode cX9_eval 51 = .ok (.aload 5, 2) := by decide +kernel
theorem dX9_eval_53 : decode cX9_eval 53 = .ok (.aload_n 2, 1) := by decide +kernel
theorem dX9_eval_54 : decode cX9_eval 54 = .ok (.invokevirtual 114, 3) := by decide +kernel
theorem dX9_eval_57 : decode cX9_eval 57 = .ok (.aload_n 3, 1) := by decide +kernel
theorem dX9_eval_58 : decode cX9_eval 58 = .ok (.ifnonnull 30, 3) := by decide +kernel
theorem dX9_eval_61 : decode cX9_eval 61 = .ok (.aload_n 0, 1) := by decide +kernel
theorem dX9_eval_62 : decode cX9_eval 62 = .ok (.getfield 27, 3) := by decide +kernel
theorem dX9_eval_65 : decode cX9_eval 65 = .ok (.aload_n 1, 1) := by decide +kernel
theorem dX9_eval_66 : decode cX9_eval 66 = .ok (.getfield 74, 3) := by decide +kernel
theorem dX9_eval_69 : decode cX9_eval 69 = .ok (.iload 6, 2) := by decide +kernel
theorem dX9_eval_71 : decode cX9_eval 71 = .ok (.aaload, 1) := by decide +kernel
theorem dX9_eval_72 : decode cX9_eval 72 = .ok (.iload 4, 2) := by decide +kernel
theorem dX9_eval_74 : decode cX9_eval 74 = .ok (.aload_n 1, 1) := by decide +kernel
theorem dX9_eval_75 : decode cX9_eval 75 = .ok (.getfield 59, 3) := by decide +kernel
theorem dX9_eval_78 : decode cX9_eval 78 = .ok (.iload 6, 2) := by decide +kernel
theorem dX9_eval_80 : decode cX9_eval 80 = .ok (.isub, 1) := by decide +kernel
theorem dX9_eval_81 : decode cX9_eval 81 = .ok (.imul, 1) := by decide +kernel
theorem dX9_eval_82 : decode cX9_eval 82 = .ok (.invokevirtual 129, 3) := by decide +kernel
theorem dX9_eval_85 : decode cX9_eval 85 = .ok (.goto 44, 3) := by decide +kernel
theorem dX9_eval_88 : decode cX9_eval 88 = .ok (.aload_n 0, 1) := by decide +kernel
theorem dX9_eval_89 : decode cX9_eval 89 = .ok (.getfield 18, 3) := by decide +kernel
theorem dX9_eval_92 : decode cX9_eval 92 = .ok (.aload_n 0, 1) := by decide +kernel
theorem dX9_eval_93 : decode cX9_eval 93 = .ok (.getfield 12, 3) := by decide +kernel
theorem dX9_eval_96 : decode cX9_eval 96 = .ok (.aload_n 3, 1) := by decide +kernel
theorem dX9_eval_97 : decode cX9_eval 97 = .ok (.invokevirtual 114, 3) := by decide +kernel
theorem dX9_eval_100 : decode cX9_eval 100 = .ok (.aload_n 0, 1) := by decide +kernel
theorem dX9_eval_101 : decode cX9_eval 101 = .ok (.getfield 12, 3) := by decide +kernel
theorem dX9_eval_104 : decode cX9_eval 104 = .ok (.aload_n 0, 1) := by decide +kernel
theorem dX9_eval_105 : decode cX9_eval 105 = .ok (.getfield 18, 3) := by decide +kernel
theorem dX9_eval_108 : decode cX9_eval 108 = .ok (.invokevirtual 66, 3) := by decide +kernel
theorem dX9_eval_111 : decode cX9_eval 111 = .ok (.aload_n 0, 1) := by decide +kernel
theorem dX9_eval_112 : decode cX9_eval 112 = .ok (.getfield 27, 3) := by decide +kernel
theorem dX9_eval_115 : decode cX9_eval 115 = .ok (.aload_n 1, 1) := by decide +kernel
theorem dX9_eval_116 : decode cX9_eval 116 = .ok (.getfield 74, 3) := by decide +kernel
theorem dX9_eval_119 : decode cX9_eval 119 = .ok (.iload 6, 2) := by decide +kernel
theorem dX9_eval_121 : decode cX9_eval 121 = .ok (.aaload, 1) := by decide +kernel
theorem dX9_eval_122 : decode cX9_eval 122 = .ok (.aload_n 0, 1) := by decide +kernel
theorem dX9_eval_123 : decode cX9_eval 123 = .ok (.getfield 12, 3) := by decide +kernel
theorem dX9_eval_126 : decode cX9_eval 126 = .ok (.invokevirtual 114, 3) := by decide +kernel
theorem dX9_eval_129 : decode cX9_eval 129 = .ok (.aload 5, 2) := by decide +kernel
theorem dX9_eval_131 : decode cX9_eval 131 = .ok (.aload_n 0, 1) := by decide +kernel
theorem dX9_eval_132 : decode cX9_eval 132 = .ok (.getfield 24, 3) := by decide +kernel
theorem dX9_eval_135 : decode cX9_eval 135 = .ok (.aload_n 0, 1) := by decide +kernel
theorem dX9_eval_136 : decode cX9_eval 136 = .ok (.getfield 27, 3) := by decide +kernel
theorem dX9_eval_139 : decode cX9_eval 139 = .ok (.iconst 1, 1) := by decide +kernel
theorem dX9_eval_140 : decode cX9_eval 140 = .ok (.invokevirtual 118, 3) := by decide +kernel
theorem dX9_eval_143 : decode cX9_eval 143 = .ok (.iinc 6 (-1), 3) := by decide +kernel
theorem dX9_eval_146 : decode cX9_eval 146 = .ok (.goto (-104), 3) := by decide +kernel
theorem dX9_eval_149 : decode cX9_eval 149 = .ok (.return_, 1) := by decide +kernel
theorem dX10_init_0 : decode cX10_init 0 = .ok (.aload_n 0, 1) := by decide +kernel
theorem dX10_init_1 : decode cX10_init 1 = .ok (.invokespecial 1, 3) := by decide +kernel
theorem dX10_init_4 : decode cX10_init 4 = .ok (.aload_n 0, 1) := by decide +kernel
theorem dX10_init_5 : decode cX10_init 5 = .ok (.invokestatic 7, 3) := by decide +kernel
theorem dX10_init_8 : decode cX10_init 8 = .ok (.putfield 13, 3) := by decide +kernel
theorem dX10_init_11 : decode cX10_init 11 = .ok (.aload_n 0, 1) := by decide +kernel
theorem dX10_init_12 : decode cX10_init 12 = .ok (.invokestatic 7, 3) := by decide +kernel
theorem dX10_init_15 : decode cX10_init 15 = .ok (.putfield 17, 3) := by decide +kernel
theorem dX10_init_18 : decode cX10_init 18 = .ok (.aload_n 0, 1) := by decide +kernel
theorem dX10_init_19 : decode cX10_init 19 = .ok (.invokestatic 7, 3) := by decide +kernel
theorem dX10_init_22 : decode cX10_init 22 = .ok (.putfield 20, 3) := by decide +kernel
theorem dX10_init_25 : decode cX10_init 25 = .ok (.aload_n 0, 1) := by decide +kernel
theorem dX10_init_26 : decode cX10_init 26 = .ok (.invokestatic 7, 3) := by decide +kernel
theorem dX10_init_29 : decode cX10_init 29 = .ok (.putfield 23, 3) := by decide +kernel
theorem dX10_init_32 : decode cX10_init 32 = .ok (.aload_n 0, 1) := by decide +kernel
theorem dX10_init_33 : decode cX10_init 33 = .ok (.iconst 4, 1) := by decide +kernel
theorem dX10_init_34 : decode cX10_init 34 = .ok (.anewarray 26, 3) := by decide +kernel
theorem dX10_init_37 : decode cX10_init 37 = .ok (.dup, 1) := by decide +kernel
theorem dX10_init_38 : decode cX10_init 38 = .ok (.iconst 0, 1) := by decide +kernel
theorem dX10_init_39 : decode cX10_init 39 = .ok (.new 26, 3) := by decide +kernel
theorem dX10_init_42 : decode cX10_init 42 = .ok (.dup, 1) := by decide +kernel
theorem dX10_init_43 : decode cX10_init 43 = .ok (.invokespecial 28, 3) := by decide +kernel
theorem dX10_init_46 : decode cX10_init 46 = .ok (.aastore, 1) := by decide +kernel
theorem dX10_init_47 : decode cX10_init 47 = .ok (.dup, 1) := by decide +kernel
theorem dX10_init_48 : decode cX10_init 48 = .ok (.iconst 1, 1) := by decide +kernel
theorem dX10_init_49 : decode cX10_init 49 = .ok (.new 26, 3) := by decide +kernel
theorem dX10_init_52 : decode cX10_init 52 = .ok (.dup, 1) := by decide +kernel
theorem dX10_init_53 : decode cX10_init 53 = .ok (.invokespecial 28, 3) := by decide +kernel
theorem dX10_init_56 : decode cX10_init 56 = .ok (.aastore, 1) := by decide +kernel
theorem dX10_init_57 : decode cX10_init 57 = .ok (.dup, 1) := by decide +kernel
theorem dX10_init_58 : decode cX10_init 58 = .ok (.iconst 2, 1) := by decide +kernel
theorem dX10_init_59 : decode cX10_init 59 = .ok (.new 26, 3) := by decide +kernel
theorem dX10_init_62 : decode cX10_init 62 = .ok (.dup, 1) := by decide +kernel
theorem dX10_init_63 : decode cX10_init 63 = .ok (.invokespecial 28, 3) := by decide +kernel
theorem dX10_init_66 : decode cX10_init 66 = .ok (.aastore, 1) := by decide +kernel
theorem dX10_init_67 : decode cX10_init 67 = .ok (.dup, 1) := by decide +kernel
theorem dX10_init_68 : decode cX10_init 68 = .ok (.iconst 3, 1) := by decide +kernel
theorem dX10_init_69 : decode cX10_init 69 = .ok (.new 26, 3) := by decide +kernel
theorem dX10_init_72 : decode cX10_init 72 = .ok (.dup, 1) := by decide +kernel
theorem dX10_init_73 : decode cX10_init 73 = .ok (.invokespecial 28, 3) := by decide +kernel
theorem dX10_init_76 : decode cX10_init 76 = .ok (.aastore, 1) := by decide +kernel
theorem dX10_init_77 : decode cX10_init 77 = .ok (.putfield 29, 3) := by decide +kernel
theorem dX10_init_80 : decode cX10_init 80 = .ok (.aload_n 0, 1) := by decide +kernel
theorem dX10_init_81 : decode cX10_init 81 = .ok (.new 26, 3) := by decide +kernel
theorem dX10_init_84 : decode cX10_init 84 = .ok (.dup, 1) := by decide +kernel
theorem dX10_init_85 : decode cX10_init 85 = .ok (.invokespecial 28, 3) := by decide +kernel
theorem dX10_init_88 : decode cX10_init 88 = .ok (.putfield 32, 3) := by decide +kernel
theorem dX10_init_91 : decode cX10_init 91 = .ok (.aload_n 0, 1) := by decide +kernel
theorem dX10_init_92 : decode cX10_init 92 = .ok (.new 26, 3) := by decide +kernel
theorem dX10_init_95 : decode cX10_init 95 = .ok (.dup, 1) := by decide +kernel
theorem dX10_init_96 : decode cX10_init 96 = .ok (.invokespecial 28, 3) := by decide +kernel
theorem dX10_init_99 : decode cX10_init 99 = .ok (.putfield 36, 3) := by decide +kernel
theorem dX10_init_102 : decode cX10_init 102 = .ok (.aload_n 0, 1) := by decide +kernel
theorem dX10_init_103 : decode cX10_init 103 = .ok (.new 26, 3) := by decide +kernel
theorem dX10_init_106 : decode cX10_init 106 = .ok (.dup, 1) := by decide +kernel
theorem dX10_init_107 : decode cX10_init 107 = .ok (.invokespecial 28, 3) := by decide +kernel
theorem dX10_init_110 : decode cX10_init 110 = .ok (.putfield 39, 3) := by decide +kernel
theorem dX10_init_113 : decode cX10_init 113 = .ok (.aload_n 0, 1) := by decide +kernel
theorem dX10_init_114 : decode cX10_init 114 = .ok (.new 26, 3) := by decide +kernel
theorem dX10_init_117 : decode cX10_init 117 = .ok (.dup, 1) := by decide +kernel
theorem dX10_init_118 : decode cX10_init 118 = .ok (.invokespecial 28, 3) := by decide +kernel
theorem dX10_init_121 : decode cX10_init 121 = .ok (.putfield 42, 3) := by decide +kernel
theorem dX10_init_124 : decode cX10_init 124 = .ok (.aload_n 0, 1) := by decide +kernel
theorem dX10_init_125 : decode cX10_init 125 = .ok (.new 26, 3) := by decide +kernel
theorem dX10_init_128 : decode cX10_init 128 = .ok (.dup, 1) := by decide +kernel
theorem dX10_init_129 : decode cX10_init 129 = .ok (.invokespecial 28, 3) := by decide +kernel
theorem dX10_init_132 : decode cX10_init 132 = .ok (.putfield 45, 3) := by decide +kernel
theorem dX10_init_135 : decode cX10_init 135 = .ok (.aload_n 0, 1) := by decide +kernel
theorem dX10_init_136 : decode cX10_init 136 = .ok (.new 26, 3) := by decide +kernel
theorem dX10_init_139 : decode cX10_init 139 = .ok (.dup, 1) := by decide +kernel
theorem dX10_init_140 : decode cX10_init 140 = .ok (.invokespecial 28, 3) := by decide +kernel
theorem dX10_init_143 : decode cX10_init 143 = .ok (.putfield 48, 3) := by decide +kernel
theorem dX10_init_146 : decode cX10_init 146 = .ok (.aload_n 0, 1) := by decide +kernel
theorem dX10_init_147 : decode cX10_init 147 = .ok (.new 26, 3) := by decide +kernel
theorem dX10_init_150 : decode cX10_init 150 = .ok (.dup, 1) := by decide +kernel
theorem dX10_init_151 : decode cX10_init 151 = .ok (.invokespecial 28, 3) := by decide +kernel
theorem dX10_init_154 : decode cX10_init 154 = .ok (.putfield 51, 3) := by decide +kernel
theorem dX10_init_157 : decode cX10_init 157 = .ok (.aload_n 0, 1) := by decide +kernel
theorem dX10_init_158 : decode cX10_init 158 = .ok (.new 26, 3) := by decide +kernel
theorem dX10_init_161 : decode cX10_init 161 = .ok (.dup, 1) := by decide +kernel
theorem dX10_init_162 : decode cX10_init 162 = .ok (.invokespecial 28, 3) := by decide +kernel
theorem dX10_init_165 : decode cX10_init 165 = .ok (.putfield 54, 3) := by decide +kernel
theorem dX10_init_168 : decode cX10_init 168 = .ok (.aload_n 0, 1) := by decide +kernel
theorem dX10_init_169 : decode cX10_init 169 = .ok (.aload_n 1, 1) := by decide +kernel
theorem dX10_init_170 : decode cX10_init 170 = .ok (.putfield 57, 3) := by decide +kernel
theorem dX10_init_173 : decode cX10_init 173 = .ok (.return_, 1) := by decide +kernel
theorem dX10_pair_0 : decode cX10_pair 0 = .ok (.iconst 2, 1) := by decide +kernel
theorem dX10_pair_1 : decode cX10_pair 1 = .ok (.anewarray 26, 3) := by decide +kernel
theorem dX10_pair_4 : decode cX10_pair 4 = .ok (.dup, 1) := by decide +kernel
theorem dX10_pair_5 : decode cX10_pair 5 = .ok (.iconst 0, 1) := by decide +kernel
theorem dX10_pair_6 : decode cX10_pair 6 = .ok (.new 26, 3) := by decide +kernel
theorem dX10_pair_9 : decode cX10_pair 9 = .ok (.dup, 1) := by decide +kernel
theorem dX10_pair_10 : decode cX10_pair 10 = .ok (.invokespecial 28, 3) := by decide +kernel
theorem dX10_pair_13 : decode cX10_pair 13 = .ok (.aastore, 1) := by decide +kernel
theorem dX10_pair_14 : decode cX10_pair 14 = .ok (.dup, 1) := by decide +kernel
theorem dX10_pair_15 : decode cX10_pair 15 = .ok (.iconst 1, 1) := by decide +kernel
theorem dX10_pair_16 : decode cX10_pair 16 = .ok (.new 26, 3) := by decide +kernel
theorem dX10_pair_19 : decode cX10_pair 19 = .ok (.dup, 1) := by decide +kernel
theorem dX10_pair_20 : decode cX10_pair 20 = .ok (.invokespecial 28, 3) := by decide +kernel
theorem dX10_pair_23 : decode cX10_pair 23 = .ok (.aastore, 1) := by decide +kernel
theorem dX10_pair_24 : decode cX10_pair 24 = .ok (.areturn, 1) := by decide +kernel
theorem dX11_init_0 : decode cX11_init 0 = .ok (.aload_n 0, 1) := by decide +kernel
theorem dX11_init_1 : decode cX11_init 1 = .ok (.invokespecial 1, 3) := by decide +kernel
theorem dX11_init_4 : decode cX11_init 4 = .ok (.aload_n 0, 1) := by decide +kernel
theorem dX11_init_5 : decode cX11_init 5 = .ok (.bipush 100, 2) := by decide +kernel
theorem dX11_init_7 : decode cX11_init 7 = .ok (.anewarray 9, 3) := by decide +kernel
theorem dX11_init_10 : decode cX11_init 10 = .ok (.putfield 11, 3) := by decide +kernel
theorem dX11_init_13 : decode cX11_init 13 = .ok (.aload_n 0, 1) := by decide +kernel
theorem dX11_init_14 : decode cX11_init 14 = .ok (.bipush 30, 2) := by decide +kernel
theorem dX11_init_16 : decode cX11_init 16 = .ok (.anewarray 15, 3) := by decide +kernel
theorem dX11_init_19 : decode cX11_init 19 = .ok (.putfield 17, 3) := by decide +kernel
theorem dX11_init_22 : decode cX11_init 22 = .ok (.aload_n 0, 1) := by decide +kernel
theorem dX11_init_23 : decode cX11_init 23 = .ok (.bipush 12, 2) := by decide +kernel
theorem dX11_init_25 : decode cX11_init 25 = .ok (.anewarray 15, 3) := by decide +kernel
theorem dX11_init_28 : decode cX11_init 28 = .ok (.putfield 21, 3) := by decide +kernel
theorem dX11_init_31 : decode cX11_init 31 = .ok (.aload_n 0, 1) := by decide +kernel
theorem dX11_init_32 : decode cX11_init 32 = .ok (.bipush 12, 2) := by decide +kernel
theorem dX11_init_34 : decode cX11_init 34 = .ok (.newarray .int, 2) := by decide +kernel
theorem dX11_init_36 : decode cX11_init 36 = .ok (.putfield 24, 3) := by decide +kernel
theorem dX11_init_39 : decode cX11_init 39 = .ok (.aload_n 0, 1) := by decide +kernel
theorem dX11_init_40 : decode cX11_init 40 = .ok (.new 9, 3) := by decide +kernel
theorem dX11_init_43 : decode cX11_init 43 = .ok (.dup, 1) := by decide +kernel
theorem dX11_init_44 : decode cX11_init 44 = .ok (.invokespecial 28, 3) := by decide +kernel
theorem dX11_init_47 : decode cX11_init 47 = .ok (.putfield 29, 3) := by decide +kernel
theorem dX11_init_50 : decode cX11_init 50 = .ok (.aload_n 0, 1) := by decide +kernel
theorem dX11_init_51 : decode cX11_init 51 = .ok (.bipush 40, 2) := by decide +kernel
theorem dX11_init_53 : decode cX11_init 53 = .ok (.anewarray 9, 3) := by decide +kernel
theorem dX11_init_56 : decode cX11_init 56 = .ok (.putfield 33, 3) := by decide +kernel
theorem dX11_init_59 : decode cX11_init 59 = .ok (.aload_n 0, 1) := by decide +kernel
theorem dX11_init_60 : decode cX11_init 60 = .ok (.new 36, 3) := by decide +kernel
theorem dX11_init_63 : decode cX11_init 63 = .ok (.dup, 1) := by decide +kernel
theorem dX11_init_64 : decode cX11_init 64 = .ok (.invokespecial 38, 3) := by decide +kernel
theorem dX11_init_67 : decode cX11_init 67 = .ok (.putfield 39, 3) := by decide +kernel
theorem dX11_init_70 : decode cX11_init 70 = .ok (.aload_n 0, 1) := by decide +kernel
theorem dX11_init_71 : decode cX11_init 71 = .ok (.new 43, 3) := by decide +kernel
theorem dX11_init_74 : decode cX11_init 74 = .ok (.dup, 1) := by decide +kernel
theorem dX11_init_75 : decode cX11_init 75 = .ok (.aload_n 0, 1) := by decide +kernel
theorem dX11_init_76 : decode cX11_init 76 = .ok (.getfield 39, 3) := by decide +kernel
theorem dX11_init_79 : decode cX11_init 79 = .ok (.invokespecial 45, 3) := by decide +kernel
theorem dX11_init_82 : decode cX11_init 82 = .ok (.putfield 48, 3) := by decide +kernel
theorem dX11_init_85 : decode cX11_init 85 = .ok (.aload_n 0, 1) := by decide +kernel
theorem dX11_init_86 : decode cX11_init 86 = .ok (.new 52, 3) := by decide +kernel
theorem dX11_init_89 : decode cX11_init 89 = .ok (.dup, 1) := by decide +kernel
theorem dX11_init_90 : decode cX11_init 90 = .ok (.aload_n 0, 1) := by decide +kernel
theorem dX11_init_91 : decode cX11_init 91 = .ok (.getfield 39, 3) := by decide +kernel
theorem dX11_init_94 : decode cX11_init 94 = .ok (.invokespecial 54, 3) := by decide +kernel
theorem dX11_init_97 : decode cX11_init 97 = .ok (.putfield 55, 3) := by decide +kernel
theorem dX11_init_100 : decode cX11_init 100 = .ok (.aload_n 0, 1) := by decide +kernel
theorem dX11_init_101 : decode cX11_init 101 = .ok (.new 59, 3) := by decide +kernel
theorem dX11_init_104 : decode cX11_init 104 = .ok (.dup, 1) := by decide +kernel
theorem dX11_init_105 : decode cX11_init 105 = .ok (.aload_n 0, 1) := by decide +kernel
theorem dX11_init_106 : decode cX11_init 106 = .ok (.getfield 39, 3) := by decide +kernel
theorem dX11_init_109 : decode cX11_init 109 = .ok (.invokespecial 61, 3) := by decide +kernel
theorem dX11_init_112 : decode cX11_init 112 = .ok (.putfield 62, 3) := by decide +kernel
theorem dX11_init_115 : decode cX11_init 115 = .ok (.aload_n 0, 1) := by decide +kernel
theorem dX11_init_116 : decode cX11_init 116 = .ok (.new 66, 3) := by decide +kernel
theorem dX11_init_119 : decode cX11_init 119 = .ok (.dup, 1) := by decide +kernel
theorem dX11_init_120 : decode cX11_init 120 = .ok (.aload_n 0, 1) := by decide +kernel
theorem dX11_init_121 : decode cX11_init 121 = .ok (.getfield 39, 3) := by decide +kernel
theorem dX11_init_124 : decode cX11_init 124 = .ok (.invokespecial 68, 3) := by decide +kernel
theorem dX11_init_127 : decode cX11_init 127 = .ok (.putfield 69, 3) := by decide +kernel
theorem dX11_init_130 : decode cX11_init 130 = .ok (.aload_n 0, 1) := by decide +kernel
theorem dX11_init_131 : decode cX11_init 131 = .ok (.new 73, 3) := by decide +kernel
theorem dX11_init_134 : decode cX11_init 134 = .ok (.dup, 1) := by decide +kernel
theorem dX11_init_135 : decode cX11_init 135 = .ok (.invokespecial 75, 3) := by decide +kernel
theorem dX11_init_138 : decode cX11_init 138 = .ok (.putfield 76, 3) := by decide +kernel
theorem dX11_init_141 : decode cX11_init 141 = .ok (.aload_n 0, 1) := by decide +kernel
theorem dX11_init_142 : decode cX11_init 142 = .ok (.new 80, 3) := by decide +kernel
theorem dX11_init_145 : decode cX11_init 145 = .ok (.dup, 1) := by decide +kernel
theorem dX11_init_146 : decode cX11_init 146 = .ok (.invokespecial 82, 3) := by decide +kernel
theorem dX11_init_149 : decode cX11_init 149 = .ok (.putfield 83, 3) := by decide +kernel
theorem dX11_init_152 : decode cX11_init 152 = .ok (.aload_n 0, 1) := by decide +kernel
theorem dX11_init_153 : decode cX11_init 153 = .ok (.new 80, 3) := by decide +kernel
theorem dX11_init_156 : decode cX11_init 156 = .ok (.dup, 1) := by decide +kernel
theorem dX11_init_157 : decode cX11_init 157 = .ok (.invokespecial 82, 3) := by decide +kernel
theorem dX11_init_160 : decode cX11_init 160 = .ok (.putfield 87, 3) := by decide +kernel
theorem dX11_init_163 : decode cX11_init 163 = .ok (.aload_n 0, 1) := by decide +kernel
theorem dX11_init_164 : decode cX11_init 164 = .ok (.new 80, 3) := by decide +kernel
theorem dX11_init_167 : decode cX11_init 167 = .ok (.dup, 1) := by decide +kernel
theorem dX11_init_168 : decode cX11_init 168 = .ok (.invokespecial 82, 3) := by decide +kernel
theorem dX11_init_171 : decode cX11_init 171 = .ok (.putfield 90, 3) := by decide +kernel
theorem dX11_init_174 : decode cX11_init 174 = .ok (.aload_n 0, 1) := by decide +kernel
theorem dX11_init_175 : decode cX11_init 175 = .ok (.new 80, 3) := by decide +kernel
theorem dX11_init_178 : decode cX11_init 178 = .ok (.dup, 1) := by decide +kernel
theorem dX11_init_179 : decode cX11_init 179 = .ok (.invokespecial 82, 3) := by decide +kernel
theorem dX11_init_182 : decode cX11_init 182 = .ok (.putfield 93, 3) := by decide +kernel
theorem dX11_init_185 : decode cX11_init 185 = .ok (.aload_n 0, 1) := by decide +kernel
theorem dX11_init_186 : decode cX11_init 186 = .ok (.iconst 1, 1) := by decide +kernel
theorem dX11_init_187 : decode cX11_init 187 = .ok (.bipush 10, 2) := by decide +kernel
theorem dX11_init_189 : decode cX11_init 189 = .ok (.iload_n 1, 1) := by decide +kernel
theorem dX11_init_190 : decode cX11_init 190 = .ok (.invokestatic 96, 3) := by decide +kernel
theorem dX11_init_193 : decode cX11_init 193 = .ok (.invokestatic 102, 3) := by decide +kernel
theorem dX11_init_196 : decode cX11_init 196 = .ok (.putfield 105, 3) := by decide +kernel
theorem dX11_init_199 : decode cX11_init 199 = .ok (.return_, 1) := by decide +kernel
theorem dX11_fraction_0 : decode cX11_fraction 0 = .ok (.lload_n 3, 1) := by decide +kernel
theorem dX11_fraction_1 : decode cX11_fraction 1 = .ok (.lconst 0, 1) := by decide +kernel
theorem dX11_fraction_2 : decode cX11_fraction 2 = .ok (.lcmp, 1) := by decide +kernel
theorem dX11_fraction_3 : decode cX11_fraction 3 = .ok (.ifCond .ne 11, 3) := by decide +kernel
theorem dX11_fraction_6 : decode cX11_fraction 6 = .ok (.new 109, 3) := by decide +kernel
theorem dX11_fraction_9 : decode cX11_fraction 9 = .ok (.dup, 1) := by decide +kernel
theorem dX11_fraction_10 : decode cX11_fraction 10 = .ok (.invokespecial 111, 3) := by decide +kernel
theorem dX11_fraction_13 : decode cX11_fraction 13 = .ok (.athrow, 1) := by decide +kernel
theorem dX11_fraction_14 : decode cX11_fraction 14 = .ok (.aload_n 0, 1) := by decide +kernel
theorem dX11_fraction_15 : decode cX11_fraction 15 = .ok (.lload_n 1, 1) := by decide +kernel
theorem dX11_fraction_16 : decode cX11_fraction 16 = .ok (.lload_n 3, 1) := by decide +kernel
theorem dX11_fraction_17 : decode cX11_fraction 17 = .ok (.invokevirtual 112, 3) := by decide +kernel
theorem dX11_fraction_20 : decode cX11_fraction 20 = .ok (.aload_n 0, 1) := by decide +kernel
theorem dX11_fraction_21 : decode cX11_fraction 21 = .ok (.invokevirtual 116, 3) := by decide +kernel
theorem dX11_fraction_24 : decode cX11_fraction 24 = .ok (.ireturn, 1) := by decide +kernel
theorem dX11_apply_0 : decode cX11_apply 0 = .ok (.aload_n 0, 1) := by decide +kernel
theorem dX11_apply_1 : decode cX11_apply 1 = .ok (.iload_n 2, 1) := by decide +kernel
theorem dX11_apply_2 : decode cX11_apply 2 = .ok (.invokevirtual 120, 3) := by decide +kernel
theorem dX11_apply_5 : decode cX11_apply 5 = .ok (.ifCond .ne 11, 3) := by decide +kernel
theorem dX11_apply_8 : decode cX11_apply 8 = .ok (.aload_n 0, 1) := by decide +kernel
theorem dX11_apply_9 : decode cX11_apply 9 = .ok (.iload_n 3, 1) := by decide +kernel
theorem dX11_apply_10 : decode cX11_apply 10 = .ok (.invokevirtual 120, 3) := by decide +kernel
theorem dX11_apply_13 : decode cX11_apply 13 = .ok (.ifCond .eq 6, 3) := by decide +kernel
theorem dX11_apply_16 : decode cX11_apply 16 = .ok (.bipush (-101), 2) := by decide +kernel
theorem dX11_apply_18 : decode cX11_apply 18 = .ok (.ireturn, 1) := by decide +kernel
theorem dX11_apply_19 : decode cX11_apply 19 = .ok (.iload_n 1, 1) := by decide +kernel
theorem dX11_apply_20 : decode cX11_apply 20 = .ok (.ifCond .lt 8, 3) := by decide +kernel
theorem dX11_apply_23 : decode cX11_apply 23 = .ok (.iload_n 1, 1) := by decide +kernel
theorem dX11_apply_24 : decode cX11_apply 24 = .ok (.iconst 3, 1) := by decide +kernel
theorem dX11_apply_25 : decode cX11_apply 25 = .ok (.if_icmp .le 6, 3) := by decide +kernel
theorem dX11_apply_28 : decode cX11_apply 28 = .ok (.bipush (-102), 2) := by decide +kernel
theorem dX11_apply_30 : decode cX11_apply 30 = .ok (.ireturn, 1) := by decide +kernel
theorem dX11_apply_31 : decode cX11_apply 31 = .ok (.aload_n 0, 1) := by decide +kernel
theorem dX11_apply_32 : decode cX11_apply 32 = .ok (.iload_n 1, 1) := by decide +kernel
theorem dX11_apply_33 : decode cX11_apply 33 = .ok (.aload_n 0, 1) := by decide +kernel
theorem dX11_apply_34 : decode cX11_apply 34 = .ok (.getfield 11, 3) := by decide +kernel
theorem dX11_apply_37 : decode cX11_apply 37 = .ok (.iload_n 2, 1) := by decide +kernel
theorem dX11_apply_38 : decode cX11_apply 38 = .ok (.aaload, 1) := by decide +kernel
theorem dX11_apply_39 : decode cX11_apply 39 = .ok (.aload_n 0, 1) := by decide +kernel
theorem dX11_apply_40 : decode cX11_apply 40 = .ok (.getfield 11, 3) := by decide +kernel
theorem dX11_apply_43 : decode cX11_apply 43 = .ok (.iload_n 3, 1) := by decide +kernel
theorem dX11_apply_44 : decode cX11_apply 44 = .ok (.aaload, 1) := by decide +kernel
theorem dX11_apply_45 : decode cX11_apply 45 = .ok (.invokevirtual 124, 3) := by decide +kernel
theorem dX11_apply_48 : decode cX11_apply 48 = .ok (.istore 4, 2) := by decide +kernel
theorem dX11_apply_50 : decode cX11_apply 50 = .ok (.iload 4, 2) := by decide +kernel
theorem dX11_apply_52 : decode cX11_apply 52 = .ok (.iconst 1, 1) := by decide +kernel
theorem dX11_apply_53 : decode cX11_apply 53 = .ok (.if_icmp .ne 13, 3) := by decide +kernel
theorem dX11_apply_56 : decode cX11_apply 56 = .ok (.aload_n 0, 1) := by decide +kernel
theorem dX11_apply_57 : decode cX11_apply 57 = .ok (.aload_n 0, 1) := by decide +kernel
theorem dX11_apply_58 : decode cX11_apply 58 = .ok (.invokevirtual 128, 3) := by decide +kernel
theorem dX11_apply_61 : decode cX11_apply 61 = .ok (.invokevirtual 131, 3) := by decide +kernel
theorem dX11_apply_64 : decode cX11_apply 64 = .ok (.istore 4, 2) := by decide +kernel
theorem dX11_apply_66 : decode cX11_apply 66 = .ok (.iload 4, 2) := by decide +kernel
theorem dX11_apply_68 : decode cX11_apply 68 = .ok (.ifCond .eq 8, 3) := by decide +kernel
theorem dX11_apply_71 : decode cX11_apply 71 = .ok (.iload 4, 2) := by decide +kernel
theorem dX11_apply_73 : decode cX11_apply 73 = .ok (.goto 7, 3) := by decide +kernel
theorem dX11_apply_76 : decode cX11_apply 76 = .ok (.aload_n 0, 1) := by decide +kernel
theorem dX11_apply_77 : decode cX11_apply 77 = .ok (.invokevirtual 116, 3) := by decide +kernel
theorem dX11_apply_80 : decode cX11_apply 80 = .ok (.ireturn, 1) := by decide +kernel
theorem dX11_plain_0 : decode cX11_plain 0 = .ok (.aload_n 0, 1) := by decide +kernel
theorem dX11_plain_1 : decode cX11_plain 1 = .ok (.iload_n 1, 1) := by decide +kernel
theorem dX11_plain_2 : decode cX11_plain 2 = .ok (.invokevirtual 120, 3) := by decide +kernel
theorem dX11_plain_5 : decode cX11_plain 5 = .ok (.ifCond .ne 11, 3) := by decide +kernel
theorem dX11_plain_8 : decode cX11_plain 8 = .ok (.aload_n 0, 1) := by decide +kernel
theorem dX11_plain_9 : decode cX11_plain 9 = .ok (.iload_n 2, 1) := by decide +kernel
theorem dX11_plain_10 : decode cX11_plain 10 = .ok (.invokevirtual 120, 3) := by decide +kernel
theorem dX11_plain_13 : decode cX11_plain 13 = .ok (.ifCond .eq 6, 3) := by decide +kernel
theorem dX11_plain_16 : decode cX11_plain 16 = .ok (.bipush (-101), 2) := by decide +kernel
theorem dX11_plain_18 : decode cX11_plain 18 = .ok (.ireturn, 1) := by decide +kernel
theorem dX11_plain_19 : decode cX11_plain 19 = .ok (.aload_n 0, 1) := by decide +kernel
theorem dX11_plain_20 : decode cX11_plain 20 = .ok (.getfield 11, 3) := by decide +kernel
theorem dX11_plain_23 : decode cX11_plain 23 = .ok (.iload_n 2, 1) := by decide +kernel
theorem dX11_plain_24 : decode cX11_plain 24 = .ok (.aaload, 1) := by decide +kernel
theorem dX11_plain_25 : decode cX11_plain 25 = .ok (.getfield 135, 3) := by decide +kernel
theorem dX11_plain_28 : decode cX11_plain 28 = .ok (.ifCond .ne 11, 3) := by decide +kernel
theorem dX11_plain_31 : decode cX11_plain 31 = .ok (.new 109, 3) := by decide +kernel
theorem dX11_plain_34 : decode cX11_plain 34 = .ok (.dup, 1) := by decide +kernel
theorem dX11_plain_35 : decode cX11_plain 35 = .ok (.invokespecial 111, 3) := by decide +kernel
theorem dX11_plain_38 : decode cX11_plain 38 = .ok (.athrow, 1) := by decide +kernel
theorem dX11_plain_39 : decode cX11_plain 39 = .ok (.aload_n 0, 1) := by decide +kernel
theorem dX11_plain_40 : decode cX11_plain 40 = .ok (.iconst 3, 1) := by decide +kernel
theorem dX11_plain_41 : decode cX11_plain 41 = .ok (.aload_n 0, 1) := by decide +kernel
theorem dX11_plain_42 : decode cX11_plain 42 = .ok (.getfield 11, 3) := by decide +kernel
theorem dX11_plain_45 : decode cX11_plain 45 = .ok (.iload_n 1, 1) := by decide +kernel
theorem dX11_plain_46 : decode cX11_plain 46 = .ok (.aaload, 1) := by decide +kernel
theorem dX11_plain_47 : decode cX11_plain 47 = .ok (.aload_n 0, 1) := by decide +kernel
theorem dX11_plain_48 : decode cX11_plain 48 = .ok (.getfield 11, 3) := by decide +kernel
theorem dX11_plain_51 : decode cX11_plain 51 = .ok (.iload_n 2, 1) := by decide +kernel
theorem dX11_plain_52 : decode cX11_plain 52 = .ok (.aaload, 1) := by decide +kernel
theorem dX11_plain_53 : decode cX11_plain 53 = .ok (.invokevirtual 124, 3) := by decide +kernel
theorem dX11_plain_56 : decode cX11_plain 56 = .ok (.istore_n 3, 1) := by decide +kernel
theorem dX11_plain_57 : decode cX11_plain 57 = .ok (.iload_n 3, 1) := by decide +kernel
theorem dX11_plain_58 : decode cX11_plain 58 = .ok (.iconst 1, 1) := by decide +kernel
theorem dX11_plain_59 : decode cX11_plain 59 = .ok (.if_icmp .ne 12, 3) := by decide +kernel
theorem dX11_plain_62 : decode cX11_plain 62 = .ok (.aload_n 0, 1) := by decide +kernel
theorem dX11_plain_63 : decode cX11_plain 63 = .ok (.aload_n 0, 1) := by decide +kernel
theorem dX11_plain_64 : decode cX11_plain 64 = .ok (.invokevirtual 128, 3) := by decide +kernel
theorem dX11_plain_67 : decode cX11_plain 67 = .ok (.invokevirtual 131, 3) := by decide +kernel
theorem dX11_plain_70 : decode cX11_plain 70 = .ok (.istore_n 3, 1) := by decide +kernel
theorem dX11_plain_71 : decode cX11_plain 71 = .ok (.iload_n 3, 1) := by decide +kernel
theorem dX11_plain_72 : decode cX11_plain 72 = .ok (.ifCond .eq 7, 3) := by decide +kernel
theorem dX11_plain_75 : decode cX11_plain 75 = .ok (.iload_n 3, 1) := by decide +kernel
theorem dX11_plain_76 : decode cX11_plain 76 = .ok (.goto 7, 3) := by decide +kernel
theorem dX11_plain_79 : decode cX11_plain 79 = .ok (.aload_n 0, 1) := by decide +kernel
theorem dX11_plain_80 : decode cX11_plain 80 = .ok (.invokevirtual 116, 3) := by decide +kernel
theorem dX11_plain_83 : decode cX11_plain 83 = .ok (.ireturn, 1) := by decide +kernel
theorem dX11_power_0 : decode cX11_power 0 = .ok (.aload_n 0, 1) := by decide +kernel
theorem dX11_power_1 : decode cX11_power 1 = .ok (.iload_n 1, 1) := by decide +kernel
theorem dX11_power_2 : decode cX11_power 2 = .ok (.invokevirtual 120, 3) := by decide +kernel
theorem dX11_power_5 : decode cX11_power 5 = .ok (.ifCond .eq 6, 3) := by decide +kernel
theorem dX11_power_8 : decode cX11_power 8 = .ok (.bipush (-101), 2) := by decide +kernel
theorem dX11_power_10 : decode cX11_power 10 = .ok (.ireturn, 1) := by decide +kernel
theorem dX11_power_11 : decode cX11_power 11 = .ok (.iload_n 2, 1) := by decide +kernel
theorem dX11_power_12 : decode cX11_power 12 = .ok (.bipush (-8), 2) := by decide +kernel
theorem dX11_power_14 : decode cX11_power 14 = .ok (.if_icmp .lt 9, 3) := by decide +kernel
theorem dX11_power_17 : decode cX11_power 17 = .ok (.iload_n 2, 1) := by decide +kernel
theorem dX11_power_18 : decode cX11_power 18 = .ok (.bipush 8, 2) := by decide +kernel
theorem dX11_power_20 : decode cX11_power 20 = .ok (.if_icmp .le 6, 3) := by decide +kernel
theorem dX11_power_23 : decode cX11_power 23 = .ok (.bipush (-102), 2) := by decide +kernel
theorem dX11_power_25 : decode cX11_power 25 = .ok (.ireturn, 1) := by decide +kernel
theorem dX11_power_26 : decode cX11_power 26 = .ok (.aload_n 0, 1) := by decide +kernel
theorem dX11_power_27 : decode cX11_power 27 = .ok (.aload_n 0, 1) := by decide +kernel
theorem dX11_power_28 : decode cX11_power 28 = .ok (.getfield 11, 3) := by decide +kernel
theorem dX11_power_31 : decode cX11_power 31 = .ok (.iload_n 1, 1) := by decide +kernel
theorem dX11_power_32 : decode cX11_power 32 = .ok (.aaload, 1) := by decide +kernel
theorem dX11_power_33 : decode cX11_power 33 = .ok (.iload_n 2, 1) := by decide +kernel
theorem dX11_power_34 : decode cX11_power 34 = .ok (.invokevirtual 138, 3) := by decide +kernel
theorem dX11_power_37 : decode cX11_power 37 = .ok (.istore_n 3, 1) := by decide +kernel
theorem dX11_power_38 : decode cX11_power 38 = .ok (.iload_n 3, 1) := by decide +kernel
theorem dX11_power_39 : decode cX11_power 39 = .ok (.iconst 4, 1) := by decide +kernel
theorem dX11_power_40 : decode cX11_power 40 = .ok (.if_icmp .ne 8, 3) := by decide +kernel
theorem dX11_power_43 : decode cX11_power 43 = .ok (.aload_n 0, 1) := by decide +kernel
theorem dX11_power_44 : decode cX11_power 44 = .ok (.invokevirtual 142, 3) := by decide +kernel
theorem dX11_power_47 : decode cX11_power 47 = .ok (.istore_n 3, 1) := by decide +kernel
theorem dX11_power_48 : decode cX11_power 48 = .ok (.iload_n 3, 1) := by decide +kernel
theorem dX11_power_49 : decode cX11_power 49 = .ok (.iconst 1, 1) := by decide +kernel
theorem dX11_power_50 : decode cX11_power 50 = .ok (.if_icmp .ne 12, 3) := by decide +kernel
theorem dX11_power_53 : decode cX11_power 53 = .ok (.aload_n 0, 1) := by decide +kernel
theorem dX11_power_54 : decode cX11_power 54 = .ok (.aload_n 0, 1) := by decide +kernel
theorem dX11_power_55 : decode cX11_power 55 = .ok (.invokevirtual 128, 3) := by decide +kernel
theorem dX11_power_58 : decode cX11_power 58 = .ok (.invokevirtual 131, 3) := by decide +kernel
theorem dX11_power_61 : decode cX11_power 61 = .ok (.istore_n 3, 1) := by decide +kernel
theorem dX11_power_62 : decode cX11_power 62 = .ok (.iload_n 3, 1) := by decide +kernel
theorem dX11_power_63 : decode cX11_power 63 = .ok (.ifCond .eq 7, 3) := by decide +kernel
theorem dX11_power_66 : decode cX11_power 66 = .ok (.iload_n 3, 1) := by decide +kernel
theorem dX11_power_67 : decode cX11_power 67 = .ok (.goto 7, 3) := by decide +kernel
theorem dX11_power_70 : decode cX11_power 70 = .ok (.aload_n 0, 1) := by decide +kernel
theorem dX11_power_71 : decode cX11_power 71 = .ok (.invokevirtual 116, 3) := by decide +kernel
theorem dX11_power_74 : decode cX11_power 74 = .ok (.ireturn, 1) := by decide +kernel
theorem dX11_root_0 : decode cX11_root 0 = .ok (.aload_n 0, 1) := by decide +kernel
theorem dX11_root_1 : decode cX11_root 1 = .ok (.iload_n 1, 1) := by decide +kernel
theorem dX11_root_2 : decode cX11_root 2 = .ok (.invokevirtual 120, 3) := by decide +kernel
theorem dX11_root_5 : decode cX11_root 5 = .ok (.ifCond .eq 6, 3) := by decide +kernel
theorem dX11_root_8 : decode cX11_root 8 = .ok (.bipush (-101), 2) := by decide +kernel
theorem dX11_root_10 : decode cX11_root 10 = .ok (.ireturn, 1) := by decide +kernel
theorem dX11_root_11 : decode cX11_root 11 = .ok (.iload_n 2, 1) := by decide +kernel
theorem dX11_root_12 : decode cX11_root 12 = .ok (.iconst 2, 1) := by decide +kernel
theorem dX11_root_13 : decode cX11_root 13 = .ok (.if_icmp .lt 9, 3) := by decide +kernel
theorem dX11_root_16 : decode cX11_root 16 = .ok (.iload_n 2, 1) := by decide +kernel
theorem dX11_root_17 : decode cX11_root 17 = .ok (.bipush 12, 2) := by decide +kernel
theorem dX11_root_19 : decode cX11_root 19 = .ok (.if_icmp .le 6, 3) := by decide +kernel
theorem dX11_root_22 : decode cX11_root 22 = .ok (.bipush (-102), 2) := by decide +kernel
theorem dX11_root_24 : decode cX11_root 24 = .ok (.ireturn, 1) := by decide +kernel
theorem dX11_root_25 : decode cX11_root 25 = .ok (.aload_n 0, 1) := by decide +kernel
theorem dX11_root_26 : decode cX11_root 26 = .ok (.aload_n 0, 1) := by decide +kernel
theorem dX11_root_27 : decode cX11_root 27 = .ok (.getfield 11, 3) := by decide +kernel
theorem dX11_root_30 : decode cX11_root 30 = .ok (.iload_n 1, 1) := by decide +kernel
theorem dX11_root_31 : decode cX11_root 31 = .ok (.aaload, 1) := by decide +kernel
theorem dX11_root_32 : decode cX11_root 32 = .ok (.iload_n 2, 1) := by decide +kernel
theorem dX11_root_33 : decode cX11_root 33 = .ok (.invokevirtual 145, 3) := by decide +kernel
theorem dX11_root_36 : decode cX11_root 36 = .ok (.istore_n 3, 1) := by decide +kernel
theorem dX11_root_37 : decode cX11_root 37 = .ok (.iload_n 3, 1) := by decide +kernel
theorem dX11_root_38 : decode cX11_root 38 = .ok (.iconst 2, 1) := by decide +kernel
theorem dX11_root_39 : decode cX11_root 39 = .ok (.if_icmp .ne 8, 3) := by decide +kernel
theorem dX11_root_42 : decode cX11_root 42 = .ok (.aload_n 0, 1) := by decide +kernel
theorem dX11_root_43 : decode cX11_root 43 = .ok (.invokevirtual 148, 3) := by decide +kernel
theorem dX11_root_46 : decode cX11_root 46 = .ok (.istore_n 3, 1) := by decide +kernel
theorem dX11_root_47 : decode cX11_root 47 = .ok (.iload_n 3, 1) := by decide +kernel
theorem dX11_root_48 : decode cX11_root 48 = .ok (.ifCond .eq 7, 3) := by decide +kernel
theorem dX11_root_51 : decode cX11_root 51 = .ok (.iload_n 3, 1) := by decide +kernel
theorem dX11_root_52 : decode cX11_root 52 = .ok (.goto 7, 3) := by decide +kernel
theorem dX11_root_55 : decode cX11_root 55 = .ok (.aload_n 0, 1) := by decide +kernel
theorem dX11_root_56 : decode cX11_root 56 = .ok (.invokevirtual 116, 3) := by decide +kernel
theorem dX11_root_59 : decode cX11_root 59 = .ok (.ireturn, 1) := by decide +kernel
theorem dX11_turn_0 : decode cX11_turn 0 = .ok (.iload_n 3, 1) := by decide +kernel
theorem dX11_turn_1 : decode cX11_turn 1 = .ok (.iconst 1, 1) := by decide +kernel
theorem dX11_turn_2 : decode cX11_turn 2 = .ok (.if_icmp .lt 9, 3) := by decide +kernel
theorem dX11_turn_5 : decode cX11_turn 5 = .ok (.iload_n 3, 1) := by decide +kernel
theorem dX11_turn_6 : decode cX11_turn 6 = .ok (.bipush 120, 2) := by decide +kernel
theorem dX11_turn_8 : decode cX11_turn 8 = .ok (.if_icmp .le 6, 3) := by decide +kernel
theorem dX11_turn_11 : decode cX11_turn 11 = .ok (.bipush (-102), 2) := by decide +kernel
theorem dX11_turn_13 : decode cX11_turn 13 = .ok (.ireturn, 1) := by decide +kernel
theorem dX11_turn_14 : decode cX11_turn 14 = .ok (.aload_n 0, 1) := by decide +kernel
theorem dX11_turn_15 : decode cX11_turn 15 = .ok (.lload_n 1, 1) := by decide +kernel
theorem dX11_turn_16 : decode cX11_turn 16 = .ok (.iload_n 3, 1) := by decide +kernel
theorem dX11_turn_17 : decode cX11_turn 17 = .ok (.iload 4, 2) := by decide +kernel
theorem dX11_turn_19 : decode cX11_turn 19 = .ok (.invokevirtual 151, 3) := by decide +kernel
theorem dX11_turn_22 : decode cX11_turn 22 = .ok (.istore 5, 2) := by decide +kernel
theorem dX11_turn_24 : decode cX11_turn 24 = .ok (.iload 5, 2) := by decide +kernel
theorem dX11_turn_26 : decode cX11_turn 26 = .ok (.iconst 3, 1) := by decide +kernel
theorem dX11_turn_27 : decode cX11_turn 27 = .ok (.if_icmp .ne 9, 3) := by decide +kernel
theorem dX11_turn_30 : decode cX11_turn 30 = .ok (.aload_n 0, 1) := by decide +kernel
theorem dX11_turn_31 : decode cX11_turn 31 = .ok (.invokevirtual 155, 3) := by decide +kernel
theorem dX11_turn_34 : decode cX11_turn 34 = .ok (.istore 5, 2) := by decide +kernel
theorem dX11_turn_36 : decode cX11_turn 36 = .ok (.iload 5, 2) := by decide +kernel
theorem dX11_turn_38 : decode cX11_turn 38 = .ok (.ifCond .eq 8, 3) := by decide +kernel
theorem dX11_turn_41 : decode cX11_turn 41 = .ok (.iload 5, 2) := by decide +kernel
theorem dX11_turn_43 : decode cX11_turn 43 = .ok (.goto 7, 3) := by decide +kernel
theorem dX11_turn_46 : decode cX11_turn 46 = .ok (.aload_n 0, 1) := by decide +kernel
theorem dX11_turn_47 : decode cX11_turn 47 = .ok (.invokevirtual 116, 3) := by decide +kernel
theorem dX11_turn_50 : decode cX11_turn 50 = .ok (.ireturn, 1) := by decide +kernel
theorem dX11_beside_0 : decode cX11_beside 0 = .ok (.aload_n 0, 1) := by decide +kernel
theorem dX11_beside_1 : decode cX11_beside 1 = .ok (.iload_n 1, 1) := by decide +kernel
theorem dX11_beside_2 : decode cX11_beside 2 = .ok (.invokevirtual 120, 3) := by decide +kernel
theorem dX11_beside_5 : decode cX11_beside 5 = .ok (.ifCond .eq 6, 3) := by decide +kernel
theorem dX11_beside_8 : decode cX11_beside 8 = .ok (.bipush (-101), 2) := by decide +kernel
theorem dX11_beside_10 : decode cX11_beside 10 = .ok (.ireturn, 1) := by decide +kernel
theorem dX11_beside_11 : decode cX11_beside 11 = .ok (.iload_n 2, 1) := by decide +kernel
theorem dX11_beside_12 : decode cX11_beside 12 = .ok (.ifCond .lt 16, 3) := by decide +kernel
theorem dX11_beside_15 : decode cX11_beside 15 = .ok (.iload_n 2, 1) := by decide +kernel
theorem dX11_beside_16 : decode cX11_beside 16 = .ok (.aload_n 0, 1) := by decide +kernel
theorem dX11_beside_17 : decode cX11_beside 17 = .ok (.getfield 11, 3) := by decide +kernel
theorem dX11_beside_20 : decode cX11_beside 20 = .ok (.iload_n 1, 1) := by decide +kernel
theorem dX11_beside_21 : decode cX11_beside 21 = .ok (.aaload, 1) := by decide +kernel
theorem dX11_beside_22 : decode cX11_beside 22 = .ok (.getfield 158, 3) := by decide +kernel
theorem dX11_beside_25 : decode cX11_beside 25 = .ok (.if_icmp .lt 5, 3) := by decide +kernel
theorem dX11_beside_28 : decode cX11_beside 28 = .ok (.iconst (-1), 1) := by decide +kernel
theorem dX11_beside_29 : decode cX11_beside 29 = .ok (.ireturn, 1) := by decide +kernel
theorem dX11_beside_30 : decode cX11_beside 30 = .ok (.iload_n 2, 1) := by decide +kernel
theorem dX11_beside_31 : decode cX11_beside 31 = .ok (.aload_n 0, 1) := by decide +kernel
theorem dX11_beside_32 : decode cX11_beside 32 = .ok (.getfield 11, 3) := by decide +kernel
theorem dX11_beside_35 : decode cX11_beside 35 = .ok (.iload_n 1, 1) := by decide +kernel
theorem dX11_beside_36 : decode cX11_beside 36 = .ok (.aaload, 1) := by decide +kernel
theorem dX11_beside_37 : decode cX11_beside 37 = .ok (.getfield 161, 3) := by decide +kernel
theorem dX11_beside_40 : decode cX11_beside 40 = .ok (.if_icmp .ne 19, 3) := by decide +kernel
theorem dX11_beside_43 : decode cX11_beside 43 = .ok (.aload_n 0, 1) := by decide +kernel
theorem dX11_beside_44 : decode cX11_beside 44 = .ok (.getfield 29, 3) := by decide +kernel
theorem dX11_beside_47 : decode cX11_beside 47 = .ok (.aload_n 0, 1) := by decide +kernel
theorem dX11_beside_48 : decode cX11_beside 48 = .ok (.getfield 11, 3) := by decide +kernel
theorem dX11_beside_51 : decode cX11_beside 51 = .ok (.iload_n 1, 1) := by decide +kernel
theorem dX11_beside_52 : decode cX11_beside 52 = .ok (.aaload, 1) := by decide +kernel
theorem dX11_beside_53 : decode cX11_beside 53 = .ok (.invokevirtual 164, 3) := by decide +kernel
theorem dX11_beside_56 : decode cX11_beside 56 = .ok (.goto 35, 3) := by decide +kernel
theorem dX11_beside_59 : decode cX11_beside 59 = .ok (.aload_n 0, 1) := by decide +kernel
theorem dX11_beside_60 : decode cX11_beside 60 = .ok (.getfield 29, 3) := by decide +kernel
theorem dX11_beside_63 : decode cX11_beside 63 = .ok (.getfield 168, 3) := by decide +kernel
theorem dX11_beside_66 : decode cX11_beside 66 = .ok (.aload_n 0, 1) := by decide +kernel
theorem dX11_beside_67 : decode cX11_beside 67 = .ok (.getfield 11, 3) := by decide +kernel
theorem dX11_beside_70 : decode cX11_beside 70 = .ok (.iload_n 1, 1) := by decide +kernel
theorem dX11_beside_71 : decode cX11_beside 71 = .ok (.aaload, 1) := by decide +kernel
theorem dX11_beside_72 : decode cX11_beside 72 = .ok (.getfield 168, 3) := by decide +kernel
theorem dX11_beside_75 : decode cX11_beside 75 = .ok (.invokevirtual 172, 3) := by decide +kernel
theorem dX11_beside_78 : decode cX11_beside 78 = .ok (.aload_n 0, 1) := by decide +kernel
theorem dX11_beside_79 : decode cX11_beside 79 = .ok (.getfield 29, 3) := by decide +kernel
theorem dX11_beside_82 : decode cX11_beside 82 = .ok (.iload_n 2, 1) := by decide +kernel
theorem dX11_beside_83 : decode cX11_beside 83 = .ok (.putfield 161, 3) := by decide +kernel
theorem dX11_beside_86 : decode cX11_beside 86 = .ok (.aload_n 0, 1) := by decide +kernel
theorem dX11_beside_87 : decode cX11_beside 87 = .ok (.invokevirtual 155, 3) := by decide +kernel
theorem dX11_beside_90 : decode cX11_beside 90 = .ok (.pop, 1) := by decide +kernel
theorem dX11_beside_91 : decode cX11_beside 91 = .ok (.aload_n 0, 1) := by decide +kernel
theorem dX11_beside_92 : decode cX11_beside 92 = .ok (.invokevirtual 116, 3) := by decide +kernel
theorem dX11_beside_95 : decode cX11_beside 95 = .ok (.ireturn, 1) := by decide +kernel
theorem dX11_value_0 : decode cX11_value 0 = .ok (.aload_n 0, 1) := by decide +kernel
theorem dX11_value_1 : decode cX11_value 1 = .ok (.iload_n 1, 1) := by decide +kernel
theorem dX11_value_2 : decode cX11_value 2 = .ok (.invokevirtual 175, 3) := by decide +kernel
theorem dX11_value_5 : decode cX11_value 5 = .ok (.ifCond .ne 11, 3) := by decide +kernel
theorem dX11_value_8 : decode cX11_value 8 = .ok (.aload_n 0, 1) := by decide +kernel
theorem dX11_value_9 : decode cX11_value 9 = .ok (.iload_n 2, 1) := by decide +kernel
theorem dX11_value_10 : decode cX11_value 10 = .ok (.invokevirtual 120, 3) := by decide +kernel
theorem dX11_value_13 : decode cX11_value 13 = .ok (.ifCond .eq 6, 3) := by decide +kernel
theorem dX11_value_16 : decode cX11_value 16 = .ok (.bipush (-101), 2) := by decide +kernel
theorem dX11_value_18 : decode cX11_value 18 = .ok (.ireturn, 1) := by decide +kernel
theorem dX11_value_19 : decode cX11_value 19 = .ok (.aload_n 0, 1) := by decide +kernel
theorem dX11_value_20 : decode cX11_value 20 = .ok (.getfield 48, 3) := by decide +kernel
theorem dX11_value_23 : decode cX11_value 23 = .ok (.getfield 178, 3) := by decide +kernel
theorem dX11_value_26 : decode cX11_value 26 = .ok (.aload_n 0, 1) := by decide +kernel
theorem dX11_value_27 : decode cX11_value 27 = .ok (.getfield 11, 3) := by decide +kernel
theorem dX11_value_30 : decode cX11_value 30 = .ok (.iload_n 2, 1) := by decide +kernel
theorem dX11_value_31 : decode cX11_value 31 = .ok (.aaload, 1) := by decide +kernel
theorem dX11_value_32 : decode cX11_value 32 = .ok (.getfield 168, 3) := by decide +kernel
theorem dX11_value_35 : decode cX11_value 35 = .ok (.invokevirtual 172, 3) := by decide +kernel
theorem dX11_value_38 : decode cX11_value 38 = .ok (.aload_n 0, 1) := by decide +kernel
theorem dX11_value_39 : decode cX11_value 39 = .ok (.getfield 48, 3) := by decide +kernel
theorem dX11_value_42 : decode cX11_value 42 = .ok (.getfield 181, 3) := by decide +kernel
theorem dX11_value_45 : decode cX11_value 45 = .ok (.aload_n 0, 1) := by decide +kernel
theorem dX11_value_46 : decode cX11_value 46 = .ok (.getfield 17, 3) := by decide +kernel
theorem dX11_value_49 : decode cX11_value 49 = .ok (.iload_n 1, 1) := by decide +kernel
theorem dX11_value_50 : decode cX11_value 50 = .ok (.aaload, 1) := by decide +kernel
theorem dX11_value_51 : decode cX11_value 51 = .ok (.invokevirtual 172, 3) := by decide +kernel
theorem dX11_value_54 : decode cX11_value 54 = .ok (.aload_n 0, 1) := by decide +kernel
theorem dX11_value_55 : decode cX11_value 55 = .ok (.getfield 69, 3) := by decide +kernel
theorem dX11_value_58 : decode cX11_value 58 = .ok (.aload_n 0, 1) := by decide +kernel
theorem dX11_value_59 : decode cX11_value 59 = .ok (.getfield 11, 3) := by decide +kernel
theorem dX11_value_62 : decode cX11_value 62 = .ok (.iload_n 2, 1) := by decide +kernel
theorem dX11_value_63 : decode cX11_value 63 = .ok (.aaload, 1) := by decide +kernel
theorem dX11_value_64 : decode cX11_value 64 = .ok (.putfield 184, 3) := by decide +kernel
theorem dX11_value_67 : decode cX11_value 67 = .ok (.aload_n 0, 1) := by decide +kernel
theorem dX11_value_68 : decode cX11_value 68 = .ok (.getfield 69, 3) := by decide +kernel
theorem dX11_value_71 : decode cX11_value 71 = .ok (.iconst 0, 1) := by decide +kernel
theorem dX11_value_72 : decode cX11_value 72 = .ok (.putfield 187, 3) := by decide +kernel
theorem dX11_value_75 : decode cX11_value 75 = .ok (.aload_n 0, 1) := by decide +kernel
theorem dX11_value_76 : decode cX11_value 76 = .ok (.invokevirtual 142, 3) := by decide +kernel
theorem dX11_value_79 : decode cX11_value 79 = .ok (.istore_n 3, 1) := by decide +kernel
theorem dX11_value_80 : decode cX11_value 80 = .ok (.iload_n 3, 1) := by decide +kernel
theorem dX11_value_81 : decode cX11_value 81 = .ok (.iconst 1, 1) := by decide +kernel
theorem dX11_value_82 : decode cX11_value 82 = .ok (.if_icmp .ne 12, 3) := by decide +kernel
theorem dX11_value_85 : decode cX11_value 85 = .ok (.aload_n 0, 1) := by decide +kernel
theorem dX11_value_86 : decode cX11_value 86 = .ok (.aload_n 0, 1) := by decide +kernel
theorem dX11_value_87 : decode cX11_value 87 = .ok (.invokevirtual 128, 3) := by decide +kernel
theorem dX11_value_90 : decode cX11_value 90 = .ok (.invokevirtual 131, 3) := by decide +kernel
theorem dX11_value_93 : decode cX11_value 93 = .ok (.istore_n 3, 1) := by decide +kernel
theorem dX11_value_94 : decode cX11_value 94 = .ok (.iload_n 3, 1) := by decide +kernel
theorem dX11_value_95 : decode cX11_value 95 = .ok (.ifCond .eq 7, 3) := by decide +kernel
theorem dX11_value_98 : decode cX11_value 98 = .ok (.iload_n 3, 1) := by decide +kernel
theorem dX11_value_99 : decode cX11_value 99 = .ok (.goto 7, 3) := by decide +kernel
theorem dX11_value_102 : decode cX11_value 102 = .ok (.aload_n 0, 1) := by decide +kernel
theorem dX11_value_103 : decode cX11_value 103 = .ok (.invokevirtual 116, 3) := by decide +kernel
theorem dX11_value_106 : decode cX11_value 106 = .ok (.ireturn, 1) := by decide +kernel
theorem dX11_rootOf_0 : decode cX11_rootOf 0 = .ok (.aload_n 0, 1) := by decide +kernel
theorem dX11_rootOf_1 : decode cX11_rootOf 1 = .ok (.iload_n 1, 1) := by decide +kernel
theorem dX11_rootOf_2 : decode cX11_rootOf 2 = .ok (.invokevirtual 175, 3) := by decide +kernel
theorem dX11_rootOf_5 : decode cX11_rootOf 5 = .ok (.ifCond .eq 6, 3) := by decide +kernel
theorem dX11_rootOf_8 : decode cX11_rootOf 8 = .ok (.bipush (-101), 2) := by decide +kernel
theorem dX11_rootOf_10 : decode cX11_rootOf 10 = .ok (.ireturn, 1) := by decide +kernel
theorem dX11_rootOf_11 : decode cX11_rootOf 11 = .ok (.aload_n 0, 1) := by decide +kernel
theorem dX11_rootOf_12 : decode cX11_rootOf 12 = .ok (.getfield 17, 3) := by decide +kernel
theorem dX11_rootOf_15 : decode cX11_rootOf 15 = .ok (.iload_n 1, 1) := by decide +kernel
theorem dX11_rootOf_16 : decode cX11_rootOf 16 = .ok (.aaload, 1) := by decide +kernel
theorem dX11_rootOf_17 : decode cX11_rootOf 17 = .ok (.getfield 191, 3) := by decide +kernel
theorem dX11_rootOf_20 : decode cX11_rootOf 20 = .ok (.ifCond .ge 6, 3) := by decide +kernel
theorem dX11_rootOf_23 : decode cX11_rootOf 23 = .ok (.bipush (-103), 2) := by decide +kernel
theorem dX11_rootOf_25 : decode cX11_rootOf 25 = .ok (.ireturn, 1) := by decide +kernel
theorem dX11_rootOf_26 : decode cX11_rootOf 26 = .ok (.aload_n 0, 1) := by decide +kernel
theorem dX11_rootOf_27 : decode cX11_rootOf 27 = .ok (.aload_n 0, 1) := by decide +kernel
theorem dX11_rootOf_28 : decode cX11_rootOf 28 = .ok (.getfield 17, 3) := by decide +kernel
theorem dX11_rootOf_31 : decode cX11_rootOf 31 = .ok (.iload_n 1, 1) := by decide +kernel
theorem dX11_rootOf_32 : decode cX11_rootOf 32 = .ok (.aaload, 1) := by decide +kernel
theorem dX11_rootOf_33 : decode cX11_rootOf 33 = .ok (.invokevirtual 194, 3) := by decide +kernel
theorem dX11_rootOf_36 : decode cX11_rootOf 36 = .ok (.aload_n 0, 1) := by decide +kernel
theorem dX11_rootOf_37 : decode cX11_rootOf 37 = .ok (.getfield 62, 3) := by decide +kernel
theorem dX11_rootOf_40 : decode cX11_rootOf 40 = .ok (.aload_n 0, 1) := by decide +kernel
theorem dX11_rootOf_41 : decode cX11_rootOf 41 = .ok (.getfield 48, 3) := by decide +kernel
theorem dX11_rootOf_44 : decode cX11_rootOf 44 = .ok (.getfield 197, 3) := by decide +kernel
theorem dX11_rootOf_47 : decode cX11_rootOf 47 = .ok (.invokevirtual 200, 3) := by decide +kernel
theorem dX11_rootOf_50 : decode cX11_rootOf 50 = .ok (.iload_n 2, 1) := by decide +kernel
theorem dX11_rootOf_51 : decode cX11_rootOf 51 = .ok (.ifCond .lt 14, 3) := by decide +kernel
theorem dX11_rootOf_54 : decode cX11_rootOf 54 = .ok (.iload_n 2, 1) := by decide +kernel
theorem dX11_rootOf_55 : decode cX11_rootOf 55 = .ok (.aload_n 0, 1) := by decide +kernel
theorem dX11_rootOf_56 : decode cX11_rootOf 56 = .ok (.getfield 62, 3) := by decide +kernel
theorem dX11_rootOf_59 : decode cX11_rootOf 59 = .ok (.getfield 203, 3) := by decide +kernel
theorem dX11_rootOf_62 : decode cX11_rootOf 62 = .ok (.if_icmp .lt 5, 3) := by decide +kernel
theorem dX11_rootOf_65 : decode cX11_rootOf 65 = .ok (.iconst (-1), 1) := by decide +kernel
theorem dX11_rootOf_66 : decode cX11_rootOf 66 = .ok (.ireturn, 1) := by decide +kernel
theorem dX11_rootOf_67 : decode cX11_rootOf 67 = .ok (.aload_n 0, 1) := by decide +kernel
theorem dX11_rootOf_68 : decode cX11_rootOf 68 = .ok (.getfield 29, 3) := by decide +kernel
theorem dX11_rootOf_71 : decode cX11_rootOf 71 = .ok (.iload_n 2, 1) := by decide +kernel
theorem dX11_rootOf_72 : decode cX11_rootOf 72 = .ok (.putfield 161, 3) := by decide +kernel
theorem dX11_rootOf_75 : decode cX11_rootOf 75 = .ok (.aload_n 0, 1) := by decide +kernel
theorem dX11_rootOf_76 : decode cX11_rootOf 76 = .ok (.invokevirtual 148, 3) := by decide +kernel
theorem dX11_rootOf_79 : decode cX11_rootOf 79 = .ok (.istore_n 3, 1) := by decide +kernel
theorem dX11_rootOf_80 : decode cX11_rootOf 80 = .ok (.iload_n 3, 1) := by decide +kernel
theorem dX11_rootOf_81 : decode cX11_rootOf 81 = .ok (.ifCond .eq 7, 3) := by decide +kernel
theorem dX11_rootOf_84 : decode cX11_rootOf 84 = .ok (.iload_n 3, 1) := by decide +kernel
theorem dX11_rootOf_85 : decode cX11_rootOf 85 = .ok (.goto 7, 3) := by decide +kernel
theorem dX11_rootOf_88 : decode cX11_rootOf 88 = .ok (.aload_n 0, 1) := by decide +kernel
theorem dX11_rootOf_89 : decode cX11_rootOf 89 = .ok (.invokevirtual 116, 3) := by decide +kernel
theorem dX11_rootOf_92 : decode cX11_rootOf 92 = .ok (.ireturn, 1) := by decide +kernel
theorem dX11_common_0 : decode cX11_common 0 = .ok (.aload_n 0, 1) := by decide +kernel
theorem dX11_common_1 : decode cX11_common 1 = .ok (.iload_n 1, 1) := by decide +kernel
theorem dX11_common_2 : decode cX11_common 2 = .ok (.invokevirtual 120, 3) := by decide +kernel
theorem dX11_common_5 : decode cX11_common 5 = .ok (.ifCond .ne 11, 3) := by decide +kernel
theorem dX11_common_8 : decode cX11_common 8 = .ok (.aload_n 0, 1) := by decide +kernel
theorem dX11_common_9 : decode cX11_common 9 = .ok (.iload_n 2, 1) := by decide +kernel
theorem dX11_common_10 : decode cX11_common 10 = .ok (.invokevirtual 120, 3) := by decide +kernel
theorem dX11_common_13 : decode cX11_common 13 = .ok (.ifCond .eq 6, 3) := by decide +kernel
theorem dX11_common_16 : decode cX11_common 16 = .ok (.bipush (-101), 2) := by decide +kernel
theorem dX11_common_18 : decode cX11_common 18 = .ok (.ireturn, 1) := by decide +kernel
theorem dX11_common_19 : decode cX11_common 19 = .ok (.aload_n 0, 1) := by decide +kernel
theorem dX11_common_20 : decode cX11_common 20 = .ok (.aload_n 0, 1) := by decide +kernel
theorem dX11_common_21 : decode cX11_common 21 = .ok (.getfield 11, 3) := by decide +kernel
theorem dX11_common_24 : decode cX11_common 24 = .ok (.iload_n 1, 1) := by decide +kernel
theorem dX11_common_25 : decode cX11_common 25 = .ok (.aaload, 1) := by decide +kernel
theorem dX11_common_26 : decode cX11_common 26 = .ok (.aload_n 0, 1) := by decide +kernel
theorem dX11_common_27 : decode cX11_common 27 = .ok (.getfield 11, 3) := by decide +kernel
theorem dX11_common_30 : decode cX11_common 30 = .ok (.iload_n 2, 1) := by decide +kernel
theorem dX11_common_31 : decode cX11_common 31 = .ok (.aaload, 1) := by decide +kernel
theorem dX11_common_32 : decode cX11_common 32 = .ok (.invokevirtual 204, 3) := by decide +kernel
theorem dX11_common_35 : decode cX11_common 35 = .ok (.istore_n 3, 1) := by decide +kernel
theorem dX11_common_36 : decode cX11_common 36 = .ok (.iload_n 3, 1) := by decide +kernel
theorem dX11_common_37 : decode cX11_common 37 = .ok (.iconst 1, 1) := by decide +kernel
theorem dX11_common_38 : decode cX11_common 38 = .ok (.if_icmp .ne 12, 3) := by decide +kernel
theorem dX11_common_41 : decode cX11_common 41 = .ok (.aload_n 0, 1) := by decide +kernel
theorem dX11_common_42 : decode cX11_common 42 = .ok (.aload_n 0, 1) := by decide +kernel
theorem dX11_common_43 : decode cX11_common 43 = .ok (.invokevirtual 128, 3) := by decide +kernel
theorem dX11_common_46 : decode cX11_common 46 = .ok (.invokevirtual 131, 3) := by decide +kernel
theorem dX11_common_49 : decode cX11_common 49 = .ok (.istore_n 3, 1) := by decide +kernel
theorem dX11_common_50 : decode cX11_common 50 = .ok (.iload_n 3, 1) := by decide +kernel
theorem dX11_common_51 : decode cX11_common 51 = .ok (.ifCond .eq 7, 3) := by decide +kernel
theorem dX11_common_54 : decode cX11_common 54 = .ok (.iload_n 3, 1) := by decide +kernel
theorem dX11_common_55 : decode cX11_common 55 = .ok (.goto 7, 3) := by decide +kernel
theorem dX11_common_58 : decode cX11_common 58 = .ok (.aload_n 0, 1) := by decide +kernel
theorem dX11_common_59 : decode cX11_common 59 = .ok (.invokevirtual 116, 3) := by decide +kernel
theorem dX11_common_62 : decode cX11_common 62 = .ok (.ireturn, 1) := by decide +kernel
theorem dX11_read_0 : decode cX11_read 0 = .ok (.aload_n 0, 1) := by decide +kernel
theorem dX11_read_1 : decode cX11_read 1 = .ok (.getfield 76, 3) := by decide +kernel
theorem dX11_read_4 : decode cX11_read 4 = .ok (.aload_n 0, 1) := by decide +kernel
theorem dX11_read_5 : decode cX11_read 5 = .ok (.getfield 208, 3) := by decide +kernel
theorem dX11_read_8 : decode cX11_read 8 = .ok (.invokevirtual 209, 3) := by decide +kernel
theorem dX11_read_11 : decode cX11_read 11 = .ok (.istore_n 1, 1) := by decide +kernel
theorem dX11_read_12 : decode cX11_read 12 = .ok (.iload_n 1, 1) := by decide +kernel
theorem dX11_read_13 : decode cX11_read 13 = .ok (.ifCond .lt 9, 3) := by decide +kernel
theorem dX11_read_16 : decode cX11_read 16 = .ok (.sipush (-1000), 3) := by decide +kernel
theorem dX11_read_19 : decode cX11_read 19 = .ok (.iload_n 1, 1) := by decide +kernel
theorem dX11_read_20 : decode cX11_read 20 = .ok (.isub, 1) := by decide +kernel
theorem dX11_read_21 : decode cX11_read 21 = .ok (.ireturn, 1) := by decide +kernel
theorem dX11_read_22 : decode cX11_read 22 = .ok (.iconst 0, 1) := by decide +kernel
theorem dX11_read_23 : decode cX11_read 23 = .ok (.istore_n 2, 1) := by decide +kernel
theorem dX11_read_24 : decode cX11_read 24 = .ok (.iconst 0, 1) := by decide +kernel
theorem dX11_read_25 : decode cX11_read 25 = .ok (.istore_n 3, 1) := by decide +kernel
theorem dX11_read_26 : decode cX11_read 26 = .ok (.iload_n 3, 1) := by decide +kernel
theorem dX11_read_27 : decode cX11_read 27 = .ok (.aload_n 0, 1) := by decide +kernel
theorem dX11_read_28 : decode cX11_read 28 = .ok (.getfield 76, 3) := by decide +kernel
theorem dX11_read_31 : decode cX11_read 31 = .ok (.getfield 212, 3) := by decide +kernel
theorem dX11_read_34 : decode cX11_read 34 = .ok (.if_icmp .ge 391, 3) := by decide +kernel
theorem dX11_read_37 : decode cX11_read 37 = .ok (.iload_n 3, 1) := by decide +kernel
theorem dX11_read_38 : decode cX11_read 38 = .ok (.aload_n 0, 1) := by decide +kernel
theorem dX11_read_39 : decode cX11_read 39 = .ok (.getfield 76, 3) := by decide +kernel
theorem dX11_read_42 : decode cX11_read 42 = .ok (.getfield 215, 3) := by decide +kernel
theorem dX11_read_45 : decode cX11_read 45 = .ok (.arraylength, 1) := by decide +kernel
theorem dX11_read_46 : decode cX11_read 46 = .ok (.if_icmp .ge 379, 3) := by decide +kernel
theorem dX11_read_49 : decode cX11_read 49 = .ok (.aload_n 0, 1) := by decide +kernel
theorem dX11_read_50 : decode cX11_read 50 = .ok (.getfield 76, 3) := by decide +kernel
theorem dX11_read_53 : decode cX11_read 53 = .ok (.getfield 215, 3) := by decide +kernel
theorem dX11_read_56 : decode cX11_read 56 = .ok (.iload_n 3, 1) := by decide +kernel
theorem dX11_read_57 : decode cX11_read 57 = .ok (.iaload, 1) := by decide +kernel
theorem dX11_read_58 : decode cX11_read 58 = .ok (.istore 4, 2) := by decide +kernel
theorem dX11_read_60 : decode cX11_read 60 = .ok (.aload_n 0, 1) := by decide +kernel
theorem dX11_read_61 : decode cX11_read 61 = .ok (.getfield 76, 3) := by decide +kernel
theorem dX11_read_64 : decode cX11_read 64 = .ok (.getfield 218, 3) := by decide +kernel
theorem dX11_read_67 : decode cX11_read 67 = .ok (.iload_n 3, 1) := by decide +kernel
theorem dX11_read_68 : decode cX11_read 68 = .ok (.iaload, 1) := by decide +kernel
theorem dX11_read_69 : decode cX11_read 69 = .ok (.istore 5, 2) := by decide +kernel
theorem dX11_read_71 : decode cX11_read 71 = .ok (.aload_n 0, 1) := by decide +kernel
theorem dX11_read_72 : decode cX11_read 72 = .ok (.getfield 76, 3) := by decide +kernel
theorem dX11_read_75 : decode cX11_read 75 = .ok (.getfield 221, 3) := by decide +kernel
theorem dX11_read_78 : decode cX11_read 78 = .ok (.iload_n 3, 1) := by decide +kernel
theorem dX11_read_79 : decode cX11_read 79 = .ok (.iaload, 1) := by decide +kernel
theorem dX11_read_80 : decode cX11_read 80 = .ok (.istore 6, 2) := by decide +kernel
theorem dX11_read_82 : decode cX11_read 82 = .ok (.iload 4, 2) := by decide +kernel
theorem dX11_read_84 : decode cX11_read 84 = .ok (.iconst 4, 1) := by decide +kernel
theorem dX11_read_85 : decode cX11_read 85 = .ok (.if_icmp .ge 7, 3) := by decide +kernel
theorem dX11_read_88 : decode cX11_read 88 = .ok (.iconst 2, 1) := by decide +kernel
theorem dX11_read_89 : decode cX11_read 89 = .ok (.goto 15, 3) := by decide +kernel
theorem dX11_read_92 : decode cX11_read 92 = .ok (.iload 4, 2) := by decide +kernel
theorem dX11_read_94 : decode cX11_read 94 = .ok (.bipush 7, 2) := by decide +kernel
theorem dX11_read_96 : decode cX11_read 96 = .ok (.if_icmp .ge 7, 3) := by decide +kernel
theorem dX11_read_99 : decode cX11_read 99 = .ok (.iconst 1, 1) := by decide +kernel
theorem dX11_read_100 : decode cX11_read 100 = .ok (.goto 4, 3) := by decide +kernel
theorem dX11_read_103 : decode cX11_read 103 = .ok (.iconst 0, 1) := by decide +kernel
theorem dX11_read_104 : decode cX11_read 104 = .ok (.istore 7, 2) := by decide +kernel
theorem dX11_read_106 : decode cX11_read 106 = .ok (.iload_n 2, 1) := by decide +kernel
theorem dX11_read_107 : decode cX11_read 107 = .ok (.iload 7, 2) := by decide +kernel
theorem dX11_read_109 : decode cX11_read 109 = .ok (.if_icmp .lt 12, 3) := by decide +kernel
theorem dX11_read_112 : decode cX11_read 112 = .ok (.iload_n 2, 1) := by decide +kernel
theorem dX11_read_113 : decode cX11_read 113 = .ok (.iload 7, 2) := by decide +kernel
theorem dX11_read_115 : decode cX11_read 115 = .ok (.isub, 1) := by decide +kernel
theorem dX11_read_116 : decode cX11_read 116 = .ok (.bipush 40, 2) := by decide +kernel
theorem dX11_read_118 : decode cX11_read 118 = .ok (.if_icmp .lt 6, 3) := by decide +kernel
theorem dX11_read_121 : decode cX11_read 121 = .ok (.bipush (-105), 2) := by decide +kernel
theorem dX11_read_123 : decode cX11_read 123 = .ok (.ireturn, 1) := by decide +kernel
theorem dX11_read_124 : decode cX11_read 124 = .ok (.iload 7, 2) := by decide +kernel
theorem dX11_read_126 : decode cX11_read 126 = .ok (.ifCond .ne 10, 3) := by decide +kernel
theorem dX11_read_129 : decode cX11_read 129 = .ok (.aload_n 0, 1) := by decide +kernel
theorem dX11_read_130 : decode cX11_read 130 = .ok (.getfield 29, 3) := by decide +kernel
theorem dX11_read_133 : decode cX11_read 133 = .ok (.goto 11, 3) := by decide +kernel
theorem dX11_read_136 : decode cX11_read 136 = .ok (.aload_n 0, 1) := by decide +kernel
theorem dX11_read_137 : decode cX11_read 137 = .ok (.getfield 33, 3) := by decide +kernel
theorem dX11_read_140 : decode cX11_read 140 = .ok (.iload_n 2, 1) := by decide +kernel
theorem dX11_read_141 : decode cX11_read 141 = .ok (.iconst 1, 1) := by decide +kernel
theorem dX11_read_142 : decode cX11_read 142 = .ok (.isub, 1) := by decide +kernel
theorem dX11_read_143 : decode cX11_read 143 = .ok (.aaload, 1) := by decide +kernel
theorem dX11_read_144 : decode cX11_read 144 = .ok (.astore 8, 2) := by decide +kernel
theorem dX11_read_146 : decode cX11_read 146 = .ok (.iload 7, 2) := by decide +kernel
theorem dX11_read_148 : decode cX11_read 148 = .ok (.iconst 2, 1) := by decide +kernel
theorem dX11_read_149 : decode cX11_read 149 = .ok (.if_icmp .ne 14, 3) := by decide +kernel
theorem dX11_read_152 : decode cX11_read 152 = .ok (.aload_n 0, 1) := by decide +kernel
theorem dX11_read_153 : decode cX11_read 153 = .ok (.getfield 33, 3) := by decide +kernel
theorem dX11_read_156 : decode cX11_read 156 = .ok (.iload_n 2, 1) := by decide +kernel
theorem dX11_read_157 : decode cX11_read 157 = .ok (.iconst 2, 1) := by decide +kernel
theorem dX11_read_158 : decode cX11_read 158 = .ok (.isub, 1) := by decide +kernel
theorem dX11_read_159 : decode cX11_read 159 = .ok (.aaload, 1) := by decide +kernel
theorem dX11_read_160 : decode cX11_read 160 = .ok (.goto 5, 3) := by decide +kernel
theorem dX11_read_163 : decode cX11_read 163 = .ok (.aload 8, 2) := by decide +kernel
theorem dX11_read_165 : decode cX11_read 165 = .ok (.astore 9, 2) := by decide +kernel
theorem dX11_read_167 : decode cX11_read 167 = .ok (.aload 9, 2) := by decide +kernel
theorem dX11_read_169 : decode cX11_read 169 = .ok (.ifnull 8, 3) := by decide +kernel
theorem dX11_read_172 : decode cX11_read 172 = .ok (.aload 8, 2) := by decide +kernel
theorem dX11_read_174 : decode cX11_read 174 = .ok (.ifnonnull 6, 3) := by decide +kernel
theorem dX11_read_177 : decode cX11_read 177 = .ok (.bipush (-105), 2) := by decide +kernel
theorem dX11_read_179 : decode cX11_read 179 = .ok (.ireturn, 1) := by decide +kernel
theorem dX11_read_180 : decode cX11_read 180 = .ok (.iconst 0, 1) := by decide +kernel
theorem dX11_read_181 : decode cX11_read 181 = .ok (.istore 10, 2) := by decide +kernel
theorem dX11_read_183 : decode cX11_read 183 = .ok (.iload 4, 2) := by decide +kernel
theorem dX11_read_185 : decode cX11_read 185 = .ok (.tableswitch 111 4 8 #[35, 48, 61, 73, 100], 35) := by decide +kernel
theorem dX11_read_220 : decode cX11_read 220 = .ok (.aload_n 0, 1) := by decide +kernel
theorem dX11_read_221 : decode cX11_read 221 = .ok (.aload 9, 2) := by decide +kernel
theorem dX11_read_223 : decode cX11_read 223 = .ok (.iload 5, 2) := by decide +kernel
theorem dX11_read_225 : decode cX11_read 225 = .ok (.invokevirtual 138, 3) := by decide +kernel
theorem dX11_read_228 : decode cX11_read 228 = .ok (.istore 10, 2) := by decide +kernel
theorem dX11_read_230 : decode cX11_read 230 = .ok (.goto 110, 3) := by decide +kernel
theorem dX11_read_233 : decode cX11_read 233 = .ok (.aload_n 0, 1) := by decide +kernel
theorem dX11_read_234 : decode cX11_read 234 = .ok (.aload 9, 2) := by decide +kernel
theorem dX11_read_236 : decode cX11_read 236 = .ok (.iload 5, 2) := by decide +kernel
theorem dX11_read_238 : decode cX11_read 238 = .ok (.invokevirtual 145, 3) := by decide +kernel
theorem dX11_read_241 : decode cX11_read 241 = .ok (.istore 10, 2) := by decide +kernel
theorem dX11_read_243 : decode cX11_read 243 = .ok (.goto 97, 3) := by decide +kernel
theorem dX11_read_246 : decode cX11_read 246 = .ok (.aload_n 0, 1) := by decide +kernel
theorem dX11_read_247 : decode cX11_read 247 = .ok (.getfield 29, 3) := by decide +kernel
theorem dX11_read_250 : decode cX11_read 250 = .ok (.aload 9, 2) := by decide +kernel
theorem dX11_read_252 : decode cX11_read 252 = .ok (.invokevirtual 224, 3) := by decide +kernel
theorem dX11_read_255 : decode cX11_read 255 = .ok (.goto 85, 3) := by decide +kernel
theorem dX11_read_258 : decode cX11_read 258 = .ok (.aload_n 0, 1) := by decide +kernel
theorem dX11_read_259 : decode cX11_read 259 = .ok (.iload 5, 2) := by decide +kernel
theorem dX11_read_261 : decode cX11_read 261 = .ok (.i2l, 1) := by decide +kernel
theorem dX11_read_262 : decode cX11_read 262 = .ok (.iload 6, 2) := by decide +kernel
theorem dX11_read_264 : decode cX11_read 264 = .ok (.invokestatic 227, 3) := by decide +kernel
theorem dX11_read_267 : decode cX11_read 267 = .ok (.iload 6, 2) := by decide +kernel
theorem dX11_read_269 : decode cX11_read 269 = .ok (.ifCond .le 7, 3) := by decide +kernel
theorem dX11_read_272 : decode cX11_read 272 = .ok (.iconst 1, 1) := by decide +kernel
theorem dX11_read_273 : decode cX11_read 273 = .ok (.goto 4, 3) := by decide +kernel
theorem dX11_read_276 : decode cX11_read 276 = .ok (.iconst 0, 1) := by decide +kernel
theorem dX11_read_277 : decode cX11_read 277 = .ok (.invokevirtual 151, 3) := by decide +kernel
theorem dX11_read_280 : decode cX11_read 280 = .ok (.istore 10, 2) := by decide +kernel
theorem dX11_read_282 : decode cX11_read 282 = .ok (.goto 58, 3) := by decide +kernel
theorem dX11_read_285 : decode cX11_read 285 = .ok (.aload_n 0, 1) := by decide +kernel
theorem dX11_read_286 : decode cX11_read 286 = .ok (.iload 5, 2) := by decide +kernel
theorem dX11_read_288 : decode cX11_read 288 = .ok (.i2l, 1) := by decide +kernel
theorem dX11_read_289 : decode cX11_read 289 = .ok (.lconst 1, 1) := by decide +kernel
theorem dX11_read_290 : decode cX11_read 290 = .ok (.invokevirtual 112, 3) := by decide +kernel
theorem dX11_read_293 : decode cX11_read 293 = .ok (.goto 47, 3) := by decide +kernel
theorem dX11_read_296 : decode cX11_read 296 = .ok (.iload 4, 2) := by decide +kernel
theorem dX11_read_298 : decode cX11_read 298 = .ok (.iconst 4, 1) := by decide +kernel
theorem dX11_read_299 : decode cX11_read 299 = .ok (.if_icmp .ge 18, 3) := by decide +kernel
theorem dX11_read_302 : decode cX11_read 302 = .ok (.aload_n 0, 1) := by decide +kernel
theorem dX11_read_303 : decode cX11_read 303 = .ok (.iload 4, 2) := by decide +kernel
theorem dX11_read_305 : decode cX11_read 305 = .ok (.aload 9, 2) := by decide +kernel
theorem dX11_read_307 : decode cX11_read 307 = .ok (.aload 8, 2) := by decide +kernel
theorem dX11_read_309 : decode cX11_read 309 = .ok (.invokevirtual 124, 3) := by decide +kernel
theorem dX11_read_312 : decode cX11_read 312 = .ok (.istore 10, 2) := by decide +kernel
theorem dX11_read_314 : decode cX11_read 314 = .ok (.goto 26, 3) := by decide +kernel
theorem dX11_read_317 : decode cX11_read 317 = .ok (.aload_n 0, 1) := by decide +kernel
theorem dX11_read_318 : decode cX11_read 318 = .ok (.iload 5, 2) := by decide +kernel
theorem dX11_read_320 : decode cX11_read 320 = .ok (.invokevirtual 120, 3) := by decide +kernel
theorem dX11_read_323 : decode cX11_read 323 = .ok (.ifCond .ne 17, 3) := by decide +kernel
theorem dX11_read_326 : decode cX11_read 326 = .ok (.aload_n 0, 1) := by decide +kernel
theorem dX11_read_327 : decode cX11_read 327 = .ok (.getfield 29, 3) := by decide +kernel
theorem dX11_read_330 : decode cX11_read 330 = .ok (.aload_n 0, 1) := by decide +kernel
theorem dX11_read_331 : decode cX11_read 331 = .ok (.getfield 11, 3) := by decide +kernel
theorem dX11_read_334 : decode cX11_read 334 = .ok (.iload 5, 2) := by decide +kernel
theorem dX11_read_336 : decode cX11_read 336 = .ok (.aaload, 1) := by decide +kernel
theorem dX11_read_337 : decode cX11_read 337 = .ok (.invokevirtual 164, 3) := by decide +kernel
theorem dX11_read_340 : decode cX11_read 340 = .ok (.iload 10, 2) := by decide +kernel
theorem dX11_read_342 : decode cX11_read 342 = .ok (.iconst 4, 1) := by decide +kernel
theorem dX11_read_343 : decode cX11_read 343 = .ok (.if_icmp .ne 9, 3) := by decide +kernel
theorem dX11_read_346 : decode cX11_read 346 = .ok (.aload_n 0, 1) := by decide +kernel
theorem dX11_read_347 : decode cX11_read 347 = .ok (.invokevirtual 142, 3) := by decide +kernel
theorem dX11_read_350 : decode cX11_read 350 = .ok (.istore 10, 2) := by decide +kernel
theorem dX11_read_352 : decode cX11_read 352 = .ok (.iload 10, 2) := by decide +kernel
theorem dX11_read_354 : decode cX11_read 354 = .ok (.iconst 1, 1) := by decide +kernel
theorem dX11_read_355 : decode cX11_read 355 = .ok (.if_icmp .ne 16, 3) := by decide +kernel
theorem dX11_read_358 : decode cX11_read 358 = .ok (.aload_n 0, 1) := by decide +kernel
theorem dX11_read_359 : decode cX11_read 359 = .ok (.aload_n 0, 1) := by decide +kernel
theorem dX11_read_360 : decode cX11_read 360 = .ok (.invokevirtual 128, 3) := by decide +kernel
theorem dX11_read_363 : decode cX11_read 363 = .ok (.invokevirtual 131, 3) := by decide +kernel
theorem dX11_read_366 : decode cX11_read 366 = .ok (.istore 10, 2) := by decide +kernel
theorem dX11_read_368 : decode cX11_read 368 = .ok (.goto 30, 3) := by decide +kernel
theorem dX11_read_371 : decode cX11_read 371 = .ok (.iload 10, 2) := by decide +kernel
theorem dX11_read_373 : decode cX11_read 373 = .ok (.iconst 2, 1) := by decide +kernel
theorem dX11_read_374 : decode cX11_read 374 = .ok (.if_icmp .ne 12, 3) := by decide +kernel
theorem dX11_read_377 : decode cX11_read 377 = .ok (.aload_n 0, 1) := by decide +kernel
theorem dX11_read_378 : decode cX11_read 378 = .ok (.invokevirtual 148, 3) := by decide +kernel
theorem dX11_read_381 : decode cX11_read 381 = .ok (.istore 10, 2) := by decide +kernel
theorem dX11_read_383 : decode cX11_read 383 = .ok (.goto 15, 3) := by decide +kernel
theorem dX11_read_386 : decode cX11_read 386 = .ok (.iload 10, 2) := by decide +kernel
theorem dX11_read_388 : decode cX11_read 388 = .ok (.iconst 3, 1) := by decide +kernel
theorem dX11_read_389 : decode cX11_read 389 = .ok (.if_icmp .ne 9, 3) := by decide +kernel
theorem dX11_read_392 : decode cX11_read 392 = .ok (.aload_n 0, 1) := by decide +kernel
theorem dX11_read_393 : decode cX11_read 393 = .ok (.invokevirtual 155, 3) := by decide +kernel
theorem dX11_read_396 : decode cX11_read 396 = .ok (.istore 10, 2) := by decide +kernel
theorem dX11_read_398 : decode cX11_read 398 = .ok (.iload 10, 2) := by decide +kernel
theorem dX11_read_400 : decode cX11_read 400 = .ok (.ifCond .eq 6, 3) := by decide +kernel
theorem dX11_read_403 : decode cX11_read 403 = .ok (.iload 10, 2) := by decide +kernel
theorem dX11_read_405 : decode cX11_read 405 = .ok (.ireturn, 1) := by decide +kernel
theorem dX11_read_406 : decode cX11_read 406 = .ok (.iload_n 2, 1) := by decide +kernel
theorem dX11_read_407 : decode cX11_read 407 = .ok (.iload 7, 2) := by decide +kernel
theorem dX11_read_409 : decode cX11_read 409 = .ok (.isub, 1) := by decide +kernel
theorem dX11_read_410 : decode cX11_read 410 = .ok (.istore_n 2, 1) := by decide +kernel
theorem dX11_read_411 : decode cX11_read 411 = .ok (.aload_n 0, 1) := by decide +kernel
theorem dX11_read_412 : decode cX11_read 412 = .ok (.iload_n 2, 1) := by decide +kernel
theorem dX11_read_413 : decode cX11_read 413 = .ok (.invokevirtual 230, 3) := by decide +kernel
theorem dX11_read_416 : decode cX11_read 416 = .ok (.iinc 2 1, 3) := by decide +kernel
theorem dX11_read_419 : decode cX11_read 419 = .ok (.iinc 3 1, 3) := by decide +kernel
theorem dX11_read_422 : decode cX11_read 422 = .ok (.goto (-396), 3) := by decide +kernel
theorem dX11_read_425 : decode cX11_read 425 = .ok (.iload_n 2, 1) := by decide +kernel
theorem dX11_read_426 : decode cX11_read 426 = .ok (.iconst 1, 1) := by decide +kernel
theorem dX11_read_427 : decode cX11_read 427 = .ok (.if_icmp .lt 14, 3) := by decide +kernel
theorem dX11_read_430 : decode cX11_read 430 = .ok (.aload_n 0, 1) := by decide +kernel
theorem dX11_read_431 : decode cX11_read 431 = .ok (.getfield 33, 3) := by decide +kernel
theorem dX11_read_434 : decode cX11_read 434 = .ok (.iload_n 2, 1) := by decide +kernel
theorem dX11_read_435 : decode cX11_read 435 = .ok (.iconst 1, 1) := by decide +kernel
theorem dX11_read_436 : decode cX11_read 436 = .ok (.isub, 1) := by decide +kernel
theorem dX11_read_437 : decode cX11_read 437 = .ok (.aaload, 1) := by decide +kernel
theorem dX11_read_438 : decode cX11_read 438 = .ok (.ifnonnull 6, 3) := by decide +kernel
theorem dX11_read_441 : decode cX11_read 441 = .ok (.bipush (-105), 2) := by decide +kernel
theorem dX11_read_443 : decode cX11_read 443 = .ok (.ireturn, 1) := by decide +kernel
theorem dX11_read_444 : decode cX11_read 444 = .ok (.aload_n 0, 1) := by decide +kernel
theorem dX11_read_445 : decode cX11_read 445 = .ok (.getfield 29, 3) := by decide +kernel
theorem dX11_read_448 : decode cX11_read 448 = .ok (.aload_n 0, 1) := by decide +kernel
theorem dX11_read_449 : decode cX11_read 449 = .ok (.getfield 33, 3) := by decide +kernel
theorem dX11_read_452 : decode cX11_read 452 = .ok (.iload_n 2, 1) := by decide +kernel
theorem dX11_read_453 : decode cX11_read 453 = .ok (.iconst 1, 1) := by decide +kernel
theorem dX11_read_454 : decode cX11_read 454 = .ok (.isub, 1) := by decide +kernel
theorem dX11_read_455 : decode cX11_read 455 = .ok (.aaload, 1) := by decide +kernel
theorem dX11_read_456 : decode cX11_read 456 = .ok (.invokevirtual 164, 3) := by decide +kernel
theorem dX11_read_459 : decode cX11_read 459 = .ok (.aload_n 0, 1) := by decide +kernel
theorem dX11_read_460 : decode cX11_read 460 = .ok (.invokevirtual 116, 3) := by decide +kernel
theorem dX11_read_463 : decode cX11_read 463 = .ok (.ireturn, 1) := by decide +kernel
theorem dX11_drop_0 : decode cX11_drop 0 = .ok (.aload_n 0, 1) := by decide +kernel
theorem dX11_drop_1 : decode cX11_drop 1 = .ok (.getfield 208, 3) := by decide +kernel
theorem dX11_drop_4 : decode cX11_drop 4 = .ok (.ifCond .ne 6, 3) := by decide +kernel
theorem dX11_drop_7 : decode cX11_drop 7 = .ok (.bipush (-106), 2) := by decide +kernel
theorem dX11_drop_9 : decode cX11_drop 9 = .ok (.ireturn, 1) := by decide +kernel
theorem dX11_drop_10 : decode cX11_drop 10 = .ok (.aload_n 0, 1) := by decide +kernel
theorem dX11_drop_11 : decode cX11_drop 11 = .ok (.dup, 1) := by decide +kernel
theorem dX11_drop_12 : decode cX11_drop 12 = .ok (.getfield 208, 3) := by decide +kernel
theorem dX11_drop_15 : decode cX11_drop 15 = .ok (.iconst 1, 1) := by decide +kernel
theorem dX11_drop_16 : decode cX11_drop 16 = .ok (.isub, 1) := by decide +kernel
theorem dX11_drop_17 : decode cX11_drop 17 = .ok (.putfield 208, 3) := by decide +kernel
theorem dX11_drop_20 : decode cX11_drop 20 = .ok (.aload_n 0, 1) := by decide +kernel
theorem dX11_drop_21 : decode cX11_drop 21 = .ok (.getfield 208, 3) := by decide +kernel
theorem dX11_drop_24 : decode cX11_drop 24 = .ok (.ireturn, 1) := by decide +kernel
theorem dX11_compare_0 : decode cX11_compare 0 = .ok (.aload_n 0, 1) := by decide +kernel
theorem dX11_compare_1 : decode cX11_compare 1 = .ok (.iload_n 1, 1) := by decide +kernel
theorem dX11_compare_2 : decode cX11_compare 2 = .ok (.invokevirtual 120, 3) := by decide +kernel
theorem dX11_compare_5 : decode cX11_compare 5 = .ok (.ifCond .ne 11, 3) := by decide +kernel
theorem dX11_compare_8 : decode cX11_compare 8 = .ok (.aload_n 0, 1) := by decide +kernel
theorem dX11_compare_9 : decode cX11_compare 9 = .ok (.iload_n 2, 1) := by decide +kernel
theorem dX11_compare_10 : decode cX11_compare 10 = .ok (.invokevirtual 120, 3) := by decide +kernel
theorem dX11_compare_13 : decode cX11_compare 13 = .ok (.ifCond .eq 6, 3) := by decide +kernel
theorem dX11_compare_16 : decode cX11_compare 16 = .ok (.bipush (-2), 2) := by decide +kernel
theorem dX11_compare_18 : decode cX11_compare 18 = .ok (.ireturn, 1) := by decide +kernel
theorem dX11_compare_19 : decode cX11_compare 19 = .ok (.aload_n 0, 1) := by decide +kernel
theorem dX11_compare_20 : decode cX11_compare 20 = .ok (.getfield 11, 3) := by decide +kernel
theorem dX11_compare_23 : decode cX11_compare 23 = .ok (.iload_n 1, 1) := by decide +kernel
theorem dX11_compare_24 : decode cX11_compare 24 = .ok (.aaload, 1) := by decide +kernel
theorem dX11_compare_25 : decode cX11_compare 25 = .ok (.astore_n 3, 1) := by decide +kernel
theorem dX11_compare_26 : decode cX11_compare 26 = .ok (.aload_n 0, 1) := by decide +kernel
theorem dX11_compare_27 : decode cX11_compare 27 = .ok (.getfield 11, 3) := by decide +kernel
theorem dX11_compare_30 : decode cX11_compare 30 = .ok (.iload_n 2, 1) := by decide +kernel
theorem dX11_compare_31 : decode cX11_compare 31 = .ok (.aaload, 1) := by decide +kernel
theorem dX11_compare_32 : decode cX11_compare 32 = .ok (.astore 4, 2) := by decide +kernel
theorem dX11_compare_34 : decode cX11_compare 34 = .ok (.aload_n 3, 1) := by decide +kernel
theorem dX11_compare_35 : decode cX11_compare 35 = .ok (.getfield 168, 3) := by decide +kernel
theorem dX11_compare_38 : decode cX11_compare 38 = .ok (.aload 4, 2) := by decide +kernel
theorem dX11_compare_40 : decode cX11_compare 40 = .ok (.getfield 168, 3) := by decide +kernel
theorem dX11_compare_43 : decode cX11_compare 43 = .ok (.invokevirtual 234, 3) := by decide +kernel
theorem dX11_compare_46 : decode cX11_compare 46 = .ok (.ifCond .eq 16, 3) := by decide +kernel
theorem dX11_compare_49 : decode cX11_compare 49 = .ok (.aload_n 3, 1) := by decide +kernel
theorem dX11_compare_50 : decode cX11_compare 50 = .ok (.getfield 161, 3) := by decide +kernel
theorem dX11_compare_53 : decode cX11_compare 53 = .ok (.aload 4, 2) := by decide +kernel
theorem dX11_compare_55 : decode cX11_compare 55 = .ok (.getfield 161, 3) := by decide +kernel
theorem dX11_compare_58 : decode cX11_compare 58 = .ok (.invokestatic 238, 3) := by decide +kernel
theorem dX11_compare_61 : decode cX11_compare 61 = .ok (.ireturn, 1) := by decide +kernel
theorem dX11_compare_62 : decode cX11_compare 62 = .ok (.aload_n 3, 1) := by decide +kernel
theorem dX11_compare_63 : decode cX11_compare 63 = .ok (.getfield 168, 3) := by decide +kernel
theorem dX11_compare_66 : decode cX11_compare 66 = .ok (.getfield 191, 3) := by decide +kernel
theorem dX11_compare_69 : decode cX11_compare 69 = .ok (.iconst 1, 1) := by decide +kernel
theorem dX11_compare_70 : decode cX11_compare 70 = .ok (.if_icmp .ne 79, 3) := by decide +kernel
theorem dX11_compare_73 : decode cX11_compare 73 = .ok (.aload 4, 2) := by decide +kernel
theorem dX11_compare_75 : decode cX11_compare 75 = .ok (.getfield 168, 3) := by decide +kernel
theorem dX11_compare_78 : decode cX11_compare 78 = .ok (.getfield 191, 3) := by decide +kernel
theorem dX11_compare_81 : decode cX11_compare 81 = .ok (.iconst 1, 1) := by decide +kernel
theorem dX11_compare_82 : decode cX11_compare 82 = .ok (.if_icmp .ne 67, 3) := by decide +kernel
theorem dX11_compare_85 : decode cX11_compare 85 = .ok (.aload_n 0, 1) := by decide +kernel
theorem dX11_compare_86 : decode cX11_compare 86 = .ok (.getfield 87, 3) := by decide +kernel
theorem dX11_compare_89 : decode cX11_compare 89 = .ok (.aload_n 3, 1) := by decide +kernel
theorem dX11_compare_90 : decode cX11_compare 90 = .ok (.getfield 168, 3) := by decide +kernel
theorem dX11_compare_93 : decode cX11_compare 93 = .ok (.getfield 243, 3) := by decide +kernel
theorem dX11_compare_96 : decode cX11_compare 96 = .ok (.iconst 0, 1) := by decide +kernel
theorem dX11_compare_97 : decode cX11_compare 97 = .ok (.aaload, 1) := by decide +kernel
theorem dX11_compare_98 : decode cX11_compare 98 = .ok (.aload 4, 2) := by decide +kernel
theorem dX11_compare_100 : decode cX11_compare 100 = .ok (.getfield 168, 3) := by decide +kernel
theorem dX11_compare_103 : decode cX11_compare 103 = .ok (.getfield 243, 3) := by decide +kernel
theorem dX11_compare_106 : decode cX11_compare 106 = .ok (.iconst 1, 1) := by decide +kernel
theorem dX11_compare_107 : decode cX11_compare 107 = .ok (.aaload, 1) := by decide +kernel
theorem dX11_compare_108 : decode cX11_compare 108 = .ok (.invokevirtual 247, 3) := by decide +kernel
theorem dX11_compare_111 : decode cX11_compare 111 = .ok (.aload_n 0, 1) := by decide +kernel
theorem dX11_compare_112 : decode cX11_compare 112 = .ok (.getfield 90, 3) := by decide +kernel
theorem dX11_compare_115 : decode cX11_compare 115 = .ok (.aload 4, 2) := by decide +kernel
theorem dX11_compare_117 : decode cX11_compare 117 = .ok (.getfield 168, 3) := by decide +kernel
theorem dX11_compare_120 : decode cX11_compare 120 = .ok (.getfield 243, 3) := by decide +kernel
theorem dX11_compare_123 : decode cX11_compare 123 = .ok (.iconst 0, 1) := by decide +kernel
theorem dX11_compare_124 : decode cX11_compare 124 = .ok (.aaload, 1) := by decide +kernel
theorem dX11_compare_125 : decode cX11_compare 125 = .ok (.aload_n 3, 1) := by decide +kernel
theorem dX11_compare_126 : decode cX11_compare 126 = .ok (.getfield 168, 3) := by decide +kernel
theorem dX11_compare_129 : decode cX11_compare 129 = .ok (.getfield 243, 3) := by decide +kernel
theorem dX11_compare_132 : decode cX11_compare 132 = .ok (.iconst 1, 1) := by decide +kernel
theorem dX11_compare_133 : decode cX11_compare 133 = .ok (.aaload, 1) := by decide +kernel
theorem dX11_compare_134 : decode cX11_compare 134 = .ok (.invokevirtual 247, 3) := by decide +kernel
theorem dX11_compare_137 : decode cX11_compare 137 = .ok (.aload_n 0, 1) := by decide +kernel
theorem dX11_compare_138 : decode cX11_compare 138 = .ok (.getfield 90, 3) := by decide +kernel
theorem dX11_compare_141 : decode cX11_compare 141 = .ok (.aload_n 0, 1) := by decide +kernel
theorem dX11_compare_142 : decode cX11_compare 142 = .ok (.getfield 87, 3) := by decide +kernel
theorem dX11_compare_145 : decode cX11_compare 145 = .ok (.invokevirtual 250, 3) := by decide +kernel
theorem dX11_compare_148 : decode cX11_compare 148 = .ok (.ireturn, 1) := by decide +kernel
theorem dX11_compare_149 : decode cX11_compare 149 = .ok (.aload_n 3, 1) := by decide +kernel
theorem dX11_compare_150 : decode cX11_compare 150 = .ok (.getfield 168, 3) := by decide +kernel
theorem dX11_compare_153 : decode cX11_compare 153 = .ok (.getfield 191, 3) := by decide +kernel
theorem dX11_compare_156 : decode cX11_compare 156 = .ok (.iconst 1, 1) := by decide +kernel
theorem dX11_compare_157 : decode cX11_compare 157 = .ok (.if_icmp .ne 12, 3) := by decide +kernel
theorem dX11_compare_160 : decode cX11_compare 160 = .ok (.aload_n 0, 1) := by decide +kernel
theorem dX11_compare_161 : decode cX11_compare 161 = .ok (.aload 4, 2) := by decide +kernel
theorem dX11_compare_163 : decode cX11_compare 163 = .ok (.aload_n 3, 1) := by decide +kernel
theorem dX11_compare_164 : decode cX11_compare 164 = .ok (.invokevirtual 254, 3) := by decide +kernel
theorem dX11_compare_167 : decode cX11_compare 167 = .ok (.ineg, 1) := by decide +kernel
theorem dX11_compare_168 : decode cX11_compare 168 = .ok (.ireturn, 1) := by decide +kernel
theorem dX11_compare_169 : decode cX11_compare 169 = .ok (.aload 4, 2) := by decide +kernel
theorem dX11_compare_171 : decode cX11_compare 171 = .ok (.getfield 168, 3) := by decide +kernel
theorem dX11_compare_174 : decode cX11_compare 174 = .ok (.getfield 191, 3) := by decide +kernel
theorem dX11_compare_177 : decode cX11_compare 177 = .ok (.iconst 1, 1) := by decide +kernel
theorem dX11_compare_178 : decode cX11_compare 178 = .ok (.if_icmp .ne 11, 3) := by decide +kernel
theorem dX11_compare_181 : decode cX11_compare 181 = .ok (.aload_n 0, 1) := by decide +kernel
theorem dX11_compare_182 : decode cX11_compare 182 = .ok (.aload_n 3, 1) := by decide +kernel
theorem dX11_compare_183 : decode cX11_compare 183 = .ok (.aload 4, 2) := by decide +kernel
theorem dX11_compare_185 : decode cX11_compare 185 = .ok (.invokevirtual 254, 3) := by decide +kernel
theorem dX11_compare_188 : decode cX11_compare 188 = .ok (.ireturn, 1) := by decide +kernel
theorem dX11_compare_189 : decode cX11_compare 189 = .ok (.bipush 32, 2) := by decide +kernel
theorem dX11_compare_191 : decode cX11_compare 191 = .ok (.istore 5, 2) := by decide +kernel
theorem dX11_compare_193 : decode cX11_compare 193 = .ok (.iload 5, 2) := by decide +kernel
theorem dX11_compare_195 : decode cX11_compare 195 = .ok (.sipush 16384, 3) := by decide +kernel
theorem dX11_compare_198 : decode cX11_compare 198 = .ok (.if_icmp .gt 99, 3) := by decide +kernel
theorem dX11_compare_201 : decode cX11_compare 201 = .ok (.aload_n 0, 1) := by decide +kernel
theorem dX11_compare_202 : decode cX11_compare 202 = .ok (.getfield 69, 3) := by decide +kernel
theorem dX11_compare_205 : decode cX11_compare 205 = .ok (.aload_n 3, 1) := by decide +kernel
theorem dX11_compare_206 : decode cX11_compare 206 = .ok (.iload 5, 2) := by decide +kernel
theorem dX11_compare_208 : decode cX11_compare 208 = .ok (.aload_n 0, 1) := by decide +kernel
theorem dX11_compare_209 : decode cX11_compare 209 = .ok (.getfield 69, 3) := by decide +kernel
theorem dX11_compare_212 : decode cX11_compare 212 = .ok (.getfield 257, 3) := by decide +kernel
theorem dX11_compare_215 : decode cX11_compare 215 = .ok (.invokevirtual 260, 3) := by decide +kernel
theorem dX11_compare_218 : decode cX11_compare 218 = .ok (.aload_n 0, 1) := by decide +kernel
theorem dX11_compare_219 : decode cX11_compare 219 = .ok (.getfield 69, 3) := by decide +kernel
theorem dX11_compare_222 : decode cX11_compare 222 = .ok (.aload 4, 2) := by decide +kernel
theorem dX11_compare_224 : decode cX11_compare 224 = .ok (.iload 5, 2) := by decide +kernel
theorem dX11_compare_226 : decode cX11_compare 226 = .ok (.aload_n 0, 1) := by decide +kernel
theorem dX11_compare_227 : decode cX11_compare 227 = .ok (.getfield 69, 3) := by decide +kernel
theorem dX11_compare_230 : decode cX11_compare 230 = .ok (.getfield 264, 3) := by decide +kernel
theorem dX11_compare_233 : decode cX11_compare 233 = .ok (.invokevirtual 260, 3) := by decide +kernel
theorem dX11_compare_236 : decode cX11_compare 236 = .ok (.aload_n 0, 1) := by decide +kernel
theorem dX11_compare_237 : decode cX11_compare 237 = .ok (.getfield 69, 3) := by decide +kernel
theorem dX11_compare_240 : decode cX11_compare 240 = .ok (.getfield 257, 3) := by decide +kernel
theorem dX11_compare_243 : decode cX11_compare 243 = .ok (.iconst 1, 1) := by decide +kernel
theorem dX11_compare_244 : decode cX11_compare 244 = .ok (.aaload, 1) := by decide +kernel
theorem dX11_compare_245 : decode cX11_compare 245 = .ok (.aload_n 0, 1) := by decide +kernel
theorem dX11_compare_246 : decode cX11_compare 246 = .ok (.getfield 69, 3) := by decide +kernel
theorem dX11_compare_249 : decode cX11_compare 249 = .ok (.getfield 264, 3) := by decide +kernel
theorem dX11_compare_252 : decode cX11_compare 252 = .ok (.iconst 0, 1) := by decide +kernel
theorem dX11_compare_253 : decode cX11_compare 253 = .ok (.aaload, 1) := by decide +kernel
theorem dX11_compare_254 : decode cX11_compare 254 = .ok (.invokevirtual 250, 3) := by decide +kernel
theorem dX11_compare_257 : decode cX11_compare 257 = .ok (.ifCond .gt 5, 3) := by decide +kernel
theorem dX11_compare_260 : decode cX11_compare 260 = .ok (.iconst (-1), 1) := by decide +kernel
theorem dX11_compare_261 : decode cX11_compare 261 = .ok (.ireturn, 1) := by decide +kernel
theorem dX11_compare_262 : decode cX11_compare 262 = .ok (.aload_n 0, 1) := by decide +kernel
theorem dX11_compare_263 : decode cX11_compare 263 = .ok (.getfield 69, 3) := by decide +kernel
theorem dX11_compare_266 : decode cX11_compare 266 = .ok (.getfield 264, 3) := by decide +kernel
theorem dX11_compare_269 : decode cX11_compare 269 = .ok (.iconst 1, 1) := by decide +kernel
theorem dX11_compare_270 : decode cX11_compare 270 = .ok (.aaload, 1) := by decide +kernel
theorem dX11_compare_271 : decode cX11_compare 271 = .ok (.aload_n 0, 1) := by decide +kernel
theorem dX11_compare_272 : decode cX11_compare 272 = .ok (.getfield 69, 3) := by decide +kernel
theorem dX11_compare_275 : decode cX11_compare 275 = .ok (.getfield 257, 3) := by decide +kernel
theorem dX11_compare_278 : decode cX11_compare 278 = .ok (.iconst 0, 1) := by decide +kernel
theorem dX11_compare_279 : decode cX11_compare 279 = .ok (.aaload, 1) := by decide +kernel
theorem dX11_compare_280 : decode cX11_compare 280 = .ok (.invokevirtual 250, 3) := by decide +kernel
theorem dX11_compare_283 : decode cX11_compare 283 = .ok (.ifCond .gt 5, 3) := by decide +kernel
theorem dX11_compare_286 : decode cX11_compare 286 = .ok (.iconst 1, 1) := by decide +kernel
theorem dX11_compare_287 : decode cX11_compare 287 = .ok (.ireturn, 1) := by decide +kernel
theorem dX11_compare_288 : decode cX11_compare 288 = .ok (.iload 5, 2) := by decide +kernel
theorem dX11_compare_290 : decode cX11_compare 290 = .ok (.iconst 2, 1) := by decide +kernel
theorem dX11_compare_291 : decode cX11_compare 291 = .ok (.imul, 1) := by decide +kernel
theorem dX11_compare_292 : decode cX11_compare 292 = .ok (.istore 5, 2) := by decide +kernel
theorem dX11_compare_294 : decode cX11_compare 294 = .ok (.goto (-101), 3) := by decide +kernel
theorem dX11_compare_297 : decode cX11_compare 297 = .ok (.iconst 0, 1) := by decide +kernel
theorem dX11_compare_298 : decode cX11_compare 298 = .ok (.ireturn, 1) := by decide +kernel
theorem dX11_sign_0 : decode cX11_sign 0 = .ok (.aload_n 0, 1) := by decide +kernel
theorem dX11_sign_1 : decode cX11_sign 1 = .ok (.iload_n 1, 1) := by decide +kernel
theorem dX11_sign_2 : decode cX11_sign 2 = .ok (.invokevirtual 120, 3) := by decide +kernel
theorem dX11_sign_5 : decode cX11_sign 5 = .ok (.ifCond .eq 8, 3) := by decide +kernel
theorem dX11_sign_8 : decode cX11_sign 8 = .ok (.bipush (-101), 2) := by decide +kernel
theorem dX11_sign_10 : decode cX11_sign 10 = .ok (.goto 12, 3) := by decide +kernel
theorem dX11_sign_13 : decode cX11_sign 13 = .ok (.aload_n 0, 1) := by decide +kernel
theorem dX11_sign_14 : decode cX11_sign 14 = .ok (.getfield 11, 3) := by decide +kernel
theorem dX11_sign_17 : decode cX11_sign 17 = .ok (.iload_n 1, 1) := by decide +kernel
theorem dX11_sign_18 : decode cX11_sign 18 = .ok (.aaload, 1) := by decide +kernel
theorem dX11_sign_19 : decode cX11_sign 19 = .ok (.getfield 135, 3) := by decide +kernel
theorem dX11_sign_22 : decode cX11_sign 22 = .ok (.ireturn, 1) := by decide +kernel
theorem dX11_about_0 : decode cX11_about 0 = .ok (.aload_n 0, 1) := by decide +kernel
theorem dX11_about_1 : decode cX11_about 1 = .ok (.iload_n 1, 1) := by decide +kernel
theorem dX11_about_2 : decode cX11_about 2 = .ok (.invokevirtual 120, 3) := by decide +kernel
theorem dX11_about_5 : decode cX11_about 5 = .ok (.ifCond .eq 6, 3) := by decide +kernel
theorem dX11_about_8 : decode cX11_about 8 = .ok (.bipush (-101), 2) := by decide +kernel
theorem dX11_about_10 : decode cX11_about 10 = .ok (.ireturn, 1) := by decide +kernel
theorem dX11_about_11 : decode cX11_about 11 = .ok (.iload_n 2, 1) := by decide +kernel
theorem dX11_about_12 : decode cX11_about 12 = .ok (.tableswitch 78 0 3 #[32, 45, 55, 65], 32) := by decide +kernel
theorem dX11_about_44 : decode cX11_about 44 = .ok (.aload_n 0, 1) := by decide +kernel
theorem dX11_about_45 : decode cX11_about 45 = .ok (.getfield 11, 3) := by decide +kernel
theorem dX11_about_48 : decode cX11_about 48 = .ok (.iload_n 1, 1) := by decide +kernel
theorem dX11_about_49 : decode cX11_about 49 = .ok (.aaload, 1) := by decide +kernel
theorem dX11_about_50 : decode cX11_about 50 = .ok (.getfield 168, 3) := by decide +kernel
theorem dX11_about_53 : decode cX11_about 53 = .ok (.getfield 191, 3) := by decide +kernel
theorem dX11_about_56 : decode cX11_about 56 = .ok (.ireturn, 1) := by decide +kernel
theorem dX11_about_57 : decode cX11_about 57 = .ok (.aload_n 0, 1) := by decide +kernel
theorem dX11_about_58 : decode cX11_about 58 = .ok (.getfield 11, 3) := by decide +kernel
theorem dX11_about_61 : decode cX11_about 61 = .ok (.iload_n 1, 1) := by decide +kernel
theorem dX11_about_62 : decode cX11_about 62 = .ok (.aaload, 1) := by decide +kernel
theorem dX11_about_63 : decode cX11_about 63 = .ok (.getfield 161, 3) := by decide +kernel
theorem dX11_about_66 : decode cX11_about 66 = .ok (.ireturn, 1) := by decide +kernel
theorem dX11_about_67 : decode cX11_about 67 = .ok (.aload_n 0, 1) := by decide +kernel
theorem dX11_about_68 : decode cX11_about 68 = .ok (.getfield 11, 3) := by decide +kernel
theorem dX11_about_71 : decode cX11_about 71 = .ok (.iload_n 1, 1) := by decide +kernel
theorem dX11_about_72 : decode cX11_about 72 = .ok (.aaload, 1) := by decide +kernel
theorem dX11_about_73 : decode cX11_about 73 = .ok (.getfield 158, 3) := by decide +kernel
theorem dX11_about_76 : decode cX11_about 76 = .ok (.ireturn, 1) := by decide +kernel
theorem dX11_about_77 : decode cX11_about 77 = .ok (.aload_n 0, 1) := by decide +kernel
theorem dX11_about_78 : decode cX11_about 78 = .ok (.getfield 11, 3) := by decide +kernel
theorem dX11_about_81 : decode cX11_about 81 = .ok (.iload_n 1, 1) := by decide +kernel
theorem dX11_about_82 : decode cX11_about 82 = .ok (.aaload, 1) := by decide +kernel
theorem dX11_about_83 : decode cX11_about 83 = .ok (.getfield 168, 3) := by decide +kernel
theorem dX11_about_86 : decode cX11_about 86 = .ok (.invokevirtual 267, 3) := by decide +kernel
theorem dX11_about_89 : decode cX11_about 89 = .ok (.ireturn, 1) := by decide +kernel
theorem dX11_about_90 : decode cX11_about 90 = .ok (.bipush (-102), 2) := by decide +kernel
theorem dX11_about_92 : decode cX11_about 92 = .ok (.ireturn, 1) := by decide +kernel
theorem dX11_within_0 : decode cX11_within 0 = .ok (.aload_n 0, 1) := by decide +kernel
theorem dX11_within_1 : decode cX11_within 1 = .ok (.iload_n 1, 1) := by decide +kernel
theorem dX11_within_2 : decode cX11_within 2 = .ok (.invokevirtual 120, 3) := by decide +kernel
theorem dX11_within_5 : decode cX11_within 5 = .ok (.ifCond .ne 11, 3) := by decide +kernel
theorem dX11_within_8 : decode cX11_within 8 = .ok (.aload_n 0, 1) := by decide +kernel
theorem dX11_within_9 : decode cX11_within 9 = .ok (.iload_n 2, 1) := by decide +kernel
theorem dX11_within_10 : decode cX11_within 10 = .ok (.invokevirtual 120, 3) := by decide +kernel
theorem dX11_within_13 : decode cX11_within 13 = .ok (.ifCond .eq 6, 3) := by decide +kernel
theorem dX11_within_16 : decode cX11_within 16 = .ok (.bipush (-101), 2) := by decide +kernel
theorem dX11_within_18 : decode cX11_within 18 = .ok (.ireturn, 1) := by decide +kernel
theorem dX11_within_19 : decode cX11_within 19 = .ok (.aload_n 0, 1) := by decide +kernel
theorem dX11_within_20 : decode cX11_within 20 = .ok (.getfield 11, 3) := by decide +kernel
theorem dX11_within_23 : decode cX11_within 23 = .ok (.iload_n 1, 1) := by decide +kernel
theorem dX11_within_24 : decode cX11_within 24 = .ok (.aaload, 1) := by decide +kernel
theorem dX11_within_25 : decode cX11_within 25 = .ok (.astore_n 3, 1) := by decide +kernel
theorem dX11_within_26 : decode cX11_within 26 = .ok (.aload_n 0, 1) := by decide +kernel
theorem dX11_within_27 : decode cX11_within 27 = .ok (.getfield 11, 3) := by decide +kernel
theorem dX11_within_30 : decode cX11_within 30 = .ok (.iload_n 2, 1) := by decide +kernel
theorem dX11_within_31 : decode cX11_within 31 = .ok (.aaload, 1) := by decide +kernel
theorem dX11_within_32 : decode cX11_within 32 = .ok (.astore 4, 2) := by decide +kernel
theorem dX11_within_34 : decode cX11_within 34 = .ok (.aload_n 3, 1) := by decide +kernel
theorem dX11_within_35 : decode cX11_within 35 = .ok (.getfield 168, 3) := by decide +kernel
theorem dX11_within_38 : decode cX11_within 38 = .ok (.getfield 191, 3) := by decide +kernel
theorem dX11_within_41 : decode cX11_within 41 = .ok (.aload 4, 2) := by decide +kernel
theorem dX11_within_43 : decode cX11_within 43 = .ok (.getfield 168, 3) := by decide +kernel
theorem dX11_within_46 : decode cX11_within 46 = .ok (.getfield 191, 3) := by decide +kernel
theorem dX11_within_49 : decode cX11_within 49 = .ok (.imul, 1) := by decide +kernel
theorem dX11_within_50 : decode cX11_within 50 = .ok (.aload_n 0, 1) := by decide +kernel
theorem dX11_within_51 : decode cX11_within 51 = .ok (.getfield 105, 3) := by decide +kernel
theorem dX11_within_54 : decode cX11_within 54 = .ok (.if_icmp .le 6, 3) := by decide +kernel
theorem dX11_within_57 : decode cX11_within 57 = .ok (.bipush (-105), 2) := by decide +kernel
theorem dX11_within_59 : decode cX11_within 59 = .ok (.ireturn, 1) := by decide +kernel
theorem dX11_within_60 : decode cX11_within 60 = .ok (.aload_n 3, 1) := by decide +kernel
theorem dX11_within_61 : decode cX11_within 61 = .ok (.getfield 168, 3) := by decide +kernel
theorem dX11_within_64 : decode cX11_within 64 = .ok (.getfield 191, 3) := by decide +kernel
theorem dX11_within_67 : decode cX11_within 67 = .ok (.iconst 2, 1) := by decide +kernel
theorem dX11_within_68 : decode cX11_within 68 = .ok (.if_icmp .ge 5, 3) := by decide +kernel
theorem dX11_within_71 : decode cX11_within 71 = .ok (.iconst 1, 1) := by decide +kernel
theorem dX11_within_72 : decode cX11_within 72 = .ok (.ireturn, 1) := by decide +kernel
theorem dX11_within_73 : decode cX11_within 73 = .ok (.aload 4, 2) := by decide +kernel
theorem dX11_within_75 : decode cX11_within 75 = .ok (.getfield 168, 3) := by decide +kernel
theorem dX11_within_78 : decode cX11_within 78 = .ok (.getfield 191, 3) := by decide +kernel
theorem dX11_within_81 : decode cX11_within 81 = .ok (.aload_n 3, 1) := by decide +kernel
theorem dX11_within_82 : decode cX11_within 82 = .ok (.getfield 168, 3) := by decide +kernel
theorem dX11_within_85 : decode cX11_within 85 = .ok (.getfield 191, 3) := by decide +kernel
theorem dX11_within_88 : decode cX11_within 88 = .ok (.irem, 1) := by decide +kernel
theorem dX11_within_89 : decode cX11_within 89 = .ok (.ifCond .eq 5, 3) := by decide +kernel
theorem dX11_within_92 : decode cX11_within 92 = .ok (.iconst 0, 1) := by decide +kernel
theorem dX11_within_93 : decode cX11_within 93 = .ok (.ireturn, 1) := by decide +kernel
theorem dX11_within_94 : decode cX11_within 94 = .ok (.aload_n 0, 1) := by decide +kernel
theorem dX11_within_95 : decode cX11_within 95 = .ok (.aload_n 3, 1) := by decide +kernel
theorem dX11_within_96 : decode cX11_within 96 = .ok (.aload 4, 2) := by decide +kernel
theorem dX11_within_98 : decode cX11_within 98 = .ok (.invokevirtual 204, 3) := by decide +kernel
theorem dX11_within_101 : decode cX11_within 101 = .ok (.iconst 1, 1) := by decide +kernel
theorem dX11_within_102 : decode cX11_within 102 = .ok (.if_icmp .eq 6, 3) := by decide +kernel
theorem dX11_within_105 : decode cX11_within 105 = .ok (.bipush (-105), 2) := by decide +kernel
theorem dX11_within_107 : decode cX11_within 107 = .ok (.ireturn, 1) := by decide +kernel
theorem dX11_within_108 : decode cX11_within 108 = .ok (.aload_n 0, 1) := by decide +kernel
theorem dX11_within_109 : decode cX11_within 109 = .ok (.getfield 55, 3) := by decide +kernel
theorem dX11_within_112 : decode cX11_within 112 = .ok (.getfield 270, 3) := by decide +kernel
theorem dX11_within_115 : decode cX11_within 115 = .ok (.aload_n 0, 1) := by decide +kernel
theorem dX11_within_116 : decode cX11_within 116 = .ok (.invokevirtual 128, 3) := by decide +kernel
theorem dX11_within_119 : decode cX11_within 119 = .ok (.aaload, 1) := by decide +kernel
theorem dX11_within_120 : decode cX11_within 120 = .ok (.getfield 191, 3) := by decide +kernel
theorem dX11_within_123 : decode cX11_within 123 = .ok (.aload 4, 2) := by decide +kernel
theorem dX11_within_125 : decode cX11_within 125 = .ok (.getfield 168, 3) := by decide +kernel
theorem dX11_within_128 : decode cX11_within 128 = .ok (.getfield 191, 3) := by decide +kernel
theorem dX11_within_131 : decode cX11_within 131 = .ok (.if_icmp .ne 7, 3) := by decide +kernel
theorem dX11_within_134 : decode cX11_within 134 = .ok (.iconst 1, 1) := by decide +kernel
theorem dX11_within_135 : decode cX11_within 135 = .ok (.goto 4, 3) := by decide +kernel
theorem dX11_within_138 : decode cX11_within 138 = .ok (.iconst 0, 1) := by decide +kernel
theorem dX11_within_139 : decode cX11_within 139 = .ok (.ireturn, 1) := by decide +kernel
theorem dX11_polynomial_0 : decode cX11_polynomial 0 = .ok (.aload_n 0, 1) := by decide +kernel
theorem dX11_polynomial_1 : decode cX11_polynomial 1 = .ok (.getfield 273, 3) := by decide +kernel
theorem dX11_polynomial_4 : decode cX11_polynomial 4 = .ok (.bipush 30, 2) := by decide +kernel
theorem dX11_polynomial_6 : decode cX11_polynomial 6 = .ok (.if_icmp .lt 6, 3) := by decide +kernel
theorem dX11_polynomial_9 : decode cX11_polynomial 9 = .ok (.bipush (-106), 2) := by decide +kernel
theorem dX11_polynomial_11 : decode cX11_polynomial 11 = .ok (.ireturn, 1) := by decide +kernel
theorem dX11_polynomial_12 : decode cX11_polynomial 12 = .ok (.aload_n 0, 1) := by decide +kernel
theorem dX11_polynomial_13 : decode cX11_polynomial 13 = .ok (.getfield 17, 3) := by decide +kernel
theorem dX11_polynomial_16 : decode cX11_polynomial 16 = .ok (.aload_n 0, 1) := by decide +kernel
theorem dX11_polynomial_17 : decode cX11_polynomial 17 = .ok (.getfield 273, 3) := by decide +kernel
theorem dX11_polynomial_20 : decode cX11_polynomial 20 = .ok (.new 15, 3) := by decide +kernel
theorem dX11_polynomial_23 : decode cX11_polynomial 23 = .ok (.dup, 1) := by decide +kernel
theorem dX11_polynomial_24 : decode cX11_polynomial 24 = .ok (.invokespecial 276, 3) := by decide +kernel
theorem dX11_polynomial_27 : decode cX11_polynomial 27 = .ok (.aastore, 1) := by decide +kernel
theorem dX11_polynomial_28 : decode cX11_polynomial 28 = .ok (.aload_n 0, 1) := by decide +kernel
theorem dX11_polynomial_29 : decode cX11_polynomial 29 = .ok (.dup, 1) := by decide +kernel
theorem dX11_polynomial_30 : decode cX11_polynomial 30 = .ok (.getfield 273, 3) := by decide +kernel
theorem dX11_polynomial_33 : decode cX11_polynomial 33 = .ok (.dup_x1, 1) := by decide +kernel
theorem dX11_polynomial_34 : decode cX11_polynomial 34 = .ok (.iconst 1, 1) := by decide +kernel
theorem dX11_polynomial_35 : decode cX11_polynomial 35 = .ok (.iadd, 1) := by decide +kernel
theorem dX11_polynomial_36 : decode cX11_polynomial 36 = .ok (.putfield 273, 3) := by decide +kernel
theorem dX11_polynomial_39 : decode cX11_polynomial 39 = .ok (.ireturn, 1) := by decide +kernel
theorem dX11_coefficient_0 : decode cX11_coefficient 0 = .ok (.aload_n 0, 1) := by decide +kernel
theorem dX11_coefficient_1 : decode cX11_coefficient 1 = .ok (.iload_n 1, 1) := by decide +kernel
theorem dX11_coefficient_2 : decode cX11_coefficient 2 = .ok (.invokevirtual 175, 3) := by decide +kernel
theorem dX11_coefficient_5 : decode cX11_coefficient 5 = .ok (.ifCond .eq 6, 3) := by decide +kernel
theorem dX11_coefficient_8 : decode cX11_coefficient 8 = .ok (.bipush (-101), 2) := by decide +kernel
theorem dX11_coefficient_10 : decode cX11_coefficient 10 = .ok (.ireturn, 1) := by decide +kernel
theorem dX11_coefficient_11 : decode cX11_coefficient 11 = .ok (.iload_n 2, 1) := by decide +kernel
theorem dX11_coefficient_12 : decode cX11_coefficient 12 = .ok (.ifCond .lt 9, 3) := by decide +kernel
theorem dX11_coefficient_15 : decode cX11_coefficient 15 = .ok (.iload_n 2, 1) := by decide +kernel
theorem dX11_coefficient_16 : decode cX11_coefficient 16 = .ok (.bipush 12, 2) := by decide +kernel
theorem dX11_coefficient_18 : decode cX11_coefficient 18 = .ok (.if_icmp .le 6, 3) := by decide +kernel
theorem dX11_coefficient_21 : decode cX11_coefficient 21 = .ok (.bipush (-102), 2) := by decide +kernel
theorem dX11_coefficient_23 : decode cX11_coefficient 23 = .ok (.ireturn, 1) := by decide +kernel
theorem dX11_coefficient_24 : decode cX11_coefficient 24 = .ok (.aload_n 0, 1) := by decide +kernel
theorem dX11_coefficient_25 : decode cX11_coefficient 25 = .ok (.getfield 17, 3) := by decide +kernel
theorem dX11_coefficient_28 : decode cX11_coefficient 28 = .ok (.iload_n 1, 1) := by decide +kernel
theorem dX11_coefficient_29 : decode cX11_coefficient 29 = .ok (.aaload, 1) := by decide +kernel
theorem dX11_coefficient_30 : decode cX11_coefficient 30 = .ok (.getfield 243, 3) := by decide +kernel
theorem dX11_coefficient_33 : decode cX11_coefficient 33 = .ok (.iload_n 2, 1) := by decide +kernel
theorem dX11_coefficient_34 : decode cX11_coefficient 34 = .ok (.aaload, 1) := by decide +kernel
theorem dX11_coefficient_35 : decode cX11_coefficient 35 = .ok (.lload_n 3, 1) := by decide +kernel
theorem dX11_coefficient_36 : decode cX11_coefficient 36 = .ok (.invokevirtual 277, 3) := by decide +kernel
theorem dX11_coefficient_39 : decode cX11_coefficient 39 = .ok (.aload_n 0, 1) := by decide +kernel
theorem dX11_coefficient_40 : decode cX11_coefficient 40 = .ok (.getfield 17, 3) := by decide +kernel
theorem dX11_coefficient_43 : decode cX11_coefficient 43 = .ok (.iload_n 1, 1) := by decide +kernel
theorem dX11_coefficient_44 : decode cX11_coefficient 44 = .ok (.aaload, 1) := by decide +kernel
theorem dX11_coefficient_45 : decode cX11_coefficient 45 = .ok (.bipush 12, 2) := by decide +kernel
theorem dX11_coefficient_47 : decode cX11_coefficient 47 = .ok (.invokevirtual 281, 3) := by decide +kernel
theorem dX11_coefficient_50 : decode cX11_coefficient 50 = .ok (.aload_n 0, 1) := by decide +kernel
theorem dX11_coefficient_51 : decode cX11_coefficient 51 = .ok (.getfield 17, 3) := by decide +kernel
theorem dX11_coefficient_54 : decode cX11_coefficient 54 = .ok (.iload_n 1, 1) := by decide +kernel
theorem dX11_coefficient_55 : decode cX11_coefficient 55 = .ok (.aaload, 1) := by decide +kernel
theorem dX11_coefficient_56 : decode cX11_coefficient 56 = .ok (.getfield 191, 3) := by decide +kernel
theorem dX11_coefficient_59 : decode cX11_coefficient 59 = .ok (.ireturn, 1) := by decide +kernel
theorem dX11_roots_0 : decode cX11_roots 0 = .ok (.aload_n 0, 1) := by decide +kernel
theorem dX11_roots_1 : decode cX11_roots 1 = .ok (.iload_n 1, 1) := by decide +kernel
theorem dX11_roots_2 : decode cX11_roots 2 = .ok (.invokevirtual 175, 3) := by decide +kernel
theorem dX11_roots_5 : decode cX11_roots 5 = .ok (.ifCond .eq 6, 3) := by decide +kernel
theorem dX11_roots_8 : decode cX11_roots 8 = .ok (.bipush (-101), 2) := by decide +kernel
theorem dX11_roots_10 : decode cX11_roots 10 = .ok (.ireturn, 1) := by decide +kernel
theorem dX11_roots_11 : decode cX11_roots 11 = .ok (.aload_n 0, 1) := by decide +kernel
theorem dX11_roots_12 : decode cX11_roots 12 = .ok (.getfield 17, 3) := by decide +kernel
theorem dX11_roots_15 : decode cX11_roots 15 = .ok (.iload_n 1, 1) := by decide +kernel
theorem dX11_roots_16 : decode cX11_roots 16 = .ok (.aaload, 1) := by decide +kernel
theorem dX11_roots_17 : decode cX11_roots 17 = .ok (.getfield 191, 3) := by decide +kernel
theorem dX11_roots_20 : decode cX11_roots 20 = .ok (.ifCond .ge 6, 3) := by decide +kernel
theorem dX11_roots_23 : decode cX11_roots 23 = .ok (.bipush (-103), 2) := by decide +kernel
theorem dX11_roots_25 : decode cX11_roots 25 = .ok (.ireturn, 1) := by decide +kernel
theorem dX11_roots_26 : decode cX11_roots 26 = .ok (.aload_n 0, 1) := by decide +kernel
theorem dX11_roots_27 : decode cX11_roots 27 = .ok (.aload_n 0, 1) := by decide +kernel
theorem dX11_roots_28 : decode cX11_roots 28 = .ok (.getfield 17, 3) := by decide +kernel
theorem dX11_roots_31 : decode cX11_roots 31 = .ok (.iload_n 1, 1) := by decide +kernel
theorem dX11_roots_32 : decode cX11_roots 32 = .ok (.aaload, 1) := by decide +kernel
theorem dX11_roots_33 : decode cX11_roots 33 = .ok (.invokevirtual 194, 3) := by decide +kernel
theorem dX11_roots_36 : decode cX11_roots 36 = .ok (.aload_n 0, 1) := by decide +kernel
theorem dX11_roots_37 : decode cX11_roots 37 = .ok (.getfield 62, 3) := by decide +kernel
theorem dX11_roots_40 : decode cX11_roots 40 = .ok (.aload_n 0, 1) := by decide +kernel
theorem dX11_roots_41 : decode cX11_roots 41 = .ok (.getfield 48, 3) := by decide +kernel
theorem dX11_roots_44 : decode cX11_roots 44 = .ok (.getfield 197, 3) := by decide +kernel
theorem dX11_roots_47 : decode cX11_roots 47 = .ok (.invokevirtual 200, 3) := by decide +kernel
theorem dX11_roots_50 : decode cX11_roots 50 = .ok (.aload_n 0, 1) := by decide +kernel
theorem dX11_roots_51 : decode cX11_roots 51 = .ok (.getfield 62, 3) := by decide +kernel
theorem dX11_roots_54 : decode cX11_roots 54 = .ok (.getfield 203, 3) := by decide +kernel
theorem dX11_roots_57 : decode cX11_roots 57 = .ok (.ireturn, 1) := by decide +kernel
theorem dX11_between_0 : decode cX11_between 0 = .ok (.aload_n 0, 1) := by decide +kernel
theorem dX11_between_1 : decode cX11_between 1 = .ok (.iload_n 1, 1) := by decide +kernel
theorem dX11_between_2 : decode cX11_between 2 = .ok (.invokevirtual 175, 3) := by decide +kernel
theorem dX11_between_5 : decode cX11_between 5 = .ok (.ifCond .ne 19, 3) := by decide +kernel
theorem dX11_between_8 : decode cX11_between 8 = .ok (.aload_n 0, 1) := by decide +kernel
theorem dX11_between_9 : decode cX11_between 9 = .ok (.iload_n 2, 1) := by decide +kernel
theorem dX11_between_10 : decode cX11_between 10 = .ok (.invokevirtual 120, 3) := by decide +kernel
theorem dX11_between_13 : decode cX11_between 13 = .ok (.ifCond .ne 11, 3) := by decide +kernel
theorem dX11_between_16 : decode cX11_between 16 = .ok (.aload_n 0, 1) := by decide +kernel
theorem dX11_between_17 : decode cX11_between 17 = .ok (.iload_n 3, 1) := by decide +kernel
theorem dX11_between_18 : decode cX11_between 18 = .ok (.invokevirtual 120, 3) := by decide +kernel
theorem dX11_between_21 : decode cX11_between 21 = .ok (.ifCond .eq 6, 3) := by decide +kernel
theorem dX11_between_24 : decode cX11_between 24 = .ok (.bipush (-101), 2) := by decide +kernel
theorem dX11_between_26 : decode cX11_between 26 = .ok (.ireturn, 1) := by decide +kernel
theorem dX11_between_27 : decode cX11_between 27 = .ok (.aload_n 0, 1) := by decide +kernel
theorem dX11_between_28 : decode cX11_between 28 = .ok (.getfield 17, 3) := by decide +kernel
theorem dX11_between_31 : decode cX11_between 31 = .ok (.iload_n 1, 1) := by decide +kernel
theorem dX11_between_32 : decode cX11_between 32 = .ok (.aaload, 1) := by decide +kernel
theorem dX11_between_33 : decode cX11_between 33 = .ok (.getfield 191, 3) := by decide +kernel
theorem dX11_between_36 : decode cX11_between 36 = .ok (.ifCond .ge 6, 3) := by decide +kernel
theorem dX11_between_39 : decode cX11_between 39 = .ok (.bipush (-103), 2) := by decide +kernel
theorem dX11_between_41 : decode cX11_between 41 = .ok (.ireturn, 1) := by decide +kernel
theorem dX11_between_42 : decode cX11_between 42 = .ok (.aload_n 0, 1) := by decide +kernel
theorem dX11_between_43 : decode cX11_between 43 = .ok (.aload_n 0, 1) := by decide +kernel
theorem dX11_between_44 : decode cX11_between 44 = .ok (.getfield 17, 3) := by decide +kernel
theorem dX11_between_47 : decode cX11_between 47 = .ok (.iload_n 1, 1) := by decide +kernel
theorem dX11_between_48 : decode cX11_between 48 = .ok (.aaload, 1) := by decide +kernel
theorem dX11_between_49 : decode cX11_between 49 = .ok (.invokevirtual 194, 3) := by decide +kernel
theorem dX11_between_52 : decode cX11_between 52 = .ok (.aload_n 0, 1) := by decide +kernel
theorem dX11_between_53 : decode cX11_between 53 = .ok (.getfield 62, 3) := by decide +kernel
theorem dX11_between_56 : decode cX11_between 56 = .ok (.aload_n 0, 1) := by decide +kernel
theorem dX11_between_57 : decode cX11_between 57 = .ok (.getfield 48, 3) := by decide +kernel
theorem dX11_between_60 : decode cX11_between 60 = .ok (.getfield 197, 3) := by decide +kernel
theorem dX11_between_63 : decode cX11_between 63 = .ok (.invokevirtual 200, 3) := by decide +kernel
theorem dX11_between_66 : decode cX11_between 66 = .ok (.iconst 0, 1) := by decide +kernel
theorem dX11_between_67 : decode cX11_between 67 = .ok (.aload_n 0, 1) := by decide +kernel
theorem dX11_between_68 : decode cX11_between 68 = .ok (.aload_n 0, 1) := by decide +kernel
theorem dX11_between_69 : decode cX11_between 69 = .ok (.getfield 11, 3) := by decide +kernel
theorem dX11_between_72 : decode cX11_between 72 = .ok (.iload_n 3, 1) := by decide +kernel
theorem dX11_between_73 : decode cX11_between 73 = .ok (.aaload, 1) := by decide +kernel
theorem dX11_between_74 : decode cX11_between 74 = .ok (.invokevirtual 284, 3) := by decide +kernel
theorem dX11_between_77 : decode cX11_between 77 = .ok (.aload_n 0, 1) := by decide +kernel
theorem dX11_between_78 : decode cX11_between 78 = .ok (.aload_n 0, 1) := by decide +kernel
theorem dX11_between_79 : decode cX11_between 79 = .ok (.getfield 11, 3) := by decide +kernel
theorem dX11_between_82 : decode cX11_between 82 = .ok (.iload_n 2, 1) := by decide +kernel
theorem dX11_between_83 : decode cX11_between 83 = .ok (.aaload, 1) := by decide +kernel
theorem dX11_between_84 : decode cX11_between 84 = .ok (.invokevirtual 284, 3) := by decide +kernel
theorem dX11_between_87 : decode cX11_between 87 = .ok (.isub, 1) := by decide +kernel
theorem dX11_between_88 : decode cX11_between 88 = .ok (.invokestatic 102, 3) := by decide +kernel
theorem dX11_between_91 : decode cX11_between 91 = .ok (.ireturn, 1) := by decide +kernel
theorem dX11_parts_0 : decode cX11_parts 0 = .ok (.aload_n 0, 1) := by decide +kernel
theorem dX11_parts_1 : decode cX11_parts 1 = .ok (.iload_n 1, 1) := by decide +kernel
theorem dX11_parts_2 : decode cX11_parts 2 = .ok (.invokevirtual 175, 3) := by decide +kernel
theorem dX11_parts_5 : decode cX11_parts 5 = .ok (.ifCond .eq 6, 3) := by decide +kernel
theorem dX11_parts_8 : decode cX11_parts 8 = .ok (.bipush (-101), 2) := by decide +kernel
theorem dX11_parts_10 : decode cX11_parts 10 = .ok (.ireturn, 1) := by decide +kernel
theorem dX11_parts_11 : decode cX11_parts 11 = .ok (.aload_n 0, 1) := by decide +kernel
theorem dX11_parts_12 : decode cX11_parts 12 = .ok (.getfield 17, 3) := by decide +kernel
theorem dX11_parts_15 : decode cX11_parts 15 = .ok (.iload_n 1, 1) := by decide +kernel
theorem dX11_parts_16 : decode cX11_parts 16 = .ok (.aaload, 1) := by decide +kernel
theorem dX11_parts_17 : decode cX11_parts 17 = .ok (.getfield 191, 3) := by decide +kernel
theorem dX11_parts_20 : decode cX11_parts 20 = .ok (.ifCond .ge 6, 3) := by decide +kernel
theorem dX11_parts_23 : decode cX11_parts 23 = .ok (.bipush (-103), 2) := by decide +kernel
theorem dX11_parts_25 : decode cX11_parts 25 = .ok (.ireturn, 1) := by decide +kernel
theorem dX11_parts_26 : decode cX11_parts 26 = .ok (.aload_n 0, 1) := by decide +kernel
theorem dX11_parts_27 : decode cX11_parts 27 = .ok (.aload_n 0, 1) := by decide +kernel
theorem dX11_parts_28 : decode cX11_parts 28 = .ok (.getfield 17, 3) := by decide +kernel
theorem dX11_parts_31 : decode cX11_parts 31 = .ok (.iload_n 1, 1) := by decide +kernel
theorem dX11_parts_32 : decode cX11_parts 32 = .ok (.aaload, 1) := by decide +kernel
theorem dX11_parts_33 : decode cX11_parts 33 = .ok (.invokevirtual 194, 3) := by decide +kernel
theorem dX11_parts_36 : decode cX11_parts 36 = .ok (.aload_n 0, 1) := by decide +kernel
theorem dX11_parts_37 : decode cX11_parts 37 = .ok (.getfield 55, 3) := by decide +kernel
theorem dX11_parts_40 : decode cX11_parts 40 = .ok (.aload_n 0, 1) := by decide +kernel
theorem dX11_parts_41 : decode cX11_parts 41 = .ok (.getfield 48, 3) := by decide +kernel
theorem dX11_parts_44 : decode cX11_parts 44 = .ok (.getfield 197, 3) := by decide +kernel
theorem dX11_parts_47 : decode cX11_parts 47 = .ok (.invokevirtual 288, 3) := by decide +kernel
theorem dX11_parts_50 : decode cX11_parts 50 = .ok (.aload_n 0, 1) := by decide +kernel
theorem dX11_parts_51 : decode cX11_parts 51 = .ok (.iconst 0, 1) := by decide +kernel
theorem dX11_parts_52 : decode cX11_parts 52 = .ok (.putfield 291, 3) := by decide +kernel
theorem dX11_parts_55 : decode cX11_parts 55 = .ok (.iconst 0, 1) := by decide +kernel
theorem dX11_parts_56 : decode cX11_parts 56 = .ok (.istore_n 2, 1) := by decide +kernel
theorem dX11_parts_57 : decode cX11_parts 57 = .ok (.iload_n 2, 1) := by decide +kernel
theorem dX11_parts_58 : decode cX11_parts 58 = .ok (.aload_n 0, 1) := by decide +kernel
theorem dX11_parts_59 : decode cX11_parts 59 = .ok (.getfield 55, 3) := by decide +kernel
theorem dX11_parts_62 : decode cX11_parts 62 = .ok (.getfield 294, 3) := by decide +kernel
theorem dX11_parts_65 : decode cX11_parts 65 = .ok (.if_icmp .ge 34, 3) := by decide +kernel
theorem dX11_parts_68 : decode cX11_parts 68 = .ok (.iload_n 2, 1) := by decide +kernel
theorem dX11_parts_69 : decode cX11_parts 69 = .ok (.bipush 12, 2) := by decide +kernel
theorem dX11_parts_71 : decode cX11_parts 71 = .ok (.if_icmp .ge 28, 3) := by decide +kernel
theorem dX11_parts_74 : decode cX11_parts 74 = .ok (.aload_n 0, 1) := by decide +kernel
theorem dX11_parts_75 : decode cX11_parts 75 = .ok (.aload_n 0, 1) := by decide +kernel
theorem dX11_parts_76 : decode cX11_parts 76 = .ok (.getfield 55, 3) := by decide +kernel
theorem dX11_parts_79 : decode cX11_parts 79 = .ok (.getfield 270, 3) := by decide +kernel
theorem dX11_parts_82 : decode cX11_parts 82 = .ok (.iload_n 2, 1) := by decide +kernel
theorem dX11_parts_83 : decode cX11_parts 83 = .ok (.aaload, 1) := by decide +kernel
theorem dX11_parts_84 : decode cX11_parts 84 = .ok (.aload_n 0, 1) := by decide +kernel
theorem dX11_parts_85 : decode cX11_parts 85 = .ok (.getfield 17, 3) := by decide +kernel
theorem dX11_parts_88 : decode cX11_parts 88 = .ok (.iload_n 1, 1) := by decide +kernel
theorem dX11_parts_89 : decode cX11_parts 89 = .ok (.aaload, 1) := by decide +kernel
theorem dX11_parts_90 : decode cX11_parts 90 = .ok (.invokevirtual 297, 3) := by decide +kernel
theorem dX11_parts_93 : decode cX11_parts 93 = .ok (.iinc 2 1, 3) := by decide +kernel
theorem dX11_parts_96 : decode cX11_parts 96 = .ok (.goto (-39), 3) := by decide +kernel
theorem dX11_parts_99 : decode cX11_parts 99 = .ok (.aload_n 0, 1) := by decide +kernel
theorem dX11_parts_100 : decode cX11_parts 100 = .ok (.getfield 291, 3) := by decide +kernel
theorem dX11_parts_103 : decode cX11_parts 103 = .ok (.ireturn, 1) := by decide +kernel
theorem dX11_part_0 : decode cX11_part 0 = .ok (.iload_n 1, 1) := by decide +kernel
theorem dX11_part_1 : decode cX11_part 1 = .ok (.ifCond .lt 29, 3) := by decide +kernel
theorem dX11_part_4 : decode cX11_part 4 = .ok (.iload_n 1, 1) := by decide +kernel
theorem dX11_part_5 : decode cX11_part 5 = .ok (.aload_n 0, 1) := by decide +kernel
theorem dX11_part_6 : decode cX11_part 6 = .ok (.getfield 291, 3) := by decide +kernel
theorem dX11_part_9 : decode cX11_part 9 = .ok (.if_icmp .ge 21, 3) := by decide +kernel
theorem dX11_part_12 : decode cX11_part 12 = .ok (.aload_n 0, 1) := by decide +kernel
theorem dX11_part_13 : decode cX11_part 13 = .ok (.getfield 21, 3) := by decide +kernel
theorem dX11_part_16 : decode cX11_part 16 = .ok (.iload_n 1, 1) := by decide +kernel
theorem dX11_part_17 : decode cX11_part 17 = .ok (.aaload, 1) := by decide +kernel
theorem dX11_part_18 : decode cX11_part 18 = .ok (.ifnull 12, 3) := by decide +kernel
theorem dX11_part_21 : decode cX11_part 21 = .ok (.iload_n 2, 1) := by decide +kernel
theorem dX11_part_22 : decode cX11_part 22 = .ok (.ifCond .lt 8, 3) := by decide +kernel
theorem dX11_part_25 : decode cX11_part 25 = .ok (.iload_n 2, 1) := by decide +kernel
theorem dX11_part_26 : decode cX11_part 26 = .ok (.iconst 1, 1) := by decide +kernel
theorem dX11_part_27 : decode cX11_part 27 = .ok (.if_icmp .le 6, 3) := by decide +kernel
theorem dX11_part_30 : decode cX11_part 30 = .ok (.bipush (-102), 2) := by decide +kernel
theorem dX11_part_32 : decode cX11_part 32 = .ok (.ireturn, 1) := by decide +kernel
theorem dX11_part_33 : decode cX11_part 33 = .ok (.iload_n 2, 1) := by decide +kernel
theorem dX11_part_34 : decode cX11_part 34 = .ok (.ifCond .ne 15, 3) := by decide +kernel
theorem dX11_part_37 : decode cX11_part 37 = .ok (.aload_n 0, 1) := by decide +kernel
theorem dX11_part_38 : decode cX11_part 38 = .ok (.getfield 21, 3) := by decide +kernel
theorem dX11_part_41 : decode cX11_part 41 = .ok (.iload_n 1, 1) := by decide +kernel
theorem dX11_part_42 : decode cX11_part 42 = .ok (.aaload, 1) := by decide +kernel
theorem dX11_part_43 : decode cX11_part 43 = .ok (.getfield 191, 3) := by decide +kernel
theorem dX11_part_46 : decode cX11_part 46 = .ok (.goto 9, 3) := by decide +kernel
theorem dX11_part_49 : decode cX11_part 49 = .ok (.aload_n 0, 1) := by decide +kernel
theorem dX11_part_50 : decode cX11_part 50 = .ok (.getfield 24, 3) := by decide +kernel
theorem dX11_part_53 : decode cX11_part 53 = .ok (.iload_n 1, 1) := by decide +kernel
theorem dX11_part_54 : decode cX11_part 54 = .ok (.iaload, 1) := by decide +kernel
theorem dX11_part_55 : decode cX11_part 55 = .ok (.ireturn, 1) := by decide +kernel
theorem dX11_write_0 : decode cX11_write 0 = .ok (.aload_n 0, 1) := by decide +kernel
theorem dX11_write_1 : decode cX11_write 1 = .ok (.iload_n 1, 1) := by decide +kernel
theorem dX11_write_2 : decode cX11_write 2 = .ok (.invokevirtual 120, 3) := by decide +kernel
theorem dX11_write_5 : decode cX11_write 5 = .ok (.ifCond .eq 6, 3) := by decide +kernel
theorem dX11_write_8 : decode cX11_write 8 = .ok (.bipush (-101), 2) := by decide +kernel
theorem dX11_write_10 : decode cX11_write 10 = .ok (.ireturn, 1) := by decide +kernel
theorem dX11_write_11 : decode cX11_write 11 = .ok (.iload_n 2, 1) := by decide +kernel
theorem dX11_write_12 : decode cX11_write 12 = .ok (.ifCond .lt 9, 3) := by decide +kernel
theorem dX11_write_15 : decode cX11_write 15 = .ok (.iload_n 2, 1) := by decide +kernel
theorem dX11_write_16 : decode cX11_write 16 = .ok (.bipush 80, 2) := by decide +kernel
theorem dX11_write_18 : decode cX11_write 18 = .ok (.if_icmp .le 6, 3) := by decide +kernel
theorem dX11_write_21 : decode cX11_write 21 = .ok (.bipush (-102), 2) := by decide +kernel
theorem dX11_write_23 : decode cX11_write 23 = .ok (.ireturn, 1) := by decide +kernel
theorem dX11_write_24 : decode cX11_write 24 = .ok (.aload_n 0, 1) := by decide +kernel
theorem dX11_write_25 : decode cX11_write 25 = .ok (.getfield 11, 3) := by decide +kernel
theorem dX11_write_28 : decode cX11_write 28 = .ok (.iload_n 1, 1) := by decide +kernel
theorem dX11_write_29 : decode cX11_write 29 = .ok (.aaload, 1) := by decide +kernel
theorem dX11_write_30 : decode cX11_write 30 = .ok (.astore_n 3, 1) := by decide +kernel
theorem dX11_write_31 : decode cX11_write 31 = .ok (.aload_n 0, 1) := by decide +kernel
theorem dX11_write_32 : decode cX11_write 32 = .ok (.getfield 93, 3) := by decide +kernel
theorem dX11_write_35 : decode cX11_write 35 = .ok (.lconst 1, 1) := by decide +kernel
theorem dX11_write_36 : decode cX11_write 36 = .ok (.invokevirtual 277, 3) := by decide +kernel
theorem dX11_write_39 : decode cX11_write 39 = .ok (.iconst 0, 1) := by decide +kernel
theorem dX11_write_40 : decode cX11_write 40 = .ok (.istore 4, 2) := by decide +kernel
theorem dX11_write_42 : decode cX11_write 42 = .ok (.iload 4, 2) := by decide +kernel
theorem dX11_write_44 : decode cX11_write 44 = .ok (.iload_n 2, 1) := by decide +kernel
theorem dX11_write_45 : decode cX11_write 45 = .ok (.if_icmp .ge 23, 3) := by decide +kernel
theorem dX11_write_48 : decode cX11_write 48 = .ok (.aload_n 0, 1) := by decide +kernel
theorem dX11_write_49 : decode cX11_write 49 = .ok (.getfield 93, 3) := by decide +kernel
theorem dX11_write_52 : decode cX11_write 52 = .ok (.aload_n 0, 1) := by decide +kernel
theorem dX11_write_53 : decode cX11_write 53 = .ok (.getfield 93, 3) := by decide +kernel
theorem dX11_write_56 : decode cX11_write 56 = .ok (.ldc2_w 301, 3) := by decide +kernel
theorem dX11_write_59 : decode cX11_write 59 = .ok (.invokevirtual 303, 3) := by decide +kernel
theorem dX11_write_62 : decode cX11_write 62 = .ok (.iinc 4 1, 3) := by decide +kernel
theorem dX11_write_65 : decode cX11_write 65 = .ok (.goto (-23), 3) := by decide +kernel
theorem dX11_write_68 : decode cX11_write 68 = .ok (.aload_n 3, 1) := by decide +kernel
theorem dX11_write_69 : decode cX11_write 69 = .ok (.getfield 168, 3) := by decide +kernel
theorem dX11_write_72 : decode cX11_write 72 = .ok (.getfield 191, 3) := by decide +kernel
theorem dX11_write_75 : decode cX11_write 75 = .ok (.iconst 1, 1) := by decide +kernel
theorem dX11_write_76 : decode cX11_write 76 = .ok (.if_icmp .ne 57, 3) := by decide +kernel
theorem dX11_write_79 : decode cX11_write 79 = .ok (.aload_n 0, 1) := by decide +kernel
theorem dX11_write_80 : decode cX11_write 80 = .ok (.getfield 90, 3) := by decide +kernel
theorem dX11_write_83 : decode cX11_write 83 = .ok (.aload_n 3, 1) := by decide +kernel
theorem dX11_write_84 : decode cX11_write 84 = .ok (.getfield 168, 3) := by decide +kernel
theorem dX11_write_87 : decode cX11_write 87 = .ok (.getfield 243, 3) := by decide +kernel
theorem dX11_write_90 : decode cX11_write 90 = .ok (.iconst 0, 1) := by decide +kernel
theorem dX11_write_91 : decode cX11_write 91 = .ok (.aaload, 1) := by decide +kernel
theorem dX11_write_92 : decode cX11_write 92 = .ok (.aload_n 0, 1) := by decide +kernel
theorem dX11_write_93 : decode cX11_write 93 = .ok (.getfield 93, 3) := by decide +kernel
theorem dX11_write_96 : decode cX11_write 96 = .ok (.invokevirtual 247, 3) := by decide +kernel
theorem dX11_write_99 : decode cX11_write 99 = .ok (.aload_n 0, 1) := by decide +kernel
theorem dX11_write_100 : decode cX11_write 100 = .ok (.getfield 90, 3) := by decide +kernel
theorem dX11_write_103 : decode cX11_write 103 = .ok (.invokevirtual 306, 3) := by decide +kernel
theorem dX11_write_106 : decode cX11_write 106 = .ok (.aload_n 0, 1) := by decide +kernel
theorem dX11_write_107 : decode cX11_write 107 = .ok (.getfield 83, 3) := by decide +kernel
theorem dX11_write_110 : decode cX11_write 110 = .ok (.aload_n 0, 1) := by decide +kernel
theorem dX11_write_111 : decode cX11_write 111 = .ok (.getfield 90, 3) := by decide +kernel
theorem dX11_write_114 : decode cX11_write 114 = .ok (.aload_n 3, 1) := by decide +kernel
theorem dX11_write_115 : decode cX11_write 115 = .ok (.getfield 168, 3) := by decide +kernel
theorem dX11_write_118 : decode cX11_write 118 = .ok (.getfield 243, 3) := by decide +kernel
theorem dX11_write_121 : decode cX11_write 121 = .ok (.iconst 1, 1) := by decide +kernel
theorem dX11_write_122 : decode cX11_write 122 = .ok (.aaload, 1) := by decide +kernel
theorem dX11_write_123 : decode cX11_write 123 = .ok (.aload_n 0, 1) := by decide +kernel
theorem dX11_write_124 : decode cX11_write 124 = .ok (.getfield 87, 3) := by decide +kernel
theorem dX11_write_127 : decode cX11_write 127 = .ok (.invokevirtual 309, 3) := by decide +kernel
theorem dX11_write_130 : decode cX11_write 130 = .ok (.goto 121, 3) := by decide +kernel
theorem dX11_write_133 : decode cX11_write 133 = .ok (.aload_n 0, 1) := by decide +kernel
theorem dX11_write_134 : decode cX11_write 134 = .ok (.getfield 69, 3) := by decide +kernel
theorem dX11_write_137 : decode cX11_write 137 = .ok (.aload_n 3, 1) := by decide +kernel
theorem dX11_write_138 : decode cX11_write 138 = .ok (.aload_n 0, 1) := by decide +kernel
theorem dX11_write_139 : decode cX11_write 139 = .ok (.getfield 93, 3) := by decide +kernel
theorem dX11_write_142 : decode cX11_write 142 = .ok (.invokevirtual 312, 3) := by decide +kernel
theorem dX11_write_145 : decode cX11_write 145 = .ok (.invokevirtual 314, 3) := by decide +kernel
theorem dX11_write_148 : decode cX11_write 148 = .ok (.aload_n 0, 1) := by decide +kernel
theorem dX11_write_149 : decode cX11_write 149 = .ok (.getfield 90, 3) := by decide +kernel
theorem dX11_write_152 : decode cX11_write 152 = .ok (.aload_n 3, 1) := by decide +kernel
theorem dX11_write_153 : decode cX11_write 153 = .ok (.getfield 318, 3) := by decide +kernel
theorem dX11_write_156 : decode cX11_write 156 = .ok (.aload_n 0, 1) := by decide +kernel
theorem dX11_write_157 : decode cX11_write 157 = .ok (.getfield 93, 3) := by decide +kernel
theorem dX11_write_160 : decode cX11_write 160 = .ok (.invokevirtual 247, 3) := by decide +kernel
theorem dX11_write_163 : decode cX11_write 163 = .ok (.aload_n 0, 1) := by decide +kernel
theorem dX11_write_164 : decode cX11_write 164 = .ok (.getfield 83, 3) := by decide +kernel
theorem dX11_write_167 : decode cX11_write 167 = .ok (.aload_n 0, 1) := by decide +kernel
theorem dX11_write_168 : decode cX11_write 168 = .ok (.getfield 90, 3) := by decide +kernel
theorem dX11_write_171 : decode cX11_write 171 = .ok (.aload_n 3, 1) := by decide +kernel
theorem dX11_write_172 : decode cX11_write 172 = .ok (.getfield 321, 3) := by decide +kernel
theorem dX11_write_175 : decode cX11_write 175 = .ok (.iconst 0, 1) := by decide +kernel
theorem dX11_write_176 : decode cX11_write 176 = .ok (.invokevirtual 324, 3) := by decide +kernel
theorem dX11_write_179 : decode cX11_write 179 = .ok (.aload_n 0, 1) := by decide +kernel
theorem dX11_write_180 : decode cX11_write 180 = .ok (.getfield 90, 3) := by decide +kernel
theorem dX11_write_183 : decode cX11_write 183 = .ok (.aload_n 3, 1) := by decide +kernel
theorem dX11_write_184 : decode cX11_write 184 = .ok (.getfield 328, 3) := by decide +kernel
theorem dX11_write_187 : decode cX11_write 187 = .ok (.aload_n 0, 1) := by decide +kernel
theorem dX11_write_188 : decode cX11_write 188 = .ok (.getfield 93, 3) := by decide +kernel
theorem dX11_write_191 : decode cX11_write 191 = .ok (.invokevirtual 247, 3) := by decide +kernel
theorem dX11_write_194 : decode cX11_write 194 = .ok (.aload_n 0, 1) := by decide +kernel
theorem dX11_write_195 : decode cX11_write 195 = .ok (.getfield 87, 3) := by decide +kernel
theorem dX11_write_198 : decode cX11_write 198 = .ok (.aload_n 0, 1) := by decide +kernel
theorem dX11_write_199 : decode cX11_write 199 = .ok (.getfield 90, 3) := by decide +kernel
theorem dX11_write_202 : decode cX11_write 202 = .ok (.aload_n 3, 1) := by decide +kernel
theorem dX11_write_203 : decode cX11_write 203 = .ok (.getfield 321, 3) := by decide +kernel
theorem dX11_write_206 : decode cX11_write 206 = .ok (.iconst 0, 1) := by decide +kernel
theorem dX11_write_207 : decode cX11_write 207 = .ok (.invokevirtual 324, 3) := by decide +kernel
theorem dX11_write_210 : decode cX11_write 210 = .ok (.aload_n 0, 1) := by decide +kernel
theorem dX11_write_211 : decode cX11_write 211 = .ok (.getfield 83, 3) := by decide +kernel
theorem dX11_write_214 : decode cX11_write 214 = .ok (.aload_n 0, 1) := by decide +kernel
theorem dX11_write_215 : decode cX11_write 215 = .ok (.getfield 87, 3) := by decide +kernel
theorem dX11_write_218 : decode cX11_write 218 = .ok (.invokevirtual 250, 3) := by decide +kernel
theorem dX11_write_221 : decode cX11_write 221 = .ok (.ifCond .eq 30, 3) := by decide +kernel
theorem dX11_write_224 : decode cX11_write 224 = .ok (.aload_n 0, 1) := by decide +kernel
theorem dX11_write_225 : decode cX11_write 225 = .ok (.getfield 69, 3) := by decide +kernel
theorem dX11_write_228 : decode cX11_write 228 = .ok (.aload_n 3, 1) := by decide +kernel
theorem dX11_write_229 : decode cX11_write 229 = .ok (.aload_n 0, 1) := by decide +kernel
theorem dX11_write_230 : decode cX11_write 230 = .ok (.getfield 83, 3) := by decide +kernel
theorem dX11_write_233 : decode cX11_write 233 = .ok (.aload_n 0, 1) := by decide +kernel
theorem dX11_write_234 : decode cX11_write 234 = .ok (.getfield 93, 3) := by decide +kernel
theorem dX11_write_237 : decode cX11_write 237 = .ok (.invokevirtual 331, 3) := by decide +kernel
theorem dX11_write_240 : decode cX11_write 240 = .ok (.ifCond .ne 11, 3) := by decide +kernel
theorem dX11_write_243 : decode cX11_write 243 = .ok (.aload_n 0, 1) := by decide +kernel
theorem dX11_write_244 : decode cX11_write 244 = .ok (.getfield 83, 3) := by decide +kernel
theorem dX11_write_247 : decode cX11_write 247 = .ok (.iconst (-1), 1) := by decide +kernel
theorem dX11_write_248 : decode cX11_write 248 = .ok (.invokevirtual 335, 3) := by decide +kernel
theorem dX11_write_251 : decode cX11_write 251 = .ok (.aload_n 0, 1) := by decide +kernel
theorem dX11_write_252 : decode cX11_write 252 = .ok (.getfield 76, 3) := by decide +kernel
theorem dX11_write_255 : decode cX11_write 255 = .ok (.aload_n 0, 1) := by decide +kernel
theorem dX11_write_256 : decode cX11_write 256 = .ok (.getfield 83, 3) := by decide +kernel
theorem dX11_write_259 : decode cX11_write 259 = .ok (.iload_n 2, 1) := by decide +kernel
theorem dX11_write_260 : decode cX11_write 260 = .ok (.invokevirtual 338, 3) := by decide +kernel
theorem dX11_write_263 : decode cX11_write 263 = .ok (.ireturn, 1) := by decide +kernel
theorem dX11_writeLeast_0 : decode cX11_writeLeast 0 = .ok (.aload_n 0, 1) := by decide +kernel
theorem dX11_writeLeast_1 : decode cX11_writeLeast 1 = .ok (.iload_n 1, 1) := by decide +kernel
theorem dX11_writeLeast_2 : decode cX11_writeLeast 2 = .ok (.invokevirtual 120, 3) := by decide +kernel
theorem dX11_writeLeast_5 : decode cX11_writeLeast 5 = .ok (.ifCond .eq 8, 3) := by decide +kernel
theorem dX11_writeLeast_8 : decode cX11_writeLeast 8 = .ok (.bipush (-101), 2) := by decide +kernel
theorem dX11_writeLeast_10 : decode cX11_writeLeast 10 = .ok (.goto 19, 3) := by decide +kernel
theorem dX11_writeLeast_13 : decode cX11_writeLeast 13 = .ok (.aload_n 0, 1) := by decide +kernel
theorem dX11_writeLeast_14 : decode cX11_writeLeast 14 = .ok (.getfield 76, 3) := by decide +kernel
theorem dX11_writeLeast_17 : decode cX11_writeLeast 17 = .ok (.aload_n 0, 1) := by decide +kernel
theorem dX11_writeLeast_18 : decode cX11_writeLeast 18 = .ok (.getfield 11, 3) := by decide +kernel
theorem dX11_writeLeast_21 : decode cX11_writeLeast 21 = .ok (.iload_n 1, 1) := by decide +kernel
theorem dX11_writeLeast_22 : decode cX11_writeLeast 22 = .ok (.aaload, 1) := by decide +kernel
theorem dX11_writeLeast_23 : decode cX11_writeLeast 23 = .ok (.getfield 168, 3) := by decide +kernel
theorem dX11_writeLeast_26 : decode cX11_writeLeast 26 = .ok (.invokevirtual 342, 3) := by decide +kernel
theorem dX11_writeLeast_29 : decode cX11_writeLeast 29 = .ok (.ireturn, 1) := by decide +kernel
theorem dX11_writePart_0 : decode cX11_writePart 0 = .ok (.iload_n 1, 1) := by decide +kernel
theorem dX11_writePart_1 : decode cX11_writePart 1 = .ok (.ifCond .lt 20, 3) := by decide +kernel
theorem dX11_writePart_4 : decode cX11_writePart 4 = .ok (.iload_n 1, 1) := by decide +kernel
theorem dX11_writePart_5 : decode cX11_writePart 5 = .ok (.aload_n 0, 1) := by decide +kernel
theorem dX11_writePart_6 : decode cX11_writePart 6 = .ok (.getfield 291, 3) := by decide +kernel
theorem dX11_writePart_9 : decode cX11_writePart 9 = .ok (.if_icmp .ge 12, 3) := by decide +kernel
theorem dX11_writePart_12 : decode cX11_writePart 12 = .ok (.aload_n 0, 1) := by decide +kernel
theorem dX11_writePart_13 : decode cX11_writePart 13 = .ok (.getfield 21, 3) := by decide +kernel
theorem dX11_writePart_16 : decode cX11_writePart 16 = .ok (.iload_n 1, 1) := by decide +kernel
theorem dX11_writePart_17 : decode cX11_writePart 17 = .ok (.aaload, 1) := by decide +kernel
theorem dX11_writePart_18 : decode cX11_writePart 18 = .ok (.ifnonnull 8, 3) := by decide +kernel
theorem dX11_writePart_21 : decode cX11_writePart 21 = .ok (.bipush (-102), 2) := by decide +kernel
theorem dX11_writePart_23 : decode cX11_writePart 23 = .ok (.goto 16, 3) := by decide +kernel
theorem dX11_writePart_26 : decode cX11_writePart 26 = .ok (.aload_n 0, 1) := by decide +kernel
theorem dX11_writePart_27 : decode cX11_writePart 27 = .ok (.getfield 76, 3) := by decide +kernel
theorem dX11_writePart_30 : decode cX11_writePart 30 = .ok (.aload_n 0, 1) := by decide +kernel
theorem dX11_writePart_31 : decode cX11_writePart 31 = .ok (.getfield 21, 3) := by decide +kernel
theorem dX11_writePart_34 : decode cX11_writePart 34 = .ok (.iload_n 1, 1) := by decide +kernel
theorem dX11_writePart_35 : decode cX11_writePart 35 = .ok (.aaload, 1) := by decide +kernel
theorem dX11_writePart_36 : decode cX11_writePart 36 = .ok (.invokevirtual 342, 3) := by decide +kernel
theorem dX11_writePart_39 : decode cX11_writePart 39 = .ok (.ireturn, 1) := by decide +kernel
theorem dX11_at_0 : decode cX11_at 0 = .ok (.iload_n 1, 1) := by decide +kernel
theorem dX11_at_1 : decode cX11_at 1 = .ok (.ifCond .lt 14, 3) := by decide +kernel
theorem dX11_at_4 : decode cX11_at 4 = .ok (.iload_n 1, 1) := by decide +kernel
theorem dX11_at_5 : decode cX11_at 5 = .ok (.aload_n 0, 1) := by decide +kernel
theorem dX11_at_6 : decode cX11_at 6 = .ok (.getfield 76, 3) := by decide +kernel
theorem dX11_at_9 : decode cX11_at 9 = .ok (.getfield 346, 3) := by decide +kernel
theorem dX11_at_12 : decode cX11_at 12 = .ok (.if_icmp .lt 7, 3) := by decide +kernel
theorem dX11_at_15 : decode cX11_at 15 = .ok (.iconst (-1), 1) := by decide +kernel
theorem dX11_at_16 : decode cX11_at 16 = .ok (.goto 12, 3) := by decide +kernel
theorem dX11_at_19 : decode cX11_at 19 = .ok (.aload_n 0, 1) := by decide +kernel
theorem dX11_at_20 : decode cX11_at 20 = .ok (.getfield 76, 3) := by decide +kernel
theorem dX11_at_23 : decode cX11_at 23 = .ok (.getfield 349, 3) := by decide +kernel
theorem dX11_at_26 : decode cX11_at 26 = .ok (.iload_n 1, 1) := by decide +kernel
theorem dX11_at_27 : decode cX11_at 27 = .ok (.iaload, 1) := by decide +kernel
theorem dX11_at_28 : decode cX11_at 28 = .ok (.ireturn, 1) := by decide +kernel
theorem dX11_feed_0 : decode cX11_feed 0 = .ok (.aload_n 0, 1) := by decide +kernel
theorem dX11_feed_1 : decode cX11_feed 1 = .ok (.getfield 76, 3) := by decide +kernel
theorem dX11_feed_4 : decode cX11_feed 4 = .ok (.getfield 352, 3) := by decide +kernel
theorem dX11_feed_7 : decode cX11_feed 7 = .ok (.bipush 20, 2) := by decide +kernel
theorem dX11_feed_9 : decode cX11_feed 9 = .ok (.iadd, 1) := by decide +kernel
theorem dX11_feed_10 : decode cX11_feed 10 = .ok (.aload_n 0, 1) := by decide +kernel
theorem dX11_feed_11 : decode cX11_feed 11 = .ok (.getfield 76, 3) := by decide +kernel
theorem dX11_feed_14 : decode cX11_feed 14 = .ok (.getfield 353, 3) := by decide +kernel
theorem dX11_feed_17 : decode cX11_feed 17 = .ok (.arraylength, 1) := by decide +kernel
theorem dX11_feed_18 : decode cX11_feed 18 = .ok (.if_icmp .le 11, 3) := by decide +kernel
theorem dX11_feed_21 : decode cX11_feed 21 = .ok (.new 356, 3) := by decide +kernel
theorem dX11_feed_24 : decode cX11_feed 24 = .ok (.dup, 1) := by decide +kernel
theorem dX11_feed_25 : decode cX11_feed 25 = .ok (.invokespecial 358, 3) := by decide +kernel
theorem dX11_feed_28 : decode cX11_feed 28 = .ok (.athrow, 1) := by decide +kernel
theorem dX11_feed_29 : decode cX11_feed 29 = .ok (.aload_n 0, 1) := by decide +kernel
theorem dX11_feed_30 : decode cX11_feed 30 = .ok (.getfield 76, 3) := by decide +kernel
theorem dX11_feed_33 : decode cX11_feed 33 = .ok (.iload_n 1, 1) := by decide +kernel
theorem dX11_feed_34 : decode cX11_feed 34 = .ok (.invokevirtual 359, 3) := by decide +kernel
theorem dX11_feed_37 : decode cX11_feed 37 = .ok (.aload_n 0, 1) := by decide +kernel
theorem dX11_feed_38 : decode cX11_feed 38 = .ok (.getfield 76, 3) := by decide +kernel
theorem dX11_feed_41 : decode cX11_feed 41 = .ok (.iload_n 2, 1) := by decide +kernel
theorem dX11_feed_42 : decode cX11_feed 42 = .ok (.invokevirtual 359, 3) := by decide +kernel
theorem dX11_feed_45 : decode cX11_feed 45 = .ok (.aload_n 0, 1) := by decide +kernel
theorem dX11_feed_46 : decode cX11_feed 46 = .ok (.getfield 76, 3) := by decide +kernel
theorem dX11_feed_49 : decode cX11_feed 49 = .ok (.iload_n 3, 1) := by decide +kernel
theorem dX11_feed_50 : decode cX11_feed 50 = .ok (.invokevirtual 359, 3) := by decide +kernel
theorem dX11_feed_53 : decode cX11_feed 53 = .ok (.aload_n 0, 1) := by decide +kernel
theorem dX11_feed_54 : decode cX11_feed 54 = .ok (.getfield 76, 3) := by decide +kernel
theorem dX11_feed_57 : decode cX11_feed 57 = .ok (.iload 4, 2) := by decide +kernel
theorem dX11_feed_59 : decode cX11_feed 59 = .ok (.invokevirtual 359, 3) := by decide +kernel
theorem dX11_feed_62 : decode cX11_feed 62 = .ok (.aload_n 0, 1) := by decide +kernel
theorem dX11_feed_63 : decode cX11_feed 63 = .ok (.getfield 76, 3) := by decide +kernel
theorem dX11_feed_66 : decode cX11_feed 66 = .ok (.iload 5, 2) := by decide +kernel
theorem dX11_feed_68 : decode cX11_feed 68 = .ok (.invokevirtual 359, 3) := by decide +kernel
theorem dX11_feed_71 : decode cX11_feed 71 = .ok (.aload_n 0, 1) := by decide +kernel
theorem dX11_feed_72 : decode cX11_feed 72 = .ok (.getfield 76, 3) := by decide +kernel
theorem dX11_feed_75 : decode cX11_feed 75 = .ok (.getfield 352, 3) := by decide +kernel
theorem dX11_feed_78 : decode cX11_feed 78 = .ok (.ireturn, 1) := by decide +kernel
theorem dX11_end_0 : decode cX11_end 0 = .ok (.iload_n 1, 1) := by decide +kernel
theorem dX11_end_1 : decode cX11_end 1 = .ok (.ifCond .lt 14, 3) := by decide +kernel
theorem dX11_end_4 : decode cX11_end 4 = .ok (.iload_n 1, 1) := by decide +kernel
theorem dX11_end_5 : decode cX11_end 5 = .ok (.aload_n 0, 1) := by decide +kernel
theorem dX11_end_6 : decode cX11_end 6 = .ok (.getfield 76, 3) := by decide +kernel
theorem dX11_end_9 : decode cX11_end 9 = .ok (.getfield 352, 3) := by decide +kernel
theorem dX11_end_12 : decode cX11_end 12 = .ok (.if_icmp .le 11, 3) := by decide +kernel
theorem dX11_end_15 : decode cX11_end 15 = .ok (.new 362, 3) := by decide +kernel
theorem dX11_end_18 : decode cX11_end 18 = .ok (.dup, 1) := by decide +kernel
theorem dX11_end_19 : decode cX11_end 19 = .ok (.invokespecial 364, 3) := by decide +kernel
theorem dX11_end_22 : decode cX11_end 22 = .ok (.athrow, 1) := by decide +kernel
theorem dX11_end_23 : decode cX11_end 23 = .ok (.aload_n 0, 1) := by decide +kernel
theorem dX11_end_24 : decode cX11_end 24 = .ok (.getfield 76, 3) := by decide +kernel
theorem dX11_end_27 : decode cX11_end 27 = .ok (.iload_n 1, 1) := by decide +kernel
theorem dX11_end_28 : decode cX11_end 28 = .ok (.putfield 352, 3) := by decide +kernel
theorem dX11_end_31 : decode cX11_end 31 = .ok (.return_, 1) := by decide +kernel
theorem dX11_isNone_0 : decode cX11_isNone 0 = .ok (.iload_n 1, 1) := by decide +kernel
theorem dX11_isNone_1 : decode cX11_isNone 1 = .ok (.ifCond .lt 26, 3) := by decide +kernel
theorem dX11_isNone_4 : decode cX11_isNone 4 = .ok (.iload_n 1, 1) := by decide +kernel
theorem dX11_isNone_5 : decode cX11_isNone 5 = .ok (.aload_n 0, 1) := by decide +kernel
theorem dX11_isNone_6 : decode cX11_isNone 6 = .ok (.getfield 208, 3) := by decide +kernel
theorem dX11_isNone_9 : decode cX11_isNone 9 = .ok (.if_icmp .ge 18, 3) := by decide +kernel
theorem dX11_isNone_12 : decode cX11_isNone 12 = .ok (.iload_n 1, 1) := by decide +kernel
theorem dX11_isNone_13 : decode cX11_isNone 13 = .ok (.bipush 100, 2) := by decide +kernel
theorem dX11_isNone_15 : decode cX11_isNone 15 = .ok (.if_icmp .ge 12, 3) := by decide +kernel
theorem dX11_isNone_18 : decode cX11_isNone 18 = .ok (.aload_n 0, 1) := by decide +kernel
theorem dX11_isNone_19 : decode cX11_isNone 19 = .ok (.getfield 11, 3) := by decide +kernel
theorem dX11_isNone_22 : decode cX11_isNone 22 = .ok (.iload_n 1, 1) := by decide +kernel
theorem dX11_isNone_23 : decode cX11_isNone 23 = .ok (.aaload, 1) := by decide +kernel
theorem dX11_isNone_24 : decode cX11_isNone 24 = .ok (.ifnonnull 7, 3) := by decide +kernel
theorem dX11_isNone_27 : decode cX11_isNone 27 = .ok (.iconst 1, 1) := by decide +kernel
theorem dX11_isNone_28 : decode cX11_isNone 28 = .ok (.goto 4, 3) := by decide +kernel
theorem dX11_isNone_31 : decode cX11_isNone 31 = .ok (.iconst 0, 1) := by decide +kernel
theorem dX11_isNone_32 : decode cX11_isNone 32 = .ok (.ireturn, 1) := by decide +kernel
theorem dX11_isUntold_0 : decode cX11_isUntold 0 = .ok (.iload_n 1, 1) := by decide +kernel
theorem dX11_isUntold_1 : decode cX11_isUntold 1 = .ok (.ifCond .lt 26, 3) := by decide +kernel
theorem dX11_isUntold_4 : decode cX11_isUntold 4 = .ok (.iload_n 1, 1) := by decide +kernel
theorem dX11_isUntold_5 : decode cX11_isUntold 5 = .ok (.aload_n 0, 1) := by decide +kernel
theorem dX11_isUntold_6 : decode cX11_isUntold 6 = .ok (.getfield 273, 3) := by decide +kernel
theorem dX11_isUntold_9 : decode cX11_isUntold 9 = .ok (.if_icmp .ge 18, 3) := by decide +kernel
theorem dX11_isUntold_12 : decode cX11_isUntold 12 = .ok (.iload_n 1, 1) := by decide +kernel
theorem dX11_isUntold_13 : decode cX11_isUntold 13 = .ok (.bipush 30, 2) := by decide +kernel
theorem dX11_isUntold_15 : decode cX11_isUntold 15 = .ok (.if_icmp .ge 12, 3) := by decide +kernel
theorem dX11_isUntold_18 : decode cX11_isUntold 18 = .ok (.aload_n 0, 1) := by decide +kernel
theorem dX11_isUntold_19 : decode cX11_isUntold 19 = .ok (.getfield 17, 3) := by decide +kernel
theorem dX11_isUntold_22 : decode cX11_isUntold 22 = .ok (.iload_n 1, 1) := by decide +kernel
theorem dX11_isUntold_23 : decode cX11_isUntold 23 = .ok (.aaload, 1) := by decide +kernel
theorem dX11_isUntold_24 : decode cX11_isUntold 24 = .ok (.ifnonnull 7, 3) := by decide +kernel
theorem dX11_isUntold_27 : decode cX11_isUntold 27 = .ok (.iconst 1, 1) := by decide +kernel
theorem dX11_isUntold_28 : decode cX11_isUntold 28 = .ok (.goto 4, 3) := by decide +kernel
theorem dX11_isUntold_31 : decode cX11_isUntold 31 = .ok (.iconst 0, 1) := by decide +kernel
theorem dX11_isUntold_32 : decode cX11_isUntold 32 = .ok (.ireturn, 1) := by decide +kernel
theorem dX11_keep_0 : decode cX11_keep 0 = .ok (.aload_n 0, 1) := by decide +kernel
theorem dX11_keep_1 : decode cX11_keep 1 = .ok (.getfield 208, 3) := by decide +kernel
theorem dX11_keep_4 : decode cX11_keep 4 = .ok (.bipush 100, 2) := by decide +kernel
theorem dX11_keep_6 : decode cX11_keep 6 = .ok (.if_icmp .lt 6, 3) := by decide +kernel
theorem dX11_keep_9 : decode cX11_keep 9 = .ok (.bipush (-106), 2) := by decide +kernel
theorem dX11_keep_11 : decode cX11_keep 11 = .ok (.ireturn, 1) := by decide +kernel
theorem dX11_keep_12 : decode cX11_keep 12 = .ok (.aload_n 0, 1) := by decide +kernel
theorem dX11_keep_13 : decode cX11_keep 13 = .ok (.getfield 11, 3) := by decide +kernel
theorem dX11_keep_16 : decode cX11_keep 16 = .ok (.aload_n 0, 1) := by decide +kernel
theorem dX11_keep_17 : decode cX11_keep 17 = .ok (.getfield 208, 3) := by decide +kernel
theorem dX11_keep_20 : decode cX11_keep 20 = .ok (.aaload, 1) := by decide +kernel
theorem dX11_keep_21 : decode cX11_keep 21 = .ok (.astore_n 1, 1) := by decide +kernel
theorem dX11_keep_22 : decode cX11_keep 22 = .ok (.aload_n 0, 1) := by decide +kernel
theorem dX11_keep_23 : decode cX11_keep 23 = .ok (.getfield 11, 3) := by decide +kernel
theorem dX11_keep_26 : decode cX11_keep 26 = .ok (.aload_n 0, 1) := by decide +kernel
theorem dX11_keep_27 : decode cX11_keep 27 = .ok (.getfield 208, 3) := by decide +kernel
theorem dX11_keep_30 : decode cX11_keep 30 = .ok (.aload_n 0, 1) := by decide +kernel
theorem dX11_keep_31 : decode cX11_keep 31 = .ok (.getfield 29, 3) := by decide +kernel
theorem dX11_keep_34 : decode cX11_keep 34 = .ok (.aastore, 1) := by decide +kernel
theorem dX11_keep_35 : decode cX11_keep 35 = .ok (.aload_n 0, 1) := by decide +kernel
theorem dX11_keep_36 : decode cX11_keep 36 = .ok (.aload_n 1, 1) := by decide +kernel
theorem dX11_keep_37 : decode cX11_keep 37 = .ok (.ifnonnull 13, 3) := by decide +kernel
theorem dX11_keep_40 : decode cX11_keep 40 = .ok (.new 9, 3) := by decide +kernel
theorem dX11_keep_43 : decode cX11_keep 43 = .ok (.dup, 1) := by decide +kernel
theorem dX11_keep_44 : decode cX11_keep 44 = .ok (.invokespecial 28, 3) := by decide +kernel
theorem dX11_keep_47 : decode cX11_keep 47 = .ok (.goto 4, 3) := by decide +kernel
theorem dX11_keep_50 : decode cX11_keep 50 = .ok (.aload_n 1, 1) := by decide +kernel
theorem dX11_keep_51 : decode cX11_keep 51 = .ok (.putfield 29, 3) := by decide +kernel
theorem dX11_keep_54 : decode cX11_keep 54 = .ok (.aload_n 0, 1) := by decide +kernel
theorem dX11_keep_55 : decode cX11_keep 55 = .ok (.dup, 1) := by decide +kernel
theorem dX11_keep_56 : decode cX11_keep 56 = .ok (.getfield 208, 3) := by decide +kernel
theorem dX11_keep_59 : decode cX11_keep 59 = .ok (.dup_x1, 1) := by decide +kernel
theorem dX11_keep_60 : decode cX11_keep 60 = .ok (.iconst 1, 1) := by decide +kernel
theorem dX11_keep_61 : decode cX11_keep 61 = .ok (.iadd, 1) := by decide +kernel
theorem dX11_keep_62 : decode cX11_keep 62 = .ok (.putfield 208, 3) := by decide +kernel
theorem dX11_keep_65 : decode cX11_keep 65 = .ok (.ireturn, 1) := by decide +kernel
theorem dX11_ratio_0 : decode cX11_ratio 0 = .ok (.aload_n 0, 1) := by decide +kernel
theorem dX11_ratio_1 : decode cX11_ratio 1 = .ok (.getfield 29, 3) := by decide +kernel
theorem dX11_ratio_4 : decode cX11_ratio 4 = .ok (.getfield 168, 3) := by decide +kernel
theorem dX11_ratio_7 : decode cX11_ratio 7 = .ok (.astore 5, 2) := by decide +kernel
theorem dX11_ratio_9 : decode cX11_ratio 9 = .ok (.aload 5, 2) := by decide +kernel
theorem dX11_ratio_11 : decode cX11_ratio 11 = .ok (.getfield 243, 3) := by decide +kernel
theorem dX11_ratio_14 : decode cX11_ratio 14 = .ok (.iconst 1, 1) := by decide +kernel
theorem dX11_ratio_15 : decode cX11_ratio 15 = .ok (.aaload, 1) := by decide +kernel
theorem dX11_ratio_16 : decode cX11_ratio 16 = .ok (.lload_n 3, 1) := by decide +kernel
theorem dX11_ratio_17 : decode cX11_ratio 17 = .ok (.invokevirtual 277, 3) := by decide +kernel
theorem dX11_ratio_20 : decode cX11_ratio 20 = .ok (.aload 5, 2) := by decide +kernel
theorem dX11_ratio_22 : decode cX11_ratio 22 = .ok (.getfield 243, 3) := by decide +kernel
theorem dX11_ratio_25 : decode cX11_ratio 25 = .ok (.iconst 0, 1) := by decide +kernel
theorem dX11_ratio_26 : decode cX11_ratio 26 = .ok (.aaload, 1) := by decide +kernel
theorem dX11_ratio_27 : decode cX11_ratio 27 = .ok (.lload_n 1, 1) := by decide +kernel
theorem dX11_ratio_28 : decode cX11_ratio 28 = .ok (.invokevirtual 277, 3) := by decide +kernel
theorem dX11_ratio_31 : decode cX11_ratio 31 = .ok (.aload 5, 2) := by decide +kernel
theorem dX11_ratio_33 : decode cX11_ratio 33 = .ok (.getfield 243, 3) := by decide +kernel
theorem dX11_ratio_36 : decode cX11_ratio 36 = .ok (.iconst 0, 1) := by decide +kernel
theorem dX11_ratio_37 : decode cX11_ratio 37 = .ok (.aaload, 1) := by decide +kernel
theorem dX11_ratio_38 : decode cX11_ratio 38 = .ok (.invokevirtual 306, 3) := by decide +kernel
theorem dX11_ratio_41 : decode cX11_ratio 41 = .ok (.aload 5, 2) := by decide +kernel
theorem dX11_ratio_43 : decode cX11_ratio 43 = .ok (.iconst 1, 1) := by decide +kernel
theorem dX11_ratio_44 : decode cX11_ratio 44 = .ok (.putfield 191, 3) := by decide +kernel
theorem dX11_ratio_47 : decode cX11_ratio 47 = .ok (.aload_n 0, 1) := by decide +kernel
theorem dX11_ratio_48 : decode cX11_ratio 48 = .ok (.getfield 39, 3) := by decide +kernel
theorem dX11_ratio_51 : decode cX11_ratio 51 = .ok (.aload 5, 2) := by decide +kernel
theorem dX11_ratio_53 : decode cX11_ratio 53 = .ok (.invokevirtual 365, 3) := by decide +kernel
theorem dX11_ratio_56 : decode cX11_ratio 56 = .ok (.aload_n 0, 1) := by decide +kernel
theorem dX11_ratio_57 : decode cX11_ratio 57 = .ok (.getfield 29, 3) := by decide +kernel
theorem dX11_ratio_60 : decode cX11_ratio 60 = .ok (.invokevirtual 368, 3) := by decide +kernel
theorem dX11_ratio_63 : decode cX11_ratio 63 = .ok (.return_, 1) := by decide +kernel
theorem dX11_circle_0 : decode cX11_circle 0 = .ok (.lload_n 1, 1) := by decide +kernel
theorem dX11_circle_1 : decode cX11_circle 1 = .ok (.iload_n 3, 1) := by decide +kernel
theorem dX11_circle_2 : decode cX11_circle 2 = .ok (.i2l, 1) := by decide +kernel
theorem dX11_circle_3 : decode cX11_circle 3 = .ok (.invokestatic 401, 3) := by decide +kernel
theorem dX11_circle_6 : decode cX11_circle 6 = .ok (.l2i, 1) := by decide +kernel
theorem dX11_circle_7 : decode cX11_circle 7 = .ok (.istore 5, 2) := by decide +kernel
theorem dX11_circle_9 : decode cX11_circle 9 = .ok (.iload 4, 2) := by decide +kernel
theorem dX11_circle_11 : decode cX11_circle 11 = .ok (.ifCond .eq 18, 3) := by decide +kernel
theorem dX11_circle_14 : decode cX11_circle 14 = .ok (.iload_n 3, 1) := by decide +kernel
theorem dX11_circle_15 : decode cX11_circle 15 = .ok (.iconst 4, 1) := by decide +kernel
theorem dX11_circle_16 : decode cX11_circle 16 = .ok (.iload 5, 2) := by decide +kernel
theorem dX11_circle_18 : decode cX11_circle 18 = .ok (.imul, 1) := by decide +kernel
theorem dX11_circle_19 : decode cX11_circle 19 = .ok (.isub, 1) := by decide +kernel
theorem dX11_circle_20 : decode cX11_circle 20 = .ok (.iconst 4, 1) := by decide +kernel
theorem dX11_circle_21 : decode cX11_circle 21 = .ok (.iload_n 3, 1) := by decide +kernel
theorem dX11_circle_22 : decode cX11_circle 22 = .ok (.imul, 1) := by decide +kernel
theorem dX11_circle_23 : decode cX11_circle 23 = .ok (.invokestatic 405, 3) := by decide +kernel
theorem dX11_circle_26 : decode cX11_circle 26 = .ok (.goto 5, 3) := by decide +kernel
theorem dX11_circle_29 : decode cX11_circle 29 = .ok (.iload 5, 2) := by decide +kernel
theorem dX11_circle_31 : decode cX11_circle 31 = .ok (.istore 6, 2) := by decide +kernel
theorem dX11_circle_33 : decode cX11_circle 33 = .ok (.iload 4, 2) := by decide +kernel
theorem dX11_circle_35 : decode cX11_circle 35 = .ok (.ifCond .eq 9, 3) := by decide +kernel
theorem dX11_circle_38 : decode cX11_circle 38 = .ok (.iconst 4, 1) := by decide +kernel
theorem dX11_circle_39 : decode cX11_circle 39 = .ok (.iload_n 3, 1) := by decide +kernel
theorem dX11_circle_40 : decode cX11_circle 40 = .ok (.imul, 1) := by decide +kernel
theorem dX11_circle_41 : decode cX11_circle 41 = .ok (.goto 4, 3) := by decide +kernel
theorem dX11_circle_44 : decode cX11_circle 44 = .ok (.iload_n 3, 1) := by decide +kernel
theorem dX11_circle_45 : decode cX11_circle 45 = .ok (.istore 7, 2) := by decide +kernel
theorem dX11_circle_47 : decode cX11_circle 47 = .ok (.iload 6, 2) := by decide +kernel
theorem dX11_circle_49 : decode cX11_circle 49 = .ok (.iload 7, 2) := by decide +kernel
theorem dX11_circle_51 : decode cX11_circle 51 = .ok (.invokestatic 407, 3) := by decide +kernel
theorem dX11_circle_54 : decode cX11_circle 54 = .ok (.istore 8, 2) := by decide +kernel
theorem dX11_circle_56 : decode cX11_circle 56 = .ok (.iload 6, 2) := by decide +kernel
theorem dX11_circle_58 : decode cX11_circle 58 = .ok (.iconst 1, 1) := by decide +kernel
theorem dX11_circle_59 : decode cX11_circle 59 = .ok (.iload 8, 2) := by decide +kernel
theorem dX11_circle_61 : decode cX11_circle 61 = .ok (.invokestatic 102, 3) := by decide +kernel
theorem dX11_circle_64 : decode cX11_circle 64 = .ok (.idiv, 1) := by decide +kernel
theorem dX11_circle_65 : decode cX11_circle 65 = .ok (.istore 6, 2) := by decide +kernel
theorem dX11_circle_67 : decode cX11_circle 67 = .ok (.iload 7, 2) := by decide +kernel
theorem dX11_circle_69 : decode cX11_circle 69 = .ok (.iconst 1, 1) := by decide +kernel
theorem dX11_circle_70 : decode cX11_circle 70 = .ok (.iload 8, 2) := by decide +kernel
theorem dX11_circle_72 : decode cX11_circle 72 = .ok (.invokestatic 102, 3) := by decide +kernel
theorem dX11_circle_75 : decode cX11_circle 75 = .ok (.idiv, 1) := by decide +kernel
theorem dX11_circle_76 : decode cX11_circle 76 = .ok (.istore 7, 2) := by decide +kernel
theorem dX11_circle_78 : decode cX11_circle 78 = .ok (.iload 7, 2) := by decide +kernel
theorem dX11_circle_80 : decode cX11_circle 80 = .ok (.iconst 3, 1) := by decide +kernel
theorem dX11_circle_81 : decode cX11_circle 81 = .ok (.if_icmp .ge 7, 3) := by decide +kernel
theorem dX11_circle_84 : decode cX11_circle 84 = .ok (.iconst 1, 1) := by decide +kernel
theorem dX11_circle_85 : decode cX11_circle 85 = .ok (.goto 12, 3) := by decide +kernel
theorem dX11_circle_88 : decode cX11_circle 88 = .ok (.iload 7, 2) := by decide +kernel
theorem dX11_circle_90 : decode cX11_circle 90 = .ok (.iload 7, 2) := by decide +kernel
theorem dX11_circle_92 : decode cX11_circle 92 = .ok (.invokestatic 412, 3) := by decide +kernel
theorem dX11_circle_95 : decode cX11_circle 95 = .ok (.iconst 2, 1) := by decide +kernel
theorem dX11_circle_96 : decode cX11_circle 96 = .ok (.idiv, 1) := by decide +kernel
theorem dX11_circle_97 : decode cX11_circle 97 = .ok (.istore 9, 2) := by decide +kernel
theorem dX11_circle_99 : decode cX11_circle 99 = .ok (.iload 9, 2) := by decide +kernel
theorem dX11_circle_101 : decode cX11_circle 101 = .ok (.aload_n 0, 1) := by decide +kernel
theorem dX11_circle_102 : decode cX11_circle 102 = .ok (.getfield 105, 3) := by decide +kernel
theorem dX11_circle_105 : decode cX11_circle 105 = .ok (.if_icmp .le 6, 3) := by decide +kernel
theorem dX11_circle_108 : decode cX11_circle 108 = .ok (.bipush (-105), 2) := by decide +kernel
theorem dX11_circle_110 : decode cX11_circle 110 = .ok (.ireturn, 1) := by decide +kernel
theorem dX11_circle_111 : decode cX11_circle 111 = .ok (.aload_n 0, 1) := by decide +kernel
theorem dX11_circle_112 : decode cX11_circle 112 = .ok (.getfield 48, 3) := by decide +kernel
theorem dX11_circle_115 : decode cX11_circle 115 = .ok (.iload 7, 2) := by decide +kernel
theorem dX11_circle_117 : decode cX11_circle 117 = .ok (.iload 9, 2) := by decide +kernel
theorem dX11_circle_119 : decode cX11_circle 119 = .ok (.aload_n 0, 1) := by decide +kernel
theorem dX11_circle_120 : decode cX11_circle 120 = .ok (.getfield 29, 3) := by decide +kernel
theorem dX11_circle_123 : decode cX11_circle 123 = .ok (.getfield 168, 3) := by decide +kernel
theorem dX11_circle_126 : decode cX11_circle 126 = .ok (.invokevirtual 415, 3) := by decide +kernel
theorem dX11_circle_129 : decode cX11_circle 129 = .ok (.iload 9, 2) := by decide +kernel
theorem dX11_circle_131 : decode cX11_circle 131 = .ok (.iconst 1, 1) := by decide +kernel
theorem dX11_circle_132 : decode cX11_circle 132 = .ok (.if_icmp .ne 12, 3) := by decide +kernel
theorem dX11_circle_135 : decode cX11_circle 135 = .ok (.aload_n 0, 1) := by decide +kernel
theorem dX11_circle_136 : decode cX11_circle 136 = .ok (.getfield 29, 3) := by decide +kernel
theorem dX11_circle_139 : decode cX11_circle 139 = .ok (.invokevirtual 368, 3) := by decide +kernel
theorem dX11_circle_142 : decode cX11_circle 142 = .ok (.iconst 0, 1) := by decide +kernel
theorem dX11_circle_143 : decode cX11_circle 143 = .ok (.ireturn, 1) := by decide +kernel
theorem dX11_circle_144 : decode cX11_circle 144 = .ok (.aload_n 0, 1) := by decide +kernel
theorem dX11_circle_145 : decode cX11_circle 145 = .ok (.getfield 29, 3) := by decide +kernel
theorem dX11_circle_148 : decode cX11_circle 148 = .ok (.iload 9, 2) := by decide +kernel
theorem dX11_circle_150 : decode cX11_circle 150 = .ok (.iload 7, 2) := by decide +kernel
theorem dX11_circle_152 : decode cX11_circle 152 = .ok (.iload 6, 2) := by decide +kernel
theorem dX11_circle_154 : decode cX11_circle 154 = .ok (.iload 7, 2) := by decide +kernel
theorem dX11_circle_156 : decode cX11_circle 156 = .ok (.iload 6, 2) := by decide +kernel
theorem dX11_circle_158 : decode cX11_circle 158 = .ok (.isub, 1) := by decide +kernel
theorem dX11_circle_159 : decode cX11_circle 159 = .ok (.invokestatic 96, 3) := by decide +kernel
theorem dX11_circle_162 : decode cX11_circle 162 = .ok (.iconst 1, 1) := by decide +kernel
theorem dX11_circle_163 : decode cX11_circle 163 = .ok (.iadd, 1) := by decide +kernel
theorem dX11_circle_164 : decode cX11_circle 164 = .ok (.invokestatic 412, 3) := by decide +kernel
theorem dX11_circle_167 : decode cX11_circle 167 = .ok (.isub, 1) := by decide +kernel
theorem dX11_circle_168 : decode cX11_circle 168 = .ok (.putfield 161, 3) := by decide +kernel
theorem dX11_circle_171 : decode cX11_circle 171 = .ok (.iconst 3, 1) := by decide +kernel
theorem dX11_circle_172 : decode cX11_circle 172 = .ok (.ireturn, 1) := by decide +kernel
theorem dX11_takePlace_0 : decode cX11_takePlace 0 = .ok (.aload_n 0, 1) := by decide +kernel
theorem dX11_takePlace_1 : decode cX11_takePlace 1 = .ok (.getfield 62, 3) := by decide +kernel
theorem dX11_takePlace_4 : decode cX11_takePlace 4 = .ok (.aload_n 0, 1) := by decide +kernel
theorem dX11_takePlace_5 : decode cX11_takePlace 5 = .ok (.getfield 29, 3) := by decide +kernel
theorem dX11_takePlace_8 : decode cX11_takePlace 8 = .ok (.getfield 168, 3) := by decide +kernel
theorem dX11_takePlace_11 : decode cX11_takePlace 11 = .ok (.invokevirtual 200, 3) := by decide +kernel
theorem dX11_takePlace_14 : decode cX11_takePlace 14 = .ok (.aload_n 0, 1) := by decide +kernel
theorem dX11_takePlace_15 : decode cX11_takePlace 15 = .ok (.getfield 29, 3) := by decide +kernel
theorem dX11_takePlace_18 : decode cX11_takePlace 18 = .ok (.aload_n 0, 1) := by decide +kernel
theorem dX11_takePlace_19 : decode cX11_takePlace 19 = .ok (.getfield 62, 3) := by decide +kernel
theorem dX11_takePlace_22 : decode cX11_takePlace 22 = .ok (.aload_n 0, 1) := by decide +kernel
theorem dX11_takePlace_23 : decode cX11_takePlace 23 = .ok (.getfield 29, 3) := by decide +kernel
theorem dX11_takePlace_26 : decode cX11_takePlace 26 = .ok (.getfield 161, 3) := by decide +kernel
theorem dX11_takePlace_29 : decode cX11_takePlace 29 = .ok (.aload_n 0, 1) := by decide +kernel
theorem dX11_takePlace_30 : decode cX11_takePlace 30 = .ok (.getfield 29, 3) := by decide +kernel
theorem dX11_takePlace_33 : decode cX11_takePlace 33 = .ok (.getfield 328, 3) := by decide +kernel
theorem dX11_takePlace_36 : decode cX11_takePlace 36 = .ok (.aload_n 0, 1) := by decide +kernel
theorem dX11_takePlace_37 : decode cX11_takePlace 37 = .ok (.getfield 29, 3) := by decide +kernel
theorem dX11_takePlace_40 : decode cX11_takePlace 40 = .ok (.getfield 318, 3) := by decide +kernel
theorem dX11_takePlace_43 : decode cX11_takePlace 43 = .ok (.invokevirtual 419, 3) := by decide +kernel
theorem dX11_takePlace_46 : decode cX11_takePlace 46 = .ok (.putfield 321, 3) := by decide +kernel
theorem dX11_takePlace_49 : decode cX11_takePlace 49 = .ok (.aload_n 0, 1) := by decide +kernel
theorem dX11_takePlace_50 : decode cX11_takePlace 50 = .ok (.invokevirtual 423, 3) := by decide +kernel
theorem dX11_takePlace_53 : decode cX11_takePlace 53 = .ok (.iconst 0, 1) := by decide +kernel
theorem dX11_takePlace_54 : decode cX11_takePlace 54 = .ok (.ireturn, 1) := by decide +kernel
theorem dX11_finish_0 : decode cX11_finish 0 = .ok (.aload_n 0, 1) := by decide +kernel
theorem dX11_finish_1 : decode cX11_finish 1 = .ok (.getfield 29, 3) := by decide +kernel
theorem dX11_finish_4 : decode cX11_finish 4 = .ok (.aload_n 0, 1) := by decide +kernel
theorem dX11_finish_5 : decode cX11_finish 5 = .ok (.getfield 62, 3) := by decide +kernel
theorem dX11_finish_8 : decode cX11_finish 8 = .ok (.getfield 203, 3) := by decide +kernel
theorem dX11_finish_11 : decode cX11_finish 11 = .ok (.putfield 158, 3) := by decide +kernel
theorem dX11_finish_14 : decode cX11_finish 14 = .ok (.aload_n 0, 1) := by decide +kernel
theorem dX11_finish_15 : decode cX11_finish 15 = .ok (.getfield 29, 3) := by decide +kernel
theorem dX11_finish_18 : decode cX11_finish 18 = .ok (.aload_n 0, 1) := by decide +kernel
theorem dX11_finish_19 : decode cX11_finish 19 = .ok (.getfield 62, 3) := by decide +kernel
theorem dX11_finish_22 : decode cX11_finish 22 = .ok (.aload_n 0, 1) := by decide +kernel
theorem dX11_finish_23 : decode cX11_finish 23 = .ok (.getfield 29, 3) := by decide +kernel
theorem dX11_finish_26 : decode cX11_finish 26 = .ok (.getfield 328, 3) := by decide +kernel
theorem dX11_finish_29 : decode cX11_finish 29 = .ok (.aconst_null, 1) := by decide +kernel
theorem dX11_finish_30 : decode cX11_finish 30 = .ok (.aload_n 0, 1) := by decide +kernel
theorem dX11_finish_31 : decode cX11_finish 31 = .ok (.getfield 29, 3) := by decide +kernel
theorem dX11_finish_34 : decode cX11_finish 34 = .ok (.getfield 321, 3) := by decide +kernel
theorem dX11_finish_37 : decode cX11_finish 37 = .ok (.invokevirtual 426, 3) := by decide +kernel
theorem dX11_finish_40 : decode cX11_finish 40 = .ok (.putfield 161, 3) := by decide +kernel
theorem dX11_finish_43 : decode cX11_finish 43 = .ok (.aload_n 0, 1) := by decide +kernel
theorem dX11_finish_44 : decode cX11_finish 44 = .ok (.getfield 83, 3) := by decide +kernel
theorem dX11_finish_47 : decode cX11_finish 47 = .ok (.invokevirtual 430, 3) := by decide +kernel
theorem dX11_finish_50 : decode cX11_finish 50 = .ok (.aload_n 0, 1) := by decide +kernel
theorem dX11_finish_51 : decode cX11_finish 51 = .ok (.getfield 29, 3) := by decide +kernel
theorem dX11_finish_54 : decode cX11_finish 54 = .ok (.aload_n 0, 1) := by decide +kernel
theorem dX11_finish_55 : decode cX11_finish 55 = .ok (.getfield 29, 3) := by decide +kernel
theorem dX11_finish_58 : decode cX11_finish 58 = .ok (.getfield 161, 3) := by decide +kernel
theorem dX11_finish_61 : decode cX11_finish 61 = .ok (.aload_n 0, 1) := by decide +kernel
theorem dX11_finish_62 : decode cX11_finish 62 = .ok (.getfield 62, 3) := by decide +kernel
theorem dX11_finish_65 : decode cX11_finish 65 = .ok (.aload_n 0, 1) := by decide +kernel
theorem dX11_finish_66 : decode cX11_finish 66 = .ok (.getfield 83, 3) := by decide +kernel
theorem dX11_finish_69 : decode cX11_finish 69 = .ok (.aconst_null, 1) := by decide +kernel
theorem dX11_finish_70 : decode cX11_finish 70 = .ok (.iconst 0, 1) := by decide +kernel
theorem dX11_finish_71 : decode cX11_finish 71 = .ok (.invokevirtual 426, 3) := by decide +kernel
theorem dX11_finish_74 : decode cX11_finish 74 = .ok (.if_icmp .ge 7, 3) := by decide +kernel
theorem dX11_finish_77 : decode cX11_finish 77 = .ok (.iconst (-1), 1) := by decide +kernel
theorem dX11_finish_78 : decode cX11_finish 78 = .ok (.goto 4, 3) := by decide +kernel
theorem dX11_finish_81 : decode cX11_finish 81 = .ok (.iconst 1, 1) := by decide +kernel
theorem dX11_finish_82 : decode cX11_finish 82 = .ok (.putfield 135, 3) := by decide +kernel
theorem dX11_finish_85 : decode cX11_finish 85 = .ok (.return_, 1) := by decide +kernel
theorem dJ9_floorDiv_7cf53_0 : decode cJ9_floorDiv_7cf53 0 = .ok (.iload_n 0, 1) := by decide +kernel
theorem dJ9_floorDiv_7cf53_1 : decode cJ9_floorDiv_7cf53 1 = .ok (.iload_n 1, 1) := by decide +kernel
theorem dJ9_floorDiv_7cf53_2 : decode cJ9_floorDiv_7cf53 2 = .ok (.idiv, 1) := by decide +kernel
theorem dJ9_floorDiv_7cf53_3 : decode cJ9_floorDiv_7cf53 3 = .ok (.istore_n 2, 1) := by decide +kernel
theorem dJ9_floorDiv_7cf53_4 : decode cJ9_floorDiv_7cf53 4 = .ok (.iload_n 0, 1) := by decide +kernel
theorem dJ9_floorDiv_7cf53_5 : decode cJ9_floorDiv_7cf53 5 = .ok (.iload_n 1, 1) := by decide +kernel
theorem dJ9_floorDiv_7cf53_6 : decode cJ9_floorDiv_7cf53 6 = .ok (.ixor, 1) := by decide +kernel
theorem dJ9_floorDiv_7cf53_7 : decode cJ9_floorDiv_7cf53 7 = .ok (.ifCond .ge 14, 3) := by decide +kernel
theorem dJ9_floorDiv_7cf53_10 : decode cJ9_floorDiv_7cf53 10 = .ok (.iload_n 2, 1) := by decide +kernel
theorem dJ9_floorDiv_7cf53_11 : decode cJ9_floorDiv_7cf53 11 = .ok (.iload_n 1, 1) := by decide +kernel
theorem dJ9_floorDiv_7cf53_12 : decode cJ9_floorDiv_7cf53 12 = .ok (.imul, 1) := by decide +kernel
theorem dJ9_floorDiv_7cf53_13 : decode cJ9_floorDiv_7cf53 13 = .ok (.iload_n 0, 1) := by decide +kernel
theorem dJ9_floorDiv_7cf53_14 : decode cJ9_floorDiv_7cf53 14 = .ok (.if_icmp .eq 7, 3) := by decide +kernel
theorem dJ9_floorDiv_7cf53_17 : decode cJ9_floorDiv_7cf53 17 = .ok (.iload_n 2, 1) := by decide +kernel
theorem dJ9_floorDiv_7cf53_18 : decode cJ9_floorDiv_7cf53 18 = .ok (.iconst 1, 1) := by decide +kernel
theorem dJ9_floorDiv_7cf53_19 : decode cJ9_floorDiv_7cf53 19 = .ok (.isub, 1) := by decide +kernel
theorem dJ9_floorDiv_7cf53_20 : decode cJ9_floorDiv_7cf53 20 = .ok (.ireturn, 1) := by decide +kernel
theorem dJ9_floorDiv_7cf53_21 : decode cJ9_floorDiv_7cf53 21 = .ok (.iload_n 2, 1) := by decide +kernel
theorem dJ9_floorDiv_7cf53_22 : decode cJ9_floorDiv_7cf53 22 = .ok (.ireturn, 1) := by decide +kernel
theorem dJ9_floorMod_7cf53_0 : decode cJ9_floorMod_7cf53 0 = .ok (.iload_n 0, 1) := by decide +kernel
theorem dJ9_floorMod_7cf53_1 : decode cJ9_floorMod_7cf53 1 = .ok (.iload_n 1, 1) := by decide +kernel
theorem dJ9_floorMod_7cf53_2 : decode cJ9_floorMod_7cf53 2 = .ok (.irem, 1) := by decide +kernel
theorem dJ9_floorMod_7cf53_3 : decode cJ9_floorMod_7cf53 3 = .ok (.istore_n 2, 1) := by decide +kernel
theorem dJ9_floorMod_7cf53_4 : decode cJ9_floorMod_7cf53 4 = .ok (.iload_n 0, 1) := by decide +kernel
theorem dJ9_floorMod_7cf53_5 : decode cJ9_floorMod_7cf53 5 = .ok (.iload_n 1, 1) := by decide +kernel
theorem dJ9_floorMod_7cf53_6 : decode cJ9_floorMod_7cf53 6 = .ok (.ixor, 1) := by decide +kernel
theorem dJ9_floorMod_7cf53_7 : decode cJ9_floorMod_7cf53 7 = .ok (.ifCond .ge 11, 3) := by decide +kernel
theorem dJ9_floorMod_7cf53_10 : decode cJ9_floorMod_7cf53 10 = .ok (.iload_n 2, 1) := by decide +kernel
theorem dJ9_floorMod_7cf53_11 : decode cJ9_floorMod_7cf53 11 = .ok (.ifCond .eq 7, 3) := by decide +kernel
theorem dJ9_floorMod_7cf53_14 : decode cJ9_floorMod_7cf53 14 = .ok (.iload_n 2, 1) := by decide +kernel
theorem dJ9_floorMod_7cf53_15 : decode cJ9_floorMod_7cf53 15 = .ok (.iload_n 1, 1) := by decide +kernel
theorem dJ9_floorMod_7cf53_16 : decode cJ9_floorMod_7cf53 16 = .ok (.iadd, 1) := by decide +kernel
theorem dJ9_floorMod_7cf53_17 : decode cJ9_floorMod_7cf53 17 = .ok (.ireturn, 1) := by decide +kernel
theorem dJ9_floorMod_7cf53_18 : decode cJ9_floorMod_7cf53 18 = .ok (.iload_n 2, 1) := by decide +kernel
theorem dJ9_floorMod_7cf53_19 : decode cJ9_floorMod_7cf53 19 = .ok (.ireturn, 1) := by decide +kernel
theorem dJ9_floorMod_f86c9_0 : decode cJ9_floorMod_f86c9 0 = .ok (.lload_n 0, 1) := by decide +kernel
theorem dJ9_floorMod_f86c9_1 : decode cJ9_floorMod_f86c9 1 = .ok (.lload_n 2, 1) := by decide +kernel
theorem dJ9_floorMod_f86c9_2 : decode cJ9_floorMod_f86c9 2 = .ok (.lrem, 1) := by decide +kernel
theorem dJ9_floorMod_f86c9_3 : decode cJ9_floorMod_f86c9 3 = .ok (.lstore 4, 2) := by decide +kernel
theorem dJ9_floorMod_f86c9_5 : decode cJ9_floorMod_f86c9 5 = .ok (.lload_n 0, 1) := by decide +kernel
theorem dJ9_floorMod_f86c9_6 : decode cJ9_floorMod_f86c9 6 = .ok (.lload_n 2, 1) := by decide +kernel
theorem dJ9_floorMod_f86c9_7 : decode cJ9_floorMod_f86c9 7 = .ok (.lxor, 1) := by decide +kernel
theorem dJ9_floorMod_f86c9_8 : decode cJ9_floorMod_f86c9 8 = .ok (.lconst 0, 1) := by decide +kernel
theorem dJ9_floorMod_f86c9_9 : decode cJ9_floorMod_f86c9 9 = .ok (.lcmp, 1) := by decide +kernel
theorem dJ9_floorMod_f86c9_10 : decode cJ9_floorMod_f86c9 10 = .ok (.ifCond .ge 15, 3) := by decide +kernel
theorem dJ9_floorMod_f86c9_13 : decode cJ9_floorMod_f86c9 13 = .ok (.lload 4, 2) := by decide +kernel
theorem dJ9_floorMod_f86c9_15 : decode cJ9_floorMod_f86c9 15 = .ok (.lconst 0, 1) := by decide +kernel
theorem dJ9_floorMod_f86c9_16 : decode cJ9_floorMod_f86c9 16 = .ok (.lcmp, 1) := by decide +kernel
theorem dJ9_floorMod_f86c9_17 : decode cJ9_floorMod_f86c9 17 = .ok (.ifCond .eq 8, 3) := by decide +kernel
theorem dJ9_floorMod_f86c9_20 : decode cJ9_floorMod_f86c9 20 = .ok (.lload 4, 2) := by decide +kernel
theorem dJ9_floorMod_f86c9_22 : decode cJ9_floorMod_f86c9 22 = .ok (.lload_n 2, 1) := by decide +kernel
theorem dJ9_floorMod_f86c9_23 : decode cJ9_floorMod_f86c9 23 = .ok (.ladd, 1) := by decide +kernel
theorem dJ9_floorMod_f86c9_24 : decode cJ9_floorMod_f86c9 24 = .ok (.lreturn, 1) := by decide +kernel
theorem dJ9_floorMod_f86c9_25 : decode cJ9_floorMod_f86c9 25 = .ok (.lload 4, 2) := by decide +kernel
theorem dJ9_floorMod_f86c9_27 : decode cJ9_floorMod_f86c9 27 = .ok (.lreturn, 1) := by decide +kernel
theorem dJ7_fill_d0a16_0 : decode cJ7_fill_d0a16 0 = .ok (.iconst 0, 1) := by decide +kernel
theorem dJ7_fill_d0a16_1 : decode cJ7_fill_d0a16 1 = .ok (.istore_n 3, 1) := by decide +kernel
theorem dJ7_fill_d0a16_2 : decode cJ7_fill_d0a16 2 = .ok (.aload_n 0, 1) := by decide +kernel
theorem dJ7_fill_d0a16_3 : decode cJ7_fill_d0a16 3 = .ok (.arraylength, 1) := by decide +kernel
theorem dJ7_fill_d0a16_4 : decode cJ7_fill_d0a16 4 = .ok (.istore 4, 2) := by decide +kernel
theorem dJ7_fill_d0a16_6 : decode cJ7_fill_d0a16 6 = .ok (.iload_n 3, 1) := by decide +kernel
theorem dJ7_fill_d0a16_7 : decode cJ7_fill_d0a16 7 = .ok (.iload 4, 2) := by decide +kernel
theorem dJ7_fill_d0a16_9 : decode cJ7_fill_d0a16 9 = .ok (.if_icmp .ge 13, 3) := by decide +kernel
theorem dJ7_fill_d0a16_12 : decode cJ7_fill_d0a16 12 = .ok (.aload_n 0, 1) := by decide +kernel
theorem dJ7_fill_d0a16_13 : decode cJ7_fill_d0a16 13 = .ok (.iload_n 3, 1) := by decide +kernel
theorem dJ7_fill_d0a16_14 : decode cJ7_fill_d0a16 14 = .ok (.lload_n 1, 1) := by decide +kernel
theorem dJ7_fill_d0a16_15 : decode cJ7_fill_d0a16 15 = .ok (.lastore, 1) := by decide +kernel
theorem dJ7_fill_d0a16_16 : decode cJ7_fill_d0a16 16 = .ok (.iinc 3 1, 3) := by decide +kernel
theorem dJ7_fill_d0a16_19 : decode cJ7_fill_d0a16 19 = .ok (.goto (-13), 3) := by decide +kernel
theorem dJ7_fill_d0a16_22 : decode cJ7_fill_d0a16 22 = .ok (.return_, 1) := by decide +kernel
theorem dJ7_copyOf_59c91_0 : decode cJ7_copyOf_59c91 0 = .ok (.iload_n 1, 1) := by decide +kernel
theorem dJ7_copyOf_59c91_1 : decode cJ7_copyOf_59c91 1 = .ok (.aload_n 0, 1) := by decide +kernel
theorem dJ7_copyOf_59c91_2 : decode cJ7_copyOf_59c91 2 = .ok (.arraylength, 1) := by decide +kernel
theorem dJ7_copyOf_59c91_3 : decode cJ7_copyOf_59c91 3 = .ok (.if_icmp .ne 11, 3) := by decide +kernel
theorem dJ7_copyOf_59c91_6 : decode cJ7_copyOf_59c91 6 = .ok (.aload_n 0, 1) := by decide +kernel
theorem dJ7_copyOf_59c91_7 : decode cJ7_copyOf_59c91 7 = .ok (.invokevirtual 316, 3) := by decide +kernel
theorem dJ7_copyOf_59c91_10 : decode cJ7_copyOf_59c91 10 = .ok (.checkcast 317, 3) := by decide +kernel
theorem dJ7_copyOf_59c91_13 : decode cJ7_copyOf_59c91 13 = .ok (.areturn, 1) := by decide +kernel
theorem dJ7_copyOf_59c91_14 : decode cJ7_copyOf_59c91 14 = .ok (.iload_n 1, 1) := by decide +kernel
theorem dJ7_copyOf_59c91_15 : decode cJ7_copyOf_59c91 15 = .ok (.newarray .int, 2) := by decide +kernel
theorem dJ7_copyOf_59c91_17 : decode cJ7_copyOf_59c91 17 = .ok (.astore_n 2, 1) := by decide +kernel
theorem dJ7_copyOf_59c91_18 : decode cJ7_copyOf_59c91 18 = .ok (.aload_n 0, 1) := by decide +kernel
theorem dJ7_copyOf_59c91_19 : decode cJ7_copyOf_59c91 19 = .ok (.iconst 0, 1) := by decide +kernel
theorem dJ7_copyOf_59c91_20 : decode cJ7_copyOf_59c91 20 = .ok (.aload_n 2, 1) := by decide +kernel
theorem dJ7_copyOf_59c91_21 : decode cJ7_copyOf_59c91 21 = .ok (.iconst 0, 1) := by decide +kernel
theorem dJ7_copyOf_59c91_22 : decode cJ7_copyOf_59c91 22 = .ok (.aload_n 0, 1) := by decide +kernel
theorem dJ7_copyOf_59c91_23 : decode cJ7_copyOf_59c91 23 = .ok (.arraylength, 1) := by decide +kernel
theorem dJ7_copyOf_59c91_24 : decode cJ7_copyOf_59c91 24 = .ok (.iload_n 1, 1) := by decide +kernel
theorem dJ7_copyOf_59c91_25 : decode cJ7_copyOf_59c91 25 = .ok (.invokestatic 304, 3) := by decide +kernel
theorem dJ7_copyOf_59c91_28 : decode cJ7_copyOf_59c91 28 = .ok (.invokestatic 150, 3) := by decide +kernel
theorem dJ7_copyOf_59c91_31 : decode cJ7_copyOf_59c91 31 = .ok (.aload_n 2, 1) := by decide +kernel
theorem dJ7_copyOf_59c91_32 : decode cJ7_copyOf_59c91 32 = .ok (.areturn, 1) := by decide +kernel
