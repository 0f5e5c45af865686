def RX12 : String := "AlgebraicRealsModel"
def TX12 : u_T := fun k => match k with
  | 0 => ("AlgebraicRealsModel", "thrown", "I", false)
  | 1 => ("AlgebraicRealsModel", "heap", "[I", true)
  | 2 => ("AlgebraicRealsModel", "top", "I", false)
  | 3 => ("AlgebraicRealsModel", "quotient", "I", false)
  | 4 => ("AlgebraicRealsModel", "left", "I", false)
  | 5 => ("AlgebraicRealsModel", "kept", "[I", true)
  | 6 => ("AlgebraicRealsModel", "row", "[I", true)
  | 7 => ("AlgebraicRealsModel", "chain", "[I", true)
  | 8 => ("AlgebraicRealsModel", "chainSize", "I", false)
  | 9 => ("AlgebraicRealsModel", "exponent", "I", false)
  | 10 => ("AlgebraicRealsModel", "prime", "I", false)
  | 11 => ("AlgebraicRealsModel", "small", "[I", true)
  | 12 => ("AlgebraicRealsModel", "smalls", "I", false)
  | 13 => ("AlgebraicRealsModel", "toPart", "[I", true)
  | 14 => ("AlgebraicRealsModel", "toParts", "I", false)
  | 15 => ("AlgebraicRealsModel", "turns", "[I", true)
  | 16 => ("AlgebraicRealsModel", "upper", "I", false)
  | 17 => ("AlgebraicRealsModel", "lower", "I", false)
  | 18 => ("AlgebraicRealsModel", "parts1", "[I", true)
  | 19 => ("AlgebraicRealsModel", "partCount", "I", false)
  | 20 => ("AlgebraicRealsModel", "wantsAll", "Z", false)
  | 21 => ("AlgebraicRealsModel", "store", "[I", true)
  | 22 => ("AlgebraicRealsModel", "storeDegree", "[I", true)
  | 23 => ("AlgebraicRealsModel", "rank", "[I", true)
  | 24 => ("AlgebraicRealsModel", "numbers", "I", false)
  | 25 => ("AlgebraicRealsModel", "most", "I", false)
  | 26 => ("AlgebraicRealsModel", "spanFrom", "I", false)
  | 27 => ("AlgebraicRealsModel", "spanTo", "I", false)
  | 28 => ("AlgebraicRealsModel", "spanOver", "I", false)
  | 29 => ("AlgebraicRealsModel", "ringA", "[I", true)
  | 30 => ("AlgebraicRealsModel", "ringB", "[I", true)
  | 31 => ("AlgebraicRealsModel", "sizeA", "I", false)
  | 32 => ("AlgebraicRealsModel", "sizeB", "I", false)
  | 33 => ("AlgebraicRealsModel", "element", "[I", true)
  | 34 => ("AlgebraicRealsModel", "unit", "[I", true)
  | 35 => ("AlgebraicRealsModel", "modular", "Z", false)
  | 36 => ("AlgebraicRealsModel", "rows", "[I", true)
  | 37 => ("AlgebraicRealsModel", "firstOf", "[I", true)
  | 38 => ("AlgebraicRealsModel", "rowCount", "I", false)
  | 39 => ("AlgebraicRealsModel", "timesA", "I", false)
  | 40 => ("AlgebraicRealsModel", "timesB", "I", false)
  | 41 => ("AlgebraicRealsModel", "shape", "[I", true)
  | 42 => ("AlgebraicRealsModel", "shapeSize", "I", false)
  | 43 => ("AlgebraicRealsModel", "held", "[I", true)
  | 44 => ("AlgebraicRealsModel", "low", "I", false)
  | 45 => ("AlgebraicRealsModel", "high", "I", false)
  | 46 => ("AlgebraicRealsModel", "plain", "[I", true)
  | 47 => ("AlgebraicRealsModel", "ring", "[J", true)
  | 48 => ("AlgebraicRealsModel", "cycle", "[J", true)
  | 49 => ("AlgebraicRealsModel", "before", "[J", true)
  | 50 => ("AlgebraicRealsModel", "latest", "[J", true)
  | 51 => ("AlgebraicRealsModel", "waves", "[J", true)
  | 52 => ("AlgebraicRealsModel", "tape", "[B", true)
  | 53 => ("AlgebraicRealsModel", "taped", "I", false)
  | 54 => ("AlgebraicRealsModel", "text", "[B", true)
  | 55 => ("AlgebraicRealsModel", "textSize", "I", false)
  | 56 => ("AlgebraicRealsModel", "given", "[J", true)
  | 57 => ("AlgebraicRealsModel", "polynomials", "I", false)
  | 58 => ("AlgebraicRealsModel", "often", "[I", true)
  | 59 => ("AlgebraicRealsModel", "partsTold", "I", false)
  | 60 => ("AlgebraicRealsModel", "written", "[B", true)
  | 61 => ("AlgebraicRealsModel", "writtenSize", "I", false)
  | 62 => ("AlgebraicRealsModel", "rootCount", "I", false)
  | 63 => ("AlgebraicRealsModel", "apartTimes", "I", false)
  | 64 => ("AlgebraicRealsModel", "figures", "[B", true)
  | 65 => ("AlgebraicRealsModel", "figureCount", "I", false)
  | 66 => ("AlgebraicRealsModel", "acts", "[I", true)
  | 67 => ("AlgebraicRealsModel", "actA", "[I", true)
  | 68 => ("AlgebraicRealsModel", "actB", "[I", true)
  | 69 => ("AlgebraicRealsModel", "actCount", "I", false)
  | 70 => ("AlgebraicRealsModel", "tokenAt", "I", false)
  | 71 => ("AlgebraicRealsModel", "tokenSize", "I", false)
  | 72 => ("AlgebraicRealsModel", "token", "I", false)
  | 73 => ("AlgebraicRealsModel", "tokenValue", "I", false)
  | 74 => ("AlgebraicRealsModel", "wrong", "Z", false)
  | 75 => ("AlgebraicRealsModel", "openKind", "[I", true)
  | 76 => ("AlgebraicRealsModel", "openRoot", "[I", true)
  | 77 => ("AlgebraicRealsModel", "openSum", "[I", true)
  | 78 => ("AlgebraicRealsModel", "openLess", "[Z", true)
  | 79 => ("AlgebraicRealsModel", "openProduct", "[I", true)
  | _ => ("AlgebraicRealsModel", "depth", "I", false)
def tyX12 : Nat → FieldType := fun k => match k with
  | 0 => .int
  | 1 => .array .int
  | 2 => .int
  | 3 => .int
  | 4 => .int
  | 5 => .array .int
  | 6 => .array .int
  | 7 => .array .int
  | 8 => .int
  | 9 => .int
  | 10 => .int
  | 11 => .array .int
  | 12 => .int
  | 13 => .array .int
  | 14 => .int
  | 15 => .array .int
  | 16 => .int
  | 17 => .int
  | 18 => .array .int
  | 19 => .int
  | 20 => .boolean
  | 21 => .array .int
  | 22 => .array .int
  | 23 => .array .int
  | 24 => .int
  | 25 => .int
  | 26 => .int
  | 27 => .int
  | 28 => .int
  | 29 => .array .int
  | 30 => .array .int
  | 31 => .int
  | 32 => .int
  | 33 => .array .int
  | 34 => .array .int
  | 35 => .boolean
  | 36 => .array .int
  | 37 => .array .int
  | 38 => .int
  | 39 => .int
  | 40 => .int
  | 41 => .array .int
  | 42 => .int
  | 43 => .array .int
  | 44 => .int
  | 45 => .int
  | 46 => .array .int
  | 47 => .array .long
  | 48 => .array .long
  | 49 => .array .long
  | 50 => .array .long
  | 51 => .array .long
  | 52 => .array .byte
  | 53 => .int
  | 54 => .array .byte
  | 55 => .int
  | 56 => .array .long
  | 57 => .int
  | 58 => .array .int
  | 59 => .int
  | 60 => .array .byte
  | 61 => .int
  | 62 => .int
  | 63 => .int
  | 64 => .array .byte
  | 65 => .int
  | 66 => .array .int
  | 67 => .array .int
  | 68 => .array .int
  | 69 => .int
  | 70 => .int
  | 71 => .int
  | 72 => .int
  | 73 => .int
  | 74 => .boolean
  | 75 => .array .int
  | 76 => .array .int
  | 77 => .array .int
  | 78 => .array .boolean
  | 79 => .array .int
  | _ => .int
abbrev wsX120 : List Cond := u_ws RX12 TX12 81
theorem nmX12 : ∀ a, a < 81 → ∀ b, b < 81 → a ≠ b → (TX12 a).2.1 ≠ (TX12 b).2.1 := by decide +kernel
theorem tyX12_ok : ∀ k, k < 81 → parseFieldDescriptor (TX12 k).2.2.1 = some (tyX12 k) := by decide +kernel
abbrev cX12_thrown : ByteArray := prog_14_method_1_code
def yX12_thrown : MethodName := ⟨RX12, "thrown", "()I"⟩
abbrev cX12_in : ByteArray := prog_14_method_2_code
def yX12_in : MethodName := ⟨RX12, "in", "(JJJ)Z"⟩
abbrev cX12_size : ByteArray := prog_14_method_3_code
def yX12_size : MethodName := ⟨RX12, "size", "(I)I"⟩
abbrev cX12_signOf : ByteArray := prog_14_method_4_code
def yX12_signOf : MethodName := ⟨RX12, "signOf", "(I)I"⟩
abbrev cX12_shut : ByteArray := prog_14_method_5_code
def yX12_shut : MethodName := ⟨RX12, "shut", "(IIZ)I"⟩
abbrev cX12_whole : ByteArray := prog_14_method_6_code
def yX12_whole : MethodName := ⟨RX12, "whole", "(J)I"⟩
abbrev cX12_copy : ByteArray := prog_14_method_7_code
def yX12_copy : MethodName := ⟨RX12, "copy", "(I)I"⟩
abbrev cX12_negated : ByteArray := prog_14_method_8_code
def yX12_negated : MethodName := ⟨RX12, "negated", "(I)I"⟩
abbrev cX12_sizeCompare : ByteArray := prog_14_method_9_code
def yX12_sizeCompare : MethodName := ⟨RX12, "sizeCompare", "(II)I"⟩
abbrev cX12_bits : ByteArray := prog_14_method_15_code
def yX12_bits : MethodName := ⟨RX12, "bits", "(I)I"⟩
abbrev cX12_raised : ByteArray := prog_14_method_16_code
def yX12_raised : MethodName := ⟨RX12, "raised", "(II)I"⟩
abbrev cX12_lowered : ByteArray := prog_14_method_17_code
def yX12_lowered : MethodName := ⟨RX12, "lowered", "(II)I"⟩
abbrev cX12_divide : ByteArray := prog_14_method_18_code
def yX12_divide : MethodName := ⟨RX12, "divide", "(II)V"⟩
abbrev cX12_divideShort : ByteArray := prog_14_method_19_code
def yX12_divideShort : MethodName := ⟨RX12, "divideShort", "(II)V"⟩
abbrev cX12_over : ByteArray := prog_14_method_20_code
def yX12_over : MethodName := ⟨RX12, "over", "(II)I"⟩
abbrev cX12_keepNumbers : ByteArray := prog_14_method_22_code
def yX12_keepNumbers : MethodName := ⟨RX12, "keepNumbers", "(II)V"⟩
abbrev cX12_bring : ByteArray := prog_14_method_23_code
def yX12_bring : MethodName := ⟨RX12, "bring", "(II)V"⟩
abbrev cX12_keepNumber : ByteArray := prog_14_method_24_code
def yX12_keepNumber : MethodName := ⟨RX12, "keepNumber", "(II)I"⟩
abbrev cX12_greatestDivisor : ByteArray := prog_14_method_25_code
def yX12_greatestDivisor : MethodName := ⟨RX12, "greatestDivisor", "(II)I"⟩
abbrev cX12_degree : ByteArray := prog_14_method_26_code
def yX12_degree : MethodName := ⟨RX12, "degree", "(I)I"⟩
abbrev cX12_co : ByteArray := prog_14_method_27_code
def yX12_co : MethodName := ⟨RX12, "co", "(II)I"⟩
abbrev cX12_leading : ByteArray := prog_14_method_28_code
def yX12_leading : MethodName := ⟨RX12, "leading", "(I)I"⟩
abbrev cX12_polynomialOf : ByteArray := prog_14_method_29_code
def yX12_polynomialOf : MethodName := ⟨RX12, "polynomialOf", "(I)I"⟩
abbrev cX12_copyPolynomial : ByteArray := prog_14_method_30_code
def yX12_copyPolynomial : MethodName := ⟨RX12, "copyPolynomial", "(I)I"⟩
abbrev cX12_keepPolynomials : ByteArray := prog_14_method_31_code
def yX12_keepPolynomials : MethodName := ⟨RX12, "keepPolynomials", "(II)V"⟩
abbrev cX12_keepPolynomial : ByteArray := prog_14_method_32_code
def yX12_keepPolynomial : MethodName := ⟨RX12, "keepPolynomial", "(II)I"⟩
abbrev cX12_least : ByteArray := prog_14_method_35_code
def yX12_least : MethodName := ⟨RX12, "least", "(I)I"⟩
abbrev cX12_save : ByteArray := prog_14_method_73_code
def yX12_save : MethodName := ⟨RX12, "save", "(II)V"⟩
abbrev cX12_clear : ByteArray := prog_14_method_75_code
def yX12_clear : MethodName := ⟨RX12, "clear", "()V"⟩
abbrev cX12_isGreat : ByteArray := prog_14_method_76_code
def yX12_isGreat : MethodName := ⟨RX12, "isGreat", "(I)Z"⟩
abbrev cX12_put : ByteArray := prog_14_method_77_code
def yX12_put : MethodName := ⟨RX12, "put", "(III)I"⟩
abbrev cX12_putFraction : ByteArray := prog_14_method_78_code
def yX12_putFraction : MethodName := ⟨RX12, "putFraction", "(III)I"⟩
abbrev cX12_divisorOf : ByteArray := prog_14_method_116_code
def yX12_divisorOf : MethodName := ⟨RX12, "divisorOf", "(JJ)J"⟩
abbrev cX12_coprime : ByteArray := prog_14_method_117_code
def yX12_coprime : MethodName := ⟨RX12, "coprime", "(I)I"⟩
abbrev cX12_makeCycle : ByteArray := prog_14_method_118_code
def yX12_makeCycle : MethodName := ⟨RX12, "makeCycle", "(I)I"⟩
abbrev cX12_moebius : ByteArray := prog_14_method_119_code
def yX12_moebius : MethodName := ⟨RX12, "moebius", "(I)I"⟩
abbrev cX12_putCosine : ByteArray := prog_14_method_120_code
def yX12_putCosine : MethodName := ⟨RX12, "putCosine", "(III)I"⟩
abbrev cX12_putTurn : ByteArray := prog_14_method_121_code
def yX12_putTurn : MethodName := ⟨RX12, "putTurn", "(IJIZ)I"⟩
abbrev cX12_init : ByteArray := prog_14_method_122_code
def yX12_init : MethodName := ⟨RX12, "<init>", "(I)V"⟩
abbrev cX12_isNumber : ByteArray := prog_14_method_123_code
def yX12_isNumber : MethodName := ⟨RX12, "isNumber", "(I)Z"⟩
abbrev cX12_isPolynomial : ByteArray := prog_14_method_124_code
def yX12_isPolynomial : MethodName := ⟨RX12, "isPolynomial", "(I)Z"⟩
abbrev cX12_finish : ByteArray := prog_14_method_125_code
def yX12_finish : MethodName := ⟨RX12, "finish", "(I)I"⟩
abbrev cX12_fraction : ByteArray := prog_14_method_126_code
def yX12_fraction : MethodName := ⟨RX12, "fraction", "(JJ)I"⟩
abbrev cX12_apply : ByteArray := prog_14_method_127_code
def yX12_apply : MethodName := ⟨RX12, "apply", "(III)I"⟩
abbrev cX12_plain : ByteArray := prog_14_method_128_code
def yX12_plain : MethodName := ⟨RX12, "plain", "(II)I"⟩
abbrev cX12_power : ByteArray := prog_14_method_129_code
def yX12_power : MethodName := ⟨RX12, "power", "(II)I"⟩
abbrev cX12_root : ByteArray := prog_14_method_130_code
def yX12_root : MethodName := ⟨RX12, "root", "(II)I"⟩
abbrev cX12_turn : ByteArray := prog_14_method_131_code
def yX12_turn : MethodName := ⟨RX12, "turn", "(JIZ)I"⟩
abbrev cX12_beside : ByteArray := prog_14_method_133_code
def yX12_beside : MethodName := ⟨RX12, "beside", "(II)I"⟩
abbrev cX12_value : ByteArray := prog_14_method_136_code
def yX12_value : MethodName := ⟨RX12, "value", "(II)I"⟩
abbrev cX12_rootOf : ByteArray := prog_14_method_139_code
def yX12_rootOf : MethodName := ⟨RX12, "rootOf", "(II)I"⟩
abbrev cX12_common : ByteArray := prog_14_method_141_code
def yX12_common : MethodName := ⟨RX12, "common", "(II)I"⟩
abbrev cX12_drop : ByteArray := prog_14_method_142_code
def yX12_drop : MethodName := ⟨RX12, "drop", "()I"⟩
abbrev cX12_compare : ByteArray := prog_14_method_143_code
def yX12_compare : MethodName := ⟨RX12, "compare", "(II)I"⟩
abbrev cX12_sign : ByteArray := prog_14_method_144_code
def yX12_sign : MethodName := ⟨RX12, "sign", "(I)I"⟩
abbrev cX12_about : ByteArray := prog_14_method_145_code
def yX12_about : MethodName := ⟨RX12, "about", "(II)I"⟩
abbrev cX12_within : ByteArray := prog_14_method_146_code
def yX12_within : MethodName := ⟨RX12, "within", "(II)I"⟩
abbrev cX12_polynomial : ByteArray := prog_14_method_147_code
def yX12_polynomial : MethodName := ⟨RX12, "polynomial", "()I"⟩
abbrev cX12_coefficient : ByteArray := prog_14_method_148_code
def yX12_coefficient : MethodName := ⟨RX12, "coefficient", "(IIJ)I"⟩
abbrev cX12_roots : ByteArray := prog_14_method_149_code
def yX12_roots : MethodName := ⟨RX12, "roots", "(I)I"⟩
abbrev cX12_between : ByteArray := prog_14_method_150_code
def yX12_between : MethodName := ⟨RX12, "between", "(III)I"⟩
abbrev cX12_parts : ByteArray := prog_14_method_152_code
def yX12_parts : MethodName := ⟨RX12, "parts", "(I)I"⟩
abbrev cX12_part : ByteArray := prog_14_method_153_code
def yX12_part : MethodName := ⟨RX12, "part", "(II)I"⟩
abbrev cX12_write : ByteArray := prog_14_method_156_code
def yX12_write : MethodName := ⟨RX12, "write", "(II)I"⟩
abbrev cX12_writeLeast : ByteArray := prog_14_method_158_code
def yX12_writeLeast : MethodName := ⟨RX12, "writeLeast", "(I)I"⟩
abbrev cX12_writePart : ByteArray := prog_14_method_159_code
def yX12_writePart : MethodName := ⟨RX12, "writePart", "(I)I"⟩
abbrev cX12_at : ByteArray := prog_14_method_160_code
def yX12_at : MethodName := ⟨RX12, "at", "(I)I"⟩
abbrev cX12_feed : ByteArray := prog_14_method_161_code
def yX12_feed : MethodName := ⟨RX12, "feed", "(IIIII)I"⟩
abbrev cX12_end : ByteArray := prog_14_method_162_code
def yX12_end : MethodName := ⟨RX12, "end", "(I)V"⟩
abbrev cX12_signAt : ByteArray := prog_14_method_163_code
def yX12_signAt : MethodName := ⟨RX12, "signAt", "(I)I"⟩
abbrev cX12_isFigure : ByteArray := prog_14_method_164_code
def yX12_isFigure : MethodName := ⟨RX12, "isFigure", "(I)Z"⟩
abbrev cX12_next : ByteArray := prog_14_method_165_code
def yX12_next : MethodName := ⟨RX12, "next", "()V"⟩
abbrev cX12_open : ByteArray := prog_14_method_169_code
def yX12_open : MethodName := ⟨RX12, "open", "(II)V"⟩
abbrev cX12_readAtom : ByteArray := prog_14_method_170_code
def yX12_readAtom : MethodName := ⟨RX12, "readAtom", "()Z"⟩
abbrev cX12_readText : ByteArray := prog_14_method_172_code
def yX12_readText : MethodName := ⟨RX12, "readText", "()V"⟩
abbrev cX12_read : ByteArray := prog_14_method_174_code
def yX12_read : MethodName := ⟨RX12, "read", "()I"⟩
theorem dX12_thrown_0 : decode cX12_thrown 0 = .ok (.aload_n 0, 1) := by decide +kernel
theorem dX12_thrown_1 : decode cX12_thrown 1 = .ok (.getfield 1, 3) := by decide +kernel
theorem dX12_thrown_4 : decode cX12_thrown 4 = .ok (.ireturn, 1) := by decide +kernel
theorem dX12_in_0 : decode cX12_in 0 = .ok (.lload_n 0, 1) := by decide +kernel
theorem dX12_in_1 : decode cX12_in 1 = .ok (.lload_n 2, 1) := by decide +kernel
theorem dX12_in_2 : decode cX12_in 2 = .ok (.lcmp, 1) := by decide +kernel
theorem dX12_in_3 : decode cX12_in 3 = .ok (.ifCond .lt 14, 3) := by decide +kernel
theorem dX12_in_6 : decode cX12_in 6 = .ok (.lload_n 0, 1) := by decide +kernel
theorem dX12_in_7 : decode cX12_in 7 = .ok (.lload 4, 2) := by decide +kernel
theorem dX12_in_9 : decode cX12_in 9 = .ok (.lcmp, 1) := by decide +kernel
theorem dX12_in_10 : decode cX12_in 10 = .ok (.ifCond .gt 7, 3) := by decide +kernel
theorem dX12_in_13 : decode cX12_in 13 = .ok (.iconst 1, 1) := by decide +kernel
theorem dX12_in_14 : decode cX12_in 14 = .ok (.goto 4, 3) := by decide +kernel
theorem dX12_in_17 : decode cX12_in 17 = .ok (.iconst 0, 1) := by decide +kernel
theorem dX12_in_18 : decode cX12_in 18 = .ok (.ireturn, 1) := by decide +kernel
theorem dX12_size_0 : decode cX12_size 0 = .ok (.aload_n 0, 1) := by decide +kernel
theorem dX12_size_1 : decode cX12_size 1 = .ok (.getfield 7, 3) := by decide +kernel
theorem dX12_size_4 : decode cX12_size 4 = .ok (.iload_n 1, 1) := by decide +kernel
theorem dX12_size_5 : decode cX12_size 5 = .ok (.iaload, 1) := by decide +kernel
theorem dX12_size_6 : decode cX12_size 6 = .ok (.ifCond .ge 14, 3) := by decide +kernel
theorem dX12_size_9 : decode cX12_size 9 = .ok (.iconst 0, 1) := by decide +kernel
theorem dX12_size_10 : decode cX12_size 10 = .ok (.aload_n 0, 1) := by decide +kernel
theorem dX12_size_11 : decode cX12_size 11 = .ok (.getfield 7, 3) := by decide +kernel
theorem dX12_size_14 : decode cX12_size 14 = .ok (.iload_n 1, 1) := by decide +kernel
theorem dX12_size_15 : decode cX12_size 15 = .ok (.iaload, 1) := by decide +kernel
theorem dX12_size_16 : decode cX12_size 16 = .ok (.isub, 1) := by decide +kernel
theorem dX12_size_17 : decode cX12_size 17 = .ok (.goto 9, 3) := by decide +kernel
theorem dX12_size_20 : decode cX12_size 20 = .ok (.aload_n 0, 1) := by decide +kernel
theorem dX12_size_21 : decode cX12_size 21 = .ok (.getfield 7, 3) := by decide +kernel
theorem dX12_size_24 : decode cX12_size 24 = .ok (.iload_n 1, 1) := by decide +kernel
theorem dX12_size_25 : decode cX12_size 25 = .ok (.iaload, 1) := by decide +kernel
theorem dX12_size_26 : decode cX12_size 26 = .ok (.ireturn, 1) := by decide +kernel
theorem dX12_signOf_0 : decode cX12_signOf 0 = .ok (.aload_n 0, 1) := by decide +kernel
theorem dX12_signOf_1 : decode cX12_signOf 1 = .ok (.getfield 7, 3) := by decide +kernel
theorem dX12_signOf_4 : decode cX12_signOf 4 = .ok (.iload_n 1, 1) := by decide +kernel
theorem dX12_signOf_5 : decode cX12_signOf 5 = .ok (.iaload, 1) := by decide +kernel
theorem dX12_signOf_6 : decode cX12_signOf 6 = .ok (.ifCond .ge 7, 3) := by decide +kernel
theorem dX12_signOf_9 : decode cX12_signOf 9 = .ok (.iconst (-1), 1) := by decide +kernel
theorem dX12_signOf_10 : decode cX12_signOf 10 = .ok (.goto 17, 3) := by decide +kernel
theorem dX12_signOf_13 : decode cX12_signOf 13 = .ok (.aload_n 0, 1) := by decide +kernel
theorem dX12_signOf_14 : decode cX12_signOf 14 = .ok (.getfield 7, 3) := by decide +kernel
theorem dX12_signOf_17 : decode cX12_signOf 17 = .ok (.iload_n 1, 1) := by decide +kernel
theorem dX12_signOf_18 : decode cX12_signOf 18 = .ok (.iaload, 1) := by decide +kernel
theorem dX12_signOf_19 : decode cX12_signOf 19 = .ok (.ifCond .le 7, 3) := by decide +kernel
theorem dX12_signOf_22 : decode cX12_signOf 22 = .ok (.iconst 1, 1) := by decide +kernel
theorem dX12_signOf_23 : decode cX12_signOf 23 = .ok (.goto 4, 3) := by decide +kernel
theorem dX12_signOf_26 : decode cX12_signOf 26 = .ok (.iconst 0, 1) := by decide +kernel
theorem dX12_signOf_27 : decode cX12_signOf 27 = .ok (.ireturn, 1) := by decide +kernel
theorem dX12_shut_0 : decode cX12_shut 0 = .ok (.iload_n 2, 1) := by decide +kernel
theorem dX12_shut_1 : decode cX12_shut 1 = .ok (.istore 4, 2) := by decide +kernel
theorem dX12_shut_3 : decode cX12_shut 3 = .ok (.iload 4, 2) := by decide +kernel
theorem dX12_shut_5 : decode cX12_shut 5 = .ok (.ifCond .le 21, 3) := by decide +kernel
theorem dX12_shut_8 : decode cX12_shut 8 = .ok (.aload_n 0, 1) := by decide +kernel
theorem dX12_shut_9 : decode cX12_shut 9 = .ok (.getfield 7, 3) := by decide +kernel
theorem dX12_shut_12 : decode cX12_shut 12 = .ok (.iload_n 1, 1) := by decide +kernel
theorem dX12_shut_13 : decode cX12_shut 13 = .ok (.iload 4, 2) := by decide +kernel
theorem dX12_shut_15 : decode cX12_shut 15 = .ok (.iadd, 1) := by decide +kernel
theorem dX12_shut_16 : decode cX12_shut 16 = .ok (.iaload, 1) := by decide +kernel
theorem dX12_shut_17 : decode cX12_shut 17 = .ok (.ifCond .ne 9, 3) := by decide +kernel
theorem dX12_shut_20 : decode cX12_shut 20 = .ok (.iinc 4 (-1), 3) := by decide +kernel
theorem dX12_shut_23 : decode cX12_shut 23 = .ok (.goto (-20), 3) := by decide +kernel
theorem dX12_shut_26 : decode cX12_shut 26 = .ok (.aload_n 0, 1) := by decide +kernel
theorem dX12_shut_27 : decode cX12_shut 27 = .ok (.getfield 7, 3) := by decide +kernel
theorem dX12_shut_30 : decode cX12_shut 30 = .ok (.iload_n 1, 1) := by decide +kernel
theorem dX12_shut_31 : decode cX12_shut 31 = .ok (.iload_n 3, 1) := by decide +kernel
theorem dX12_shut_32 : decode cX12_shut 32 = .ok (.ifCond .eq 10, 3) := by decide +kernel
theorem dX12_shut_35 : decode cX12_shut 35 = .ok (.iconst 0, 1) := by decide +kernel
theorem dX12_shut_36 : decode cX12_shut 36 = .ok (.iload 4, 2) := by decide +kernel
theorem dX12_shut_38 : decode cX12_shut 38 = .ok (.isub, 1) := by decide +kernel
theorem dX12_shut_39 : decode cX12_shut 39 = .ok (.goto 5, 3) := by decide +kernel
theorem dX12_shut_42 : decode cX12_shut 42 = .ok (.iload 4, 2) := by decide +kernel
theorem dX12_shut_44 : decode cX12_shut 44 = .ok (.iastore, 1) := by decide +kernel
theorem dX12_shut_45 : decode cX12_shut 45 = .ok (.aload_n 0, 1) := by decide +kernel
theorem dX12_shut_46 : decode cX12_shut 46 = .ok (.iload_n 1, 1) := by decide +kernel
theorem dX12_shut_47 : decode cX12_shut 47 = .ok (.iconst 1, 1) := by decide +kernel
theorem dX12_shut_48 : decode cX12_shut 48 = .ok (.iadd, 1) := by decide +kernel
theorem dX12_shut_49 : decode cX12_shut 49 = .ok (.iload 4, 2) := by decide +kernel
theorem dX12_shut_51 : decode cX12_shut 51 = .ok (.iadd, 1) := by decide +kernel
theorem dX12_shut_52 : decode cX12_shut 52 = .ok (.putfield 11, 3) := by decide +kernel
theorem dX12_shut_55 : decode cX12_shut 55 = .ok (.iload_n 1, 1) := by decide +kernel
theorem dX12_shut_56 : decode cX12_shut 56 = .ok (.ireturn, 1) := by decide +kernel
theorem dX12_whole_0 : decode cX12_whole 0 = .ok (.aload_n 0, 1) := by decide +kernel
theorem dX12_whole_1 : decode cX12_whole 1 = .ok (.getfield 11, 3) := by decide +kernel
theorem dX12_whole_4 : decode cX12_whole 4 = .ok (.istore_n 3, 1) := by decide +kernel
theorem dX12_whole_5 : decode cX12_whole 5 = .ok (.lload_n 1, 1) := by decide +kernel
theorem dX12_whole_6 : decode cX12_whole 6 = .ok (.lconst 0, 1) := by decide +kernel
theorem dX12_whole_7 : decode cX12_whole 7 = .ok (.lcmp, 1) := by decide +kernel
theorem dX12_whole_8 : decode cX12_whole 8 = .ok (.ifCond .ge 9, 3) := by decide +kernel
theorem dX12_whole_11 : decode cX12_whole 11 = .ok (.lconst 0, 1) := by decide +kernel
theorem dX12_whole_12 : decode cX12_whole 12 = .ok (.lload_n 1, 1) := by decide +kernel
theorem dX12_whole_13 : decode cX12_whole 13 = .ok (.lsub, 1) := by decide +kernel
theorem dX12_whole_14 : decode cX12_whole 14 = .ok (.goto 4, 3) := by decide +kernel
theorem dX12_whole_17 : decode cX12_whole 17 = .ok (.lload_n 1, 1) := by decide +kernel
theorem dX12_whole_18 : decode cX12_whole 18 = .ok (.lstore 4, 2) := by decide +kernel
theorem dX12_whole_20 : decode cX12_whole 20 = .ok (.aload_n 0, 1) := by decide +kernel
theorem dX12_whole_21 : decode cX12_whole 21 = .ok (.getfield 7, 3) := by decide +kernel
theorem dX12_whole_24 : decode cX12_whole 24 = .ok (.iload_n 3, 1) := by decide +kernel
theorem dX12_whole_25 : decode cX12_whole 25 = .ok (.iconst 1, 1) := by decide +kernel
theorem dX12_whole_26 : decode cX12_whole 26 = .ok (.iadd, 1) := by decide +kernel
theorem dX12_whole_27 : decode cX12_whole 27 = .ok (.lload 4, 2) := by decide +kernel
theorem dX12_whole_29 : decode cX12_whole 29 = .ok (.ldc2_w 14, 3) := by decide +kernel
theorem dX12_whole_32 : decode cX12_whole 32 = .ok (.land, 1) := by decide +kernel
theorem dX12_whole_33 : decode cX12_whole 33 = .ok (.l2i, 1) := by decide +kernel
theorem dX12_whole_34 : decode cX12_whole 34 = .ok (.iastore, 1) := by decide +kernel
theorem dX12_whole_35 : decode cX12_whole 35 = .ok (.aload_n 0, 1) := by decide +kernel
theorem dX12_whole_36 : decode cX12_whole 36 = .ok (.getfield 7, 3) := by decide +kernel
theorem dX12_whole_39 : decode cX12_whole 39 = .ok (.iload_n 3, 1) := by decide +kernel
theorem dX12_whole_40 : decode cX12_whole 40 = .ok (.iconst 2, 1) := by decide +kernel
theorem dX12_whole_41 : decode cX12_whole 41 = .ok (.iadd, 1) := by decide +kernel
theorem dX12_whole_42 : decode cX12_whole 42 = .ok (.lload 4, 2) := by decide +kernel
theorem dX12_whole_44 : decode cX12_whole 44 = .ok (.bipush 31, 2) := by decide +kernel
theorem dX12_whole_46 : decode cX12_whole 46 = .ok (.lushr, 1) := by decide +kernel
theorem dX12_whole_47 : decode cX12_whole 47 = .ok (.ldc2_w 14, 3) := by decide +kernel
theorem dX12_whole_50 : decode cX12_whole 50 = .ok (.land, 1) := by decide +kernel
theorem dX12_whole_51 : decode cX12_whole 51 = .ok (.l2i, 1) := by decide +kernel
theorem dX12_whole_52 : decode cX12_whole 52 = .ok (.iastore, 1) := by decide +kernel
theorem dX12_whole_53 : decode cX12_whole 53 = .ok (.aload_n 0, 1) := by decide +kernel
theorem dX12_whole_54 : decode cX12_whole 54 = .ok (.getfield 7, 3) := by decide +kernel
theorem dX12_whole_57 : decode cX12_whole 57 = .ok (.iload_n 3, 1) := by decide +kernel
theorem dX12_whole_58 : decode cX12_whole 58 = .ok (.iconst 3, 1) := by decide +kernel
theorem dX12_whole_59 : decode cX12_whole 59 = .ok (.iadd, 1) := by decide +kernel
theorem dX12_whole_60 : decode cX12_whole 60 = .ok (.lload 4, 2) := by decide +kernel
theorem dX12_whole_62 : decode cX12_whole 62 = .ok (.bipush 62, 2) := by decide +kernel
theorem dX12_whole_64 : decode cX12_whole 64 = .ok (.lushr, 1) := by decide +kernel
theorem dX12_whole_65 : decode cX12_whole 65 = .ok (.l2i, 1) := by decide +kernel
theorem dX12_whole_66 : decode cX12_whole 66 = .ok (.iastore, 1) := by decide +kernel
theorem dX12_whole_67 : decode cX12_whole 67 = .ok (.aload_n 0, 1) := by decide +kernel
theorem dX12_whole_68 : decode cX12_whole 68 = .ok (.iload_n 3, 1) := by decide +kernel
theorem dX12_whole_69 : decode cX12_whole 69 = .ok (.iconst 3, 1) := by decide +kernel
theorem dX12_whole_70 : decode cX12_whole 70 = .ok (.lload_n 1, 1) := by decide +kernel
theorem dX12_whole_71 : decode cX12_whole 71 = .ok (.lconst 0, 1) := by decide +kernel
theorem dX12_whole_72 : decode cX12_whole 72 = .ok (.lcmp, 1) := by decide +kernel
theorem dX12_whole_73 : decode cX12_whole 73 = .ok (.ifCond .ge 7, 3) := by decide +kernel
theorem dX12_whole_76 : decode cX12_whole 76 = .ok (.iconst 1, 1) := by decide +kernel
theorem dX12_whole_77 : decode cX12_whole 77 = .ok (.goto 4, 3) := by decide +kernel
theorem dX12_whole_80 : decode cX12_whole 80 = .ok (.iconst 0, 1) := by decide +kernel
theorem dX12_whole_81 : decode cX12_whole 81 = .ok (.invokevirtual 16, 3) := by decide +kernel
theorem dX12_whole_84 : decode cX12_whole 84 = .ok (.ireturn, 1) := by decide +kernel
theorem dX12_copy_0 : decode cX12_copy 0 = .ok (.aload_n 0, 1) := by decide +kernel
theorem dX12_copy_1 : decode cX12_copy 1 = .ok (.getfield 11, 3) := by decide +kernel
theorem dX12_copy_4 : decode cX12_copy 4 = .ok (.istore_n 2, 1) := by decide +kernel
theorem dX12_copy_5 : decode cX12_copy 5 = .ok (.aload_n 0, 1) := by decide +kernel
theorem dX12_copy_6 : decode cX12_copy 6 = .ok (.iload_n 1, 1) := by decide +kernel
theorem dX12_copy_7 : decode cX12_copy 7 = .ok (.invokevirtual 20, 3) := by decide +kernel
theorem dX12_copy_10 : decode cX12_copy 10 = .ok (.istore_n 3, 1) := by decide +kernel
theorem dX12_copy_11 : decode cX12_copy 11 = .ok (.iconst 0, 1) := by decide +kernel
theorem dX12_copy_12 : decode cX12_copy 12 = .ok (.istore 4, 2) := by decide +kernel
theorem dX12_copy_14 : decode cX12_copy 14 = .ok (.iload 4, 2) := by decide +kernel
theorem dX12_copy_16 : decode cX12_copy 16 = .ok (.iload_n 3, 1) := by decide +kernel
theorem dX12_copy_17 : decode cX12_copy 17 = .ok (.if_icmp .gt 27, 3) := by decide +kernel
theorem dX12_copy_20 : decode cX12_copy 20 = .ok (.aload_n 0, 1) := by decide +kernel
theorem dX12_copy_21 : decode cX12_copy 21 = .ok (.getfield 7, 3) := by decide +kernel
theorem dX12_copy_24 : decode cX12_copy 24 = .ok (.iload_n 2, 1) := by decide +kernel
theorem dX12_copy_25 : decode cX12_copy 25 = .ok (.iload 4, 2) := by decide +kernel
theorem dX12_copy_27 : decode cX12_copy 27 = .ok (.iadd, 1) := by decide +kernel
theorem dX12_copy_28 : decode cX12_copy 28 = .ok (.aload_n 0, 1) := by decide +kernel
theorem dX12_copy_29 : decode cX12_copy 29 = .ok (.getfield 7, 3) := by decide +kernel
theorem dX12_copy_32 : decode cX12_copy 32 = .ok (.iload_n 1, 1) := by decide +kernel
theorem dX12_copy_33 : decode cX12_copy 33 = .ok (.iload 4, 2) := by decide +kernel
theorem dX12_copy_35 : decode cX12_copy 35 = .ok (.iadd, 1) := by decide +kernel
theorem dX12_copy_36 : decode cX12_copy 36 = .ok (.iaload, 1) := by decide +kernel
theorem dX12_copy_37 : decode cX12_copy 37 = .ok (.iastore, 1) := by decide +kernel
theorem dX12_copy_38 : decode cX12_copy 38 = .ok (.iinc 4 1, 3) := by decide +kernel
theorem dX12_copy_41 : decode cX12_copy 41 = .ok (.goto (-27), 3) := by decide +kernel
theorem dX12_copy_44 : decode cX12_copy 44 = .ok (.aload_n 0, 1) := by decide +kernel
theorem dX12_copy_45 : decode cX12_copy 45 = .ok (.iload_n 2, 1) := by decide +kernel
theorem dX12_copy_46 : decode cX12_copy 46 = .ok (.iload_n 3, 1) := by decide +kernel
theorem dX12_copy_47 : decode cX12_copy 47 = .ok (.iadd, 1) := by decide +kernel
theorem dX12_copy_48 : decode cX12_copy 48 = .ok (.iconst 1, 1) := by decide +kernel
theorem dX12_copy_49 : decode cX12_copy 49 = .ok (.iadd, 1) := by decide +kernel
theorem dX12_copy_50 : decode cX12_copy 50 = .ok (.putfield 11, 3) := by decide +kernel
theorem dX12_copy_53 : decode cX12_copy 53 = .ok (.iload_n 2, 1) := by decide +kernel
theorem dX12_copy_54 : decode cX12_copy 54 = .ok (.ireturn, 1) := by decide +kernel
theorem dX12_negated_0 : decode cX12_negated 0 = .ok (.aload_n 0, 1) := by decide +kernel
theorem dX12_negated_1 : decode cX12_negated 1 = .ok (.iload_n 1, 1) := by decide +kernel
theorem dX12_negated_2 : decode cX12_negated 2 = .ok (.invokevirtual 24, 3) := by decide +kernel
theorem dX12_negated_5 : decode cX12_negated 5 = .ok (.istore_n 2, 1) := by decide +kernel
theorem dX12_negated_6 : decode cX12_negated 6 = .ok (.aload_n 0, 1) := by decide +kernel
theorem dX12_negated_7 : decode cX12_negated 7 = .ok (.getfield 7, 3) := by decide +kernel
theorem dX12_negated_10 : decode cX12_negated 10 = .ok (.iload_n 2, 1) := by decide +kernel
theorem dX12_negated_11 : decode cX12_negated 11 = .ok (.iconst 0, 1) := by decide +kernel
theorem dX12_negated_12 : decode cX12_negated 12 = .ok (.aload_n 0, 1) := by decide +kernel
theorem dX12_negated_13 : decode cX12_negated 13 = .ok (.getfield 7, 3) := by decide +kernel
theorem dX12_negated_16 : decode cX12_negated 16 = .ok (.iload_n 2, 1) := by decide +kernel
theorem dX12_negated_17 : decode cX12_negated 17 = .ok (.iaload, 1) := by decide +kernel
theorem dX12_negated_18 : decode cX12_negated 18 = .ok (.isub, 1) := by decide +kernel
theorem dX12_negated_19 : decode cX12_negated 19 = .ok (.iastore, 1) := by decide +kernel
theorem dX12_negated_20 : decode cX12_negated 20 = .ok (.iload_n 2, 1) := by decide +kernel
theorem dX12_negated_21 : decode cX12_negated 21 = .ok (.ireturn, 1) := by decide +kernel
theorem dX12_sizeCompare_0 : decode cX12_sizeCompare 0 = .ok (.aload_n 0, 1) := by decide +kernel
theorem dX12_sizeCompare_1 : decode cX12_sizeCompare 1 = .ok (.iload_n 1, 1) := by decide +kernel
theorem dX12_sizeCompare_2 : decode cX12_sizeCompare 2 = .ok (.invokevirtual 20, 3) := by decide +kernel
theorem dX12_sizeCompare_5 : decode cX12_sizeCompare 5 = .ok (.istore_n 3, 1) := by decide +kernel
theorem dX12_sizeCompare_6 : decode cX12_sizeCompare 6 = .ok (.iload_n 3, 1) := by decide +kernel
theorem dX12_sizeCompare_7 : decode cX12_sizeCompare 7 = .ok (.aload_n 0, 1) := by decide +kernel
theorem dX12_sizeCompare_8 : decode cX12_sizeCompare 8 = .ok (.iload_n 2, 1) := by decide +kernel
theorem dX12_sizeCompare_9 : decode cX12_sizeCompare 9 = .ok (.invokevirtual 20, 3) := by decide +kernel
theorem dX12_sizeCompare_12 : decode cX12_sizeCompare 12 = .ok (.if_icmp .eq 18, 3) := by decide +kernel
theorem dX12_sizeCompare_15 : decode cX12_sizeCompare 15 = .ok (.iload_n 3, 1) := by decide +kernel
theorem dX12_sizeCompare_16 : decode cX12_sizeCompare 16 = .ok (.aload_n 0, 1) := by decide +kernel
theorem dX12_sizeCompare_17 : decode cX12_sizeCompare 17 = .ok (.iload_n 2, 1) := by decide +kernel
theorem dX12_sizeCompare_18 : decode cX12_sizeCompare 18 = .ok (.invokevirtual 20, 3) := by decide +kernel
theorem dX12_sizeCompare_21 : decode cX12_sizeCompare 21 = .ok (.if_icmp .ge 7, 3) := by decide +kernel
theorem dX12_sizeCompare_24 : decode cX12_sizeCompare 24 = .ok (.iconst (-1), 1) := by decide +kernel
theorem dX12_sizeCompare_25 : decode cX12_sizeCompare 25 = .ok (.goto 4, 3) := by decide +kernel
theorem dX12_sizeCompare_28 : decode cX12_sizeCompare 28 = .ok (.iconst 1, 1) := by decide +kernel
theorem dX12_sizeCompare_29 : decode cX12_sizeCompare 29 = .ok (.ireturn, 1) := by decide +kernel
theorem dX12_sizeCompare_30 : decode cX12_sizeCompare 30 = .ok (.iload_n 3, 1) := by decide +kernel
theorem dX12_sizeCompare_31 : decode cX12_sizeCompare 31 = .ok (.istore 4, 2) := by decide +kernel
theorem dX12_sizeCompare_33 : decode cX12_sizeCompare 33 = .ok (.iload 4, 2) := by decide +kernel
theorem dX12_sizeCompare_35 : decode cX12_sizeCompare 35 = .ok (.ifCond .le 57, 3) := by decide +kernel
theorem dX12_sizeCompare_38 : decode cX12_sizeCompare 38 = .ok (.aload_n 0, 1) := by decide +kernel
theorem dX12_sizeCompare_39 : decode cX12_sizeCompare 39 = .ok (.getfield 7, 3) := by decide +kernel
theorem dX12_sizeCompare_42 : decode cX12_sizeCompare 42 = .ok (.iload_n 1, 1) := by decide +kernel
theorem dX12_sizeCompare_43 : decode cX12_sizeCompare 43 = .ok (.iload 4, 2) := by decide +kernel
theorem dX12_sizeCompare_45 : decode cX12_sizeCompare 45 = .ok (.iadd, 1) := by decide +kernel
theorem dX12_sizeCompare_46 : decode cX12_sizeCompare 46 = .ok (.iaload, 1) := by decide +kernel
theorem dX12_sizeCompare_47 : decode cX12_sizeCompare 47 = .ok (.aload_n 0, 1) := by decide +kernel
theorem dX12_sizeCompare_48 : decode cX12_sizeCompare 48 = .ok (.getfield 7, 3) := by decide +kernel
theorem dX12_sizeCompare_51 : decode cX12_sizeCompare 51 = .ok (.iload_n 2, 1) := by decide +kernel
theorem dX12_sizeCompare_52 : decode cX12_sizeCompare 52 = .ok (.iload 4, 2) := by decide +kernel
theorem dX12_sizeCompare_54 : decode cX12_sizeCompare 54 = .ok (.iadd, 1) := by decide +kernel
theorem dX12_sizeCompare_55 : decode cX12_sizeCompare 55 = .ok (.iaload, 1) := by decide +kernel
theorem dX12_sizeCompare_56 : decode cX12_sizeCompare 56 = .ok (.if_icmp .eq 30, 3) := by decide +kernel
theorem dX12_sizeCompare_59 : decode cX12_sizeCompare 59 = .ok (.aload_n 0, 1) := by decide +kernel
theorem dX12_sizeCompare_60 : decode cX12_sizeCompare 60 = .ok (.getfield 7, 3) := by decide +kernel
theorem dX12_sizeCompare_63 : decode cX12_sizeCompare 63 = .ok (.iload_n 1, 1) := by decide +kernel
theorem dX12_sizeCompare_64 : decode cX12_sizeCompare 64 = .ok (.iload 4, 2) := by decide +kernel
theorem dX12_sizeCompare_66 : decode cX12_sizeCompare 66 = .ok (.iadd, 1) := by decide +kernel
theorem dX12_sizeCompare_67 : decode cX12_sizeCompare 67 = .ok (.iaload, 1) := by decide +kernel
theorem dX12_sizeCompare_68 : decode cX12_sizeCompare 68 = .ok (.aload_n 0, 1) := by decide +kernel
theorem dX12_sizeCompare_69 : decode cX12_sizeCompare 69 = .ok (.getfield 7, 3) := by decide +kernel
theorem dX12_sizeCompare_72 : decode cX12_sizeCompare 72 = .ok (.iload_n 2, 1) := by decide +kernel
theorem dX12_sizeCompare_73 : decode cX12_sizeCompare 73 = .ok (.iload 4, 2) := by decide +kernel
theorem dX12_sizeCompare_75 : decode cX12_sizeCompare 75 = .ok (.iadd, 1) := by decide +kernel
theorem dX12_sizeCompare_76 : decode cX12_sizeCompare 76 = .ok (.iaload, 1) := by decide +kernel
theorem dX12_sizeCompare_77 : decode cX12_sizeCompare 77 = .ok (.if_icmp .ge 7, 3) := by decide +kernel
theorem dX12_sizeCompare_80 : decode cX12_sizeCompare 80 = .ok (.iconst (-1), 1) := by decide +kernel
theorem dX12_sizeCompare_81 : decode cX12_sizeCompare 81 = .ok (.goto 4, 3) := by decide +kernel
theorem dX12_sizeCompare_84 : decode cX12_sizeCompare 84 = .ok (.iconst 1, 1) := by decide +kernel
theorem dX12_sizeCompare_85 : decode cX12_sizeCompare 85 = .ok (.ireturn, 1) := by decide +kernel
theorem dX12_sizeCompare_86 : decode cX12_sizeCompare 86 = .ok (.iinc 4 (-1), 3) := by decide +kernel
theorem dX12_sizeCompare_89 : decode cX12_sizeCompare 89 = .ok (.goto (-56), 3) := by decide +kernel
theorem dX12_sizeCompare_92 : decode cX12_sizeCompare 92 = .ok (.iconst 0, 1) := by decide +kernel
theorem dX12_sizeCompare_93 : decode cX12_sizeCompare 93 = .ok (.ireturn, 1) := by decide +kernel
theorem dX12_bits_0 : decode cX12_bits 0 = .ok (.aload_n 0, 1) := by decide +kernel
theorem dX12_bits_1 : decode cX12_bits 1 = .ok (.iload_n 1, 1) := by decide +kernel
theorem dX12_bits_2 : decode cX12_bits 2 = .ok (.invokevirtual 20, 3) := by decide +kernel
theorem dX12_bits_5 : decode cX12_bits 5 = .ok (.istore_n 2, 1) := by decide +kernel
theorem dX12_bits_6 : decode cX12_bits 6 = .ok (.iload_n 2, 1) := by decide +kernel
theorem dX12_bits_7 : decode cX12_bits 7 = .ok (.ifCond .ne 5, 3) := by decide +kernel
theorem dX12_bits_10 : decode cX12_bits 10 = .ok (.iconst 0, 1) := by decide +kernel
theorem dX12_bits_11 : decode cX12_bits 11 = .ok (.ireturn, 1) := by decide +kernel
theorem dX12_bits_12 : decode cX12_bits 12 = .ok (.iconst 0, 1) := by decide +kernel
theorem dX12_bits_13 : decode cX12_bits 13 = .ok (.istore_n 3, 1) := by decide +kernel
theorem dX12_bits_14 : decode cX12_bits 14 = .ok (.iload_n 3, 1) := by decide +kernel
theorem dX12_bits_15 : decode cX12_bits 15 = .ok (.bipush 31, 2) := by decide +kernel
theorem dX12_bits_17 : decode cX12_bits 17 = .ok (.if_icmp .ge 22, 3) := by decide +kernel
theorem dX12_bits_20 : decode cX12_bits 20 = .ok (.aload_n 0, 1) := by decide +kernel
theorem dX12_bits_21 : decode cX12_bits 21 = .ok (.getfield 7, 3) := by decide +kernel
theorem dX12_bits_24 : decode cX12_bits 24 = .ok (.iload_n 1, 1) := by decide +kernel
theorem dX12_bits_25 : decode cX12_bits 25 = .ok (.iload_n 2, 1) := by decide +kernel
theorem dX12_bits_26 : decode cX12_bits 26 = .ok (.iadd, 1) := by decide +kernel
theorem dX12_bits_27 : decode cX12_bits 27 = .ok (.iaload, 1) := by decide +kernel
theorem dX12_bits_28 : decode cX12_bits 28 = .ok (.iload_n 3, 1) := by decide +kernel
theorem dX12_bits_29 : decode cX12_bits 29 = .ok (.ishr, 1) := by decide +kernel
theorem dX12_bits_30 : decode cX12_bits 30 = .ok (.ifCond .eq 9, 3) := by decide +kernel
theorem dX12_bits_33 : decode cX12_bits 33 = .ok (.iinc 3 1, 3) := by decide +kernel
theorem dX12_bits_36 : decode cX12_bits 36 = .ok (.goto (-22), 3) := by decide +kernel
theorem dX12_bits_39 : decode cX12_bits 39 = .ok (.bipush 31, 2) := by decide +kernel
theorem dX12_bits_41 : decode cX12_bits 41 = .ok (.iload_n 2, 1) := by decide +kernel
theorem dX12_bits_42 : decode cX12_bits 42 = .ok (.iconst 1, 1) := by decide +kernel
theorem dX12_bits_43 : decode cX12_bits 43 = .ok (.isub, 1) := by decide +kernel
theorem dX12_bits_44 : decode cX12_bits 44 = .ok (.imul, 1) := by decide +kernel
theorem dX12_bits_45 : decode cX12_bits 45 = .ok (.iload_n 3, 1) := by decide +kernel
theorem dX12_bits_46 : decode cX12_bits 46 = .ok (.iadd, 1) := by decide +kernel
theorem dX12_bits_47 : decode cX12_bits 47 = .ok (.ireturn, 1) := by decide +kernel
theorem dX12_raised_0 : decode cX12_raised 0 = .ok (.aload_n 0, 1) := by decide +kernel
theorem dX12_raised_1 : decode cX12_raised 1 = .ok (.getfield 11, 3) := by decide +kernel
theorem dX12_raised_4 : decode cX12_raised 4 = .ok (.istore_n 3, 1) := by decide +kernel
theorem dX12_raised_5 : decode cX12_raised 5 = .ok (.aload_n 0, 1) := by decide +kernel
theorem dX12_raised_6 : decode cX12_raised 6 = .ok (.iload_n 1, 1) := by decide +kernel
theorem dX12_raised_7 : decode cX12_raised 7 = .ok (.invokevirtual 20, 3) := by decide +kernel
theorem dX12_raised_10 : decode cX12_raised 10 = .ok (.istore 4, 2) := by decide +kernel
theorem dX12_raised_12 : decode cX12_raised 12 = .ok (.iload_n 2, 1) := by decide +kernel
theorem dX12_raised_13 : decode cX12_raised 13 = .ok (.bipush 31, 2) := by decide +kernel
theorem dX12_raised_15 : decode cX12_raised 15 = .ok (.idiv, 1) := by decide +kernel
theorem dX12_raised_16 : decode cX12_raised 16 = .ok (.istore 5, 2) := by decide +kernel
theorem dX12_raised_18 : decode cX12_raised 18 = .ok (.iload_n 2, 1) := by decide +kernel
theorem dX12_raised_19 : decode cX12_raised 19 = .ok (.bipush 31, 2) := by decide +kernel
theorem dX12_raised_21 : decode cX12_raised 21 = .ok (.irem, 1) := by decide +kernel
theorem dX12_raised_22 : decode cX12_raised 22 = .ok (.istore 6, 2) := by decide +kernel
theorem dX12_raised_24 : decode cX12_raised 24 = .ok (.iconst 1, 1) := by decide +kernel
theorem dX12_raised_25 : decode cX12_raised 25 = .ok (.istore 7, 2) := by decide +kernel
theorem dX12_raised_27 : decode cX12_raised 27 = .ok (.iload 7, 2) := by decide +kernel
theorem dX12_raised_29 : decode cX12_raised 29 = .ok (.iload 5, 2) := by decide +kernel
theorem dX12_raised_31 : decode cX12_raised 31 = .ok (.if_icmp .gt 19, 3) := by decide +kernel
theorem dX12_raised_34 : decode cX12_raised 34 = .ok (.aload_n 0, 1) := by decide +kernel
theorem dX12_raised_35 : decode cX12_raised 35 = .ok (.getfield 7, 3) := by decide +kernel
theorem dX12_raised_38 : decode cX12_raised 38 = .ok (.iload_n 3, 1) := by decide +kernel
theorem dX12_raised_39 : decode cX12_raised 39 = .ok (.iload 7, 2) := by decide +kernel
theorem dX12_raised_41 : decode cX12_raised 41 = .ok (.iadd, 1) := by decide +kernel
theorem dX12_raised_42 : decode cX12_raised 42 = .ok (.iconst 0, 1) := by decide +kernel
theorem dX12_raised_43 : decode cX12_raised 43 = .ok (.iastore, 1) := by decide +kernel
theorem dX12_raised_44 : decode cX12_raised 44 = .ok (.iinc 7 1, 3) := by decide +kernel
theorem dX12_raised_47 : decode cX12_raised 47 = .ok (.goto (-20), 3) := by decide +kernel
theorem dX12_raised_50 : decode cX12_raised 50 = .ok (.lconst 0, 1) := by decide +kernel
theorem dX12_raised_51 : decode cX12_raised 51 = .ok (.lstore 7, 2) := by decide +kernel
theorem dX12_raised_53 : decode cX12_raised 53 = .ok (.iconst 1, 1) := by decide +kernel
theorem dX12_raised_54 : decode cX12_raised 54 = .ok (.istore 9, 2) := by decide +kernel
theorem dX12_raised_56 : decode cX12_raised 56 = .ok (.iload 9, 2) := by decide +kernel
theorem dX12_raised_58 : decode cX12_raised 58 = .ok (.iload 4, 2) := by decide +kernel
theorem dX12_raised_60 : decode cX12_raised 60 = .ok (.if_icmp .gt 53, 3) := by decide +kernel
theorem dX12_raised_63 : decode cX12_raised 63 = .ok (.lload 7, 2) := by decide +kernel
theorem dX12_raised_65 : decode cX12_raised 65 = .ok (.aload_n 0, 1) := by decide +kernel
theorem dX12_raised_66 : decode cX12_raised 66 = .ok (.getfield 7, 3) := by decide +kernel
theorem dX12_raised_69 : decode cX12_raised 69 = .ok (.iload_n 1, 1) := by decide +kernel
theorem dX12_raised_70 : decode cX12_raised 70 = .ok (.iload 9, 2) := by decide +kernel
theorem dX12_raised_72 : decode cX12_raised 72 = .ok (.iadd, 1) := by decide +kernel
theorem dX12_raised_73 : decode cX12_raised 73 = .ok (.iaload, 1) := by decide +kernel
theorem dX12_raised_74 : decode cX12_raised 74 = .ok (.i2l, 1) := by decide +kernel
theorem dX12_raised_75 : decode cX12_raised 75 = .ok (.iload 6, 2) := by decide +kernel
theorem dX12_raised_77 : decode cX12_raised 77 = .ok (.lshl, 1) := by decide +kernel
theorem dX12_raised_78 : decode cX12_raised 78 = .ok (.lor, 1) := by decide +kernel
theorem dX12_raised_79 : decode cX12_raised 79 = .ok (.lstore 7, 2) := by decide +kernel
theorem dX12_raised_81 : decode cX12_raised 81 = .ok (.aload_n 0, 1) := by decide +kernel
theorem dX12_raised_82 : decode cX12_raised 82 = .ok (.getfield 7, 3) := by decide +kernel
theorem dX12_raised_85 : decode cX12_raised 85 = .ok (.iload_n 3, 1) := by decide +kernel
theorem dX12_raised_86 : decode cX12_raised 86 = .ok (.iload 5, 2) := by decide +kernel
theorem dX12_raised_88 : decode cX12_raised 88 = .ok (.iadd, 1) := by decide +kernel
theorem dX12_raised_89 : decode cX12_raised 89 = .ok (.iload 9, 2) := by decide +kernel
theorem dX12_raised_91 : decode cX12_raised 91 = .ok (.iadd, 1) := by decide +kernel
theorem dX12_raised_92 : decode cX12_raised 92 = .ok (.lload 7, 2) := by decide +kernel
theorem dX12_raised_94 : decode cX12_raised 94 = .ok (.ldc2_w 14, 3) := by decide +kernel
theorem dX12_raised_97 : decode cX12_raised 97 = .ok (.land, 1) := by decide +kernel
theorem dX12_raised_98 : decode cX12_raised 98 = .ok (.l2i, 1) := by decide +kernel
theorem dX12_raised_99 : decode cX12_raised 99 = .ok (.iastore, 1) := by decide +kernel
theorem dX12_raised_100 : decode cX12_raised 100 = .ok (.lload 7, 2) := by decide +kernel
theorem dX12_raised_102 : decode cX12_raised 102 = .ok (.bipush 31, 2) := by decide +kernel
theorem dX12_raised_104 : decode cX12_raised 104 = .ok (.lshr, 1) := by decide +kernel
theorem dX12_raised_105 : decode cX12_raised 105 = .ok (.lstore 7, 2) := by decide +kernel
theorem dX12_raised_107 : decode cX12_raised 107 = .ok (.iinc 9 1, 3) := by decide +kernel
theorem dX12_raised_110 : decode cX12_raised 110 = .ok (.goto (-54), 3) := by decide +kernel
theorem dX12_raised_113 : decode cX12_raised 113 = .ok (.aload_n 0, 1) := by decide +kernel
theorem dX12_raised_114 : decode cX12_raised 114 = .ok (.getfield 7, 3) := by decide +kernel
theorem dX12_raised_117 : decode cX12_raised 117 = .ok (.iload_n 3, 1) := by decide +kernel
theorem dX12_raised_118 : decode cX12_raised 118 = .ok (.iload 5, 2) := by decide +kernel
theorem dX12_raised_120 : decode cX12_raised 120 = .ok (.iadd, 1) := by decide +kernel
theorem dX12_raised_121 : decode cX12_raised 121 = .ok (.iload 4, 2) := by decide +kernel
theorem dX12_raised_123 : decode cX12_raised 123 = .ok (.iadd, 1) := by decide +kernel
theorem dX12_raised_124 : decode cX12_raised 124 = .ok (.iconst 1, 1) := by decide +kernel
theorem dX12_raised_125 : decode cX12_raised 125 = .ok (.iadd, 1) := by decide +kernel
theorem dX12_raised_126 : decode cX12_raised 126 = .ok (.lload 7, 2) := by decide +kernel
theorem dX12_raised_128 : decode cX12_raised 128 = .ok (.l2i, 1) := by decide +kernel
theorem dX12_raised_129 : decode cX12_raised 129 = .ok (.iastore, 1) := by decide +kernel
theorem dX12_raised_130 : decode cX12_raised 130 = .ok (.aload_n 0, 1) := by decide +kernel
theorem dX12_raised_131 : decode cX12_raised 131 = .ok (.iload_n 3, 1) := by decide +kernel
theorem dX12_raised_132 : decode cX12_raised 132 = .ok (.iload 5, 2) := by decide +kernel
theorem dX12_raised_134 : decode cX12_raised 134 = .ok (.iload 4, 2) := by decide +kernel
theorem dX12_raised_136 : decode cX12_raised 136 = .ok (.iadd, 1) := by decide +kernel
theorem dX12_raised_137 : decode cX12_raised 137 = .ok (.iconst 1, 1) := by decide +kernel
theorem dX12_raised_138 : decode cX12_raised 138 = .ok (.iadd, 1) := by decide +kernel
theorem dX12_raised_139 : decode cX12_raised 139 = .ok (.aload_n 0, 1) := by decide +kernel
theorem dX12_raised_140 : decode cX12_raised 140 = .ok (.getfield 7, 3) := by decide +kernel
theorem dX12_raised_143 : decode cX12_raised 143 = .ok (.iload_n 1, 1) := by decide +kernel
theorem dX12_raised_144 : decode cX12_raised 144 = .ok (.iaload, 1) := by decide +kernel
theorem dX12_raised_145 : decode cX12_raised 145 = .ok (.ifCond .ge 7, 3) := by decide +kernel
theorem dX12_raised_148 : decode cX12_raised 148 = .ok (.iconst 1, 1) := by decide +kernel
theorem dX12_raised_149 : decode cX12_raised 149 = .ok (.goto 4, 3) := by decide +kernel
theorem dX12_raised_152 : decode cX12_raised 152 = .ok (.iconst 0, 1) := by decide +kernel
theorem dX12_raised_153 : decode cX12_raised 153 = .ok (.invokevirtual 16, 3) := by decide +kernel
theorem dX12_raised_156 : decode cX12_raised 156 = .ok (.ireturn, 1) := by decide +kernel
theorem dX12_lowered_0 : decode cX12_lowered 0 = .ok (.aload_n 0, 1) := by decide +kernel
theorem dX12_lowered_1 : decode cX12_lowered 1 = .ok (.getfield 11, 3) := by decide +kernel
theorem dX12_lowered_4 : decode cX12_lowered 4 = .ok (.istore_n 3, 1) := by decide +kernel
theorem dX12_lowered_5 : decode cX12_lowered 5 = .ok (.iload_n 2, 1) := by decide +kernel
theorem dX12_lowered_6 : decode cX12_lowered 6 = .ok (.bipush 31, 2) := by decide +kernel
theorem dX12_lowered_8 : decode cX12_lowered 8 = .ok (.idiv, 1) := by decide +kernel
theorem dX12_lowered_9 : decode cX12_lowered 9 = .ok (.istore 4, 2) := by decide +kernel
theorem dX12_lowered_11 : decode cX12_lowered 11 = .ok (.iload_n 2, 1) := by decide +kernel
theorem dX12_lowered_12 : decode cX12_lowered 12 = .ok (.bipush 31, 2) := by decide +kernel
theorem dX12_lowered_14 : decode cX12_lowered 14 = .ok (.irem, 1) := by decide +kernel
theorem dX12_lowered_15 : decode cX12_lowered 15 = .ok (.istore 5, 2) := by decide +kernel
theorem dX12_lowered_17 : decode cX12_lowered 17 = .ok (.aload_n 0, 1) := by decide +kernel
theorem dX12_lowered_18 : decode cX12_lowered 18 = .ok (.iload_n 1, 1) := by decide +kernel
theorem dX12_lowered_19 : decode cX12_lowered 19 = .ok (.invokevirtual 20, 3) := by decide +kernel
theorem dX12_lowered_22 : decode cX12_lowered 22 = .ok (.iload 4, 2) := by decide +kernel
theorem dX12_lowered_24 : decode cX12_lowered 24 = .ok (.isub, 1) := by decide +kernel
theorem dX12_lowered_25 : decode cX12_lowered 25 = .ok (.istore 6, 2) := by decide +kernel
theorem dX12_lowered_27 : decode cX12_lowered 27 = .ok (.iload 6, 2) := by decide +kernel
theorem dX12_lowered_29 : decode cX12_lowered 29 = .ok (.ifCond .gt 11, 3) := by decide +kernel
theorem dX12_lowered_32 : decode cX12_lowered 32 = .ok (.aload_n 0, 1) := by decide +kernel
theorem dX12_lowered_33 : decode cX12_lowered 33 = .ok (.iload_n 3, 1) := by decide +kernel
theorem dX12_lowered_34 : decode cX12_lowered 34 = .ok (.iconst 0, 1) := by decide +kernel
theorem dX12_lowered_35 : decode cX12_lowered 35 = .ok (.iconst 0, 1) := by decide +kernel
theorem dX12_lowered_36 : decode cX12_lowered 36 = .ok (.invokevirtual 16, 3) := by decide +kernel
theorem dX12_lowered_39 : decode cX12_lowered 39 = .ok (.ireturn, 1) := by decide +kernel
theorem dX12_lowered_40 : decode cX12_lowered 40 = .ok (.iconst 1, 1) := by decide +kernel
theorem dX12_lowered_41 : decode cX12_lowered 41 = .ok (.istore 7, 2) := by decide +kernel
theorem dX12_lowered_43 : decode cX12_lowered 43 = .ok (.iload 7, 2) := by decide +kernel
theorem dX12_lowered_45 : decode cX12_lowered 45 = .ok (.iload 6, 2) := by decide +kernel
theorem dX12_lowered_47 : decode cX12_lowered 47 = .ok (.if_icmp .gt 77, 3) := by decide +kernel
theorem dX12_lowered_50 : decode cX12_lowered 50 = .ok (.aload_n 0, 1) := by decide +kernel
theorem dX12_lowered_51 : decode cX12_lowered 51 = .ok (.getfield 7, 3) := by decide +kernel
theorem dX12_lowered_54 : decode cX12_lowered 54 = .ok (.iload_n 1, 1) := by decide +kernel
theorem dX12_lowered_55 : decode cX12_lowered 55 = .ok (.iload 4, 2) := by decide +kernel
theorem dX12_lowered_57 : decode cX12_lowered 57 = .ok (.iadd, 1) := by decide +kernel
theorem dX12_lowered_58 : decode cX12_lowered 58 = .ok (.iload 7, 2) := by decide +kernel
theorem dX12_lowered_60 : decode cX12_lowered 60 = .ok (.iadd, 1) := by decide +kernel
theorem dX12_lowered_61 : decode cX12_lowered 61 = .ok (.iaload, 1) := by decide +kernel
theorem dX12_lowered_62 : decode cX12_lowered 62 = .ok (.i2l, 1) := by decide +kernel
theorem dX12_lowered_63 : decode cX12_lowered 63 = .ok (.lstore 8, 2) := by decide +kernel
theorem dX12_lowered_65 : decode cX12_lowered 65 = .ok (.iload 7, 2) := by decide +kernel
theorem dX12_lowered_67 : decode cX12_lowered 67 = .ok (.iload 6, 2) := by decide +kernel
theorem dX12_lowered_69 : decode cX12_lowered 69 = .ok (.if_icmp .ge 21, 3) := by decide +kernel
theorem dX12_lowered_72 : decode cX12_lowered 72 = .ok (.aload_n 0, 1) := by decide +kernel
theorem dX12_lowered_73 : decode cX12_lowered 73 = .ok (.getfield 7, 3) := by decide +kernel
theorem dX12_lowered_76 : decode cX12_lowered 76 = .ok (.iload_n 1, 1) := by decide +kernel
theorem dX12_lowered_77 : decode cX12_lowered 77 = .ok (.iload 4, 2) := by decide +kernel
theorem dX12_lowered_79 : decode cX12_lowered 79 = .ok (.iadd, 1) := by decide +kernel
theorem dX12_lowered_80 : decode cX12_lowered 80 = .ok (.iload 7, 2) := by decide +kernel
theorem dX12_lowered_82 : decode cX12_lowered 82 = .ok (.iadd, 1) := by decide +kernel
theorem dX12_lowered_83 : decode cX12_lowered 83 = .ok (.iconst 1, 1) := by decide +kernel
theorem dX12_lowered_84 : decode cX12_lowered 84 = .ok (.iadd, 1) := by decide +kernel
theorem dX12_lowered_85 : decode cX12_lowered 85 = .ok (.iaload, 1) := by decide +kernel
theorem dX12_lowered_86 : decode cX12_lowered 86 = .ok (.i2l, 1) := by decide +kernel
theorem dX12_lowered_87 : decode cX12_lowered 87 = .ok (.goto 4, 3) := by decide +kernel
theorem dX12_lowered_90 : decode cX12_lowered 90 = .ok (.lconst 0, 1) := by decide +kernel
theorem dX12_lowered_91 : decode cX12_lowered 91 = .ok (.lstore 10, 2) := by decide +kernel
theorem dX12_lowered_93 : decode cX12_lowered 93 = .ok (.aload_n 0, 1) := by decide +kernel
theorem dX12_lowered_94 : decode cX12_lowered 94 = .ok (.getfield 7, 3) := by decide +kernel
theorem dX12_lowered_97 : decode cX12_lowered 97 = .ok (.iload_n 3, 1) := by decide +kernel
theorem dX12_lowered_98 : decode cX12_lowered 98 = .ok (.iload 7, 2) := by decide +kernel
theorem dX12_lowered_100 : decode cX12_lowered 100 = .ok (.iadd, 1) := by decide +kernel
theorem dX12_lowered_101 : decode cX12_lowered 101 = .ok (.lload 8, 2) := by decide +kernel
theorem dX12_lowered_103 : decode cX12_lowered 103 = .ok (.lload 10, 2) := by decide +kernel
theorem dX12_lowered_105 : decode cX12_lowered 105 = .ok (.bipush 31, 2) := by decide +kernel
theorem dX12_lowered_107 : decode cX12_lowered 107 = .ok (.lshl, 1) := by decide +kernel
theorem dX12_lowered_108 : decode cX12_lowered 108 = .ok (.lor, 1) := by decide +kernel
theorem dX12_lowered_109 : decode cX12_lowered 109 = .ok (.iload 5, 2) := by decide +kernel
theorem dX12_lowered_111 : decode cX12_lowered 111 = .ok (.lshr, 1) := by decide +kernel
theorem dX12_lowered_112 : decode cX12_lowered 112 = .ok (.ldc2_w 14, 3) := by decide +kernel
theorem dX12_lowered_115 : decode cX12_lowered 115 = .ok (.land, 1) := by decide +kernel
theorem dX12_lowered_116 : decode cX12_lowered 116 = .ok (.l2i, 1) := by decide +kernel
theorem dX12_lowered_117 : decode cX12_lowered 117 = .ok (.iastore, 1) := by decide +kernel
theorem dX12_lowered_118 : decode cX12_lowered 118 = .ok (.iinc 7 1, 3) := by decide +kernel
theorem dX12_lowered_121 : decode cX12_lowered 121 = .ok (.goto (-78), 3) := by decide +kernel
theorem dX12_lowered_124 : decode cX12_lowered 124 = .ok (.aload_n 0, 1) := by decide +kernel
theorem dX12_lowered_125 : decode cX12_lowered 125 = .ok (.iload_n 3, 1) := by decide +kernel
theorem dX12_lowered_126 : decode cX12_lowered 126 = .ok (.iload 6, 2) := by decide +kernel
theorem dX12_lowered_128 : decode cX12_lowered 128 = .ok (.aload_n 0, 1) := by decide +kernel
theorem dX12_lowered_129 : decode cX12_lowered 129 = .ok (.getfield 7, 3) := by decide +kernel
theorem dX12_lowered_132 : decode cX12_lowered 132 = .ok (.iload_n 1, 1) := by decide +kernel
theorem dX12_lowered_133 : decode cX12_lowered 133 = .ok (.iaload, 1) := by decide +kernel
theorem dX12_lowered_134 : decode cX12_lowered 134 = .ok (.ifCond .ge 7, 3) := by decide +kernel
theorem dX12_lowered_137 : decode cX12_lowered 137 = .ok (.iconst 1, 1) := by decide +kernel
theorem dX12_lowered_138 : decode cX12_lowered 138 = .ok (.goto 4, 3) := by decide +kernel
theorem dX12_lowered_141 : decode cX12_lowered 141 = .ok (.iconst 0, 1) := by decide +kernel
theorem dX12_lowered_142 : decode cX12_lowered 142 = .ok (.invokevirtual 16, 3) := by decide +kernel
theorem dX12_lowered_145 : decode cX12_lowered 145 = .ok (.ireturn, 1) := by decide +kernel
theorem dX12_divide_0 : decode cX12_divide 0 = .ok (.aload_n 0, 1) := by decide +kernel
theorem dX12_divide_1 : decode cX12_divide 1 = .ok (.iload_n 1, 1) := by decide +kernel
theorem dX12_divide_2 : decode cX12_divide 2 = .ok (.iload_n 2, 1) := by decide +kernel
theorem dX12_divide_3 : decode cX12_divide 3 = .ok (.invokevirtual 30, 3) := by decide +kernel
theorem dX12_divide_6 : decode cX12_divide 6 = .ok (.ifCond .ge 22, 3) := by decide +kernel
theorem dX12_divide_9 : decode cX12_divide 9 = .ok (.aload_n 0, 1) := by decide +kernel
theorem dX12_divide_10 : decode cX12_divide 10 = .ok (.aload_n 0, 1) := by decide +kernel
theorem dX12_divide_11 : decode cX12_divide 11 = .ok (.lconst 0, 1) := by decide +kernel
theorem dX12_divide_12 : decode cX12_divide 12 = .ok (.invokevirtual 41, 3) := by decide +kernel
theorem dX12_divide_15 : decode cX12_divide 15 = .ok (.putfield 45, 3) := by decide +kernel
theorem dX12_divide_18 : decode cX12_divide 18 = .ok (.aload_n 0, 1) := by decide +kernel
theorem dX12_divide_19 : decode cX12_divide 19 = .ok (.aload_n 0, 1) := by decide +kernel
theorem dX12_divide_20 : decode cX12_divide 20 = .ok (.iload_n 1, 1) := by decide +kernel
theorem dX12_divide_21 : decode cX12_divide 21 = .ok (.invokevirtual 24, 3) := by decide +kernel
theorem dX12_divide_24 : decode cX12_divide 24 = .ok (.putfield 48, 3) := by decide +kernel
theorem dX12_divide_27 : decode cX12_divide 27 = .ok (.return_, 1) := by decide +kernel
theorem dX12_divide_28 : decode cX12_divide 28 = .ok (.aload_n 0, 1) := by decide +kernel
theorem dX12_divide_29 : decode cX12_divide 29 = .ok (.iload_n 2, 1) := by decide +kernel
theorem dX12_divide_30 : decode cX12_divide 30 = .ok (.invokevirtual 20, 3) := by decide +kernel
theorem dX12_divide_33 : decode cX12_divide 33 = .ok (.istore_n 3, 1) := by decide +kernel
theorem dX12_divide_34 : decode cX12_divide 34 = .ok (.iload_n 3, 1) := by decide +kernel
theorem dX12_divide_35 : decode cX12_divide 35 = .ok (.iconst 1, 1) := by decide +kernel
theorem dX12_divide_36 : decode cX12_divide 36 = .ok (.if_icmp .ne 10, 3) := by decide +kernel
theorem dX12_divide_39 : decode cX12_divide 39 = .ok (.aload_n 0, 1) := by decide +kernel
theorem dX12_divide_40 : decode cX12_divide 40 = .ok (.iload_n 1, 1) := by decide +kernel
theorem dX12_divide_41 : decode cX12_divide 41 = .ok (.iload_n 2, 1) := by decide +kernel
theorem dX12_divide_42 : decode cX12_divide 42 = .ok (.invokevirtual 51, 3) := by decide +kernel
theorem dX12_divide_45 : decode cX12_divide 45 = .ok (.return_, 1) := by decide +kernel
theorem dX12_divide_46 : decode cX12_divide 46 = .ok (.iconst 0, 1) := by decide +kernel
theorem dX12_divide_47 : decode cX12_divide 47 = .ok (.istore 4, 2) := by decide +kernel
theorem dX12_divide_49 : decode cX12_divide 49 = .ok (.aload_n 0, 1) := by decide +kernel
theorem dX12_divide_50 : decode cX12_divide 50 = .ok (.getfield 7, 3) := by decide +kernel
theorem dX12_divide_53 : decode cX12_divide 53 = .ok (.iload_n 2, 1) := by decide +kernel
theorem dX12_divide_54 : decode cX12_divide 54 = .ok (.iload_n 3, 1) := by decide +kernel
theorem dX12_divide_55 : decode cX12_divide 55 = .ok (.iadd, 1) := by decide +kernel
theorem dX12_divide_56 : decode cX12_divide 56 = .ok (.iaload, 1) := by decide +kernel
theorem dX12_divide_57 : decode cX12_divide 57 = .ok (.iload 4, 2) := by decide +kernel
theorem dX12_divide_59 : decode cX12_divide 59 = .ok (.ishl, 1) := by decide +kernel
theorem dX12_divide_60 : decode cX12_divide 60 = .ok (.ldc 55, 2) := by decide +kernel
theorem dX12_divide_62 : decode cX12_divide 62 = .ok (.if_icmp .ge 9, 3) := by decide +kernel
theorem dX12_divide_65 : decode cX12_divide 65 = .ok (.iinc 4 1, 3) := by decide +kernel
theorem dX12_divide_68 : decode cX12_divide 68 = .ok (.goto (-19), 3) := by decide +kernel
theorem dX12_divide_71 : decode cX12_divide 71 = .ok (.aload_n 0, 1) := by decide +kernel
theorem dX12_divide_72 : decode cX12_divide 72 = .ok (.iload_n 1, 1) := by decide +kernel
theorem dX12_divide_73 : decode cX12_divide 73 = .ok (.iload 4, 2) := by decide +kernel
theorem dX12_divide_75 : decode cX12_divide 75 = .ok (.invokevirtual 56, 3) := by decide +kernel
theorem dX12_divide_78 : decode cX12_divide 78 = .ok (.istore 5, 2) := by decide +kernel
theorem dX12_divide_80 : decode cX12_divide 80 = .ok (.aload_n 0, 1) := by decide +kernel
theorem dX12_divide_81 : decode cX12_divide 81 = .ok (.iload_n 2, 1) := by decide +kernel
theorem dX12_divide_82 : decode cX12_divide 82 = .ok (.iload 4, 2) := by decide +kernel
theorem dX12_divide_84 : decode cX12_divide 84 = .ok (.invokevirtual 56, 3) := by decide +kernel
theorem dX12_divide_87 : decode cX12_divide 87 = .ok (.istore 6, 2) := by decide +kernel
theorem dX12_divide_89 : decode cX12_divide 89 = .ok (.aload_n 0, 1) := by decide +kernel
theorem dX12_divide_90 : decode cX12_divide 90 = .ok (.iload 5, 2) := by decide +kernel
theorem dX12_divide_92 : decode cX12_divide 92 = .ok (.invokevirtual 20, 3) := by decide +kernel
theorem dX12_divide_95 : decode cX12_divide 95 = .ok (.iload_n 3, 1) := by decide +kernel
theorem dX12_divide_96 : decode cX12_divide 96 = .ok (.isub, 1) := by decide +kernel
theorem dX12_divide_97 : decode cX12_divide 97 = .ok (.istore 7, 2) := by decide +kernel
theorem dX12_divide_99 : decode cX12_divide 99 = .ok (.aload_n 0, 1) := by decide +kernel
theorem dX12_divide_100 : decode cX12_divide 100 = .ok (.getfield 11, 3) := by decide +kernel
theorem dX12_divide_103 : decode cX12_divide 103 = .ok (.istore 8, 2) := by decide +kernel
theorem dX12_divide_105 : decode cX12_divide 105 = .ok (.iconst 0, 1) := by decide +kernel
theorem dX12_divide_106 : decode cX12_divide 106 = .ok (.istore 9, 2) := by decide +kernel
theorem dX12_divide_108 : decode cX12_divide 108 = .ok (.iload 9, 2) := by decide +kernel
theorem dX12_divide_110 : decode cX12_divide 110 = .ok (.iload_n 3, 1) := by decide +kernel
theorem dX12_divide_111 : decode cX12_divide 111 = .ok (.iload 7, 2) := by decide +kernel
theorem dX12_divide_113 : decode cX12_divide 113 = .ok (.iadd, 1) := by decide +kernel
theorem dX12_divide_114 : decode cX12_divide 114 = .ok (.if_icmp .ge 31, 3) := by decide +kernel
theorem dX12_divide_117 : decode cX12_divide 117 = .ok (.aload_n 0, 1) := by decide +kernel
theorem dX12_divide_118 : decode cX12_divide 118 = .ok (.getfield 7, 3) := by decide +kernel
theorem dX12_divide_121 : decode cX12_divide 121 = .ok (.iload 8, 2) := by decide +kernel
theorem dX12_divide_123 : decode cX12_divide 123 = .ok (.iload 9, 2) := by decide +kernel
theorem dX12_divide_125 : decode cX12_divide 125 = .ok (.iadd, 1) := by decide +kernel
theorem dX12_divide_126 : decode cX12_divide 126 = .ok (.aload_n 0, 1) := by decide +kernel
theorem dX12_divide_127 : decode cX12_divide 127 = .ok (.getfield 7, 3) := by decide +kernel
theorem dX12_divide_130 : decode cX12_divide 130 = .ok (.iload 5, 2) := by decide +kernel
theorem dX12_divide_132 : decode cX12_divide 132 = .ok (.iconst 1, 1) := by decide +kernel
theorem dX12_divide_133 : decode cX12_divide 133 = .ok (.iadd, 1) := by decide +kernel
theorem dX12_divide_134 : decode cX12_divide 134 = .ok (.iload 9, 2) := by decide +kernel
theorem dX12_divide_136 : decode cX12_divide 136 = .ok (.iadd, 1) := by decide +kernel
theorem dX12_divide_137 : decode cX12_divide 137 = .ok (.iaload, 1) := by decide +kernel
theorem dX12_divide_138 : decode cX12_divide 138 = .ok (.iastore, 1) := by decide +kernel
theorem dX12_divide_139 : decode cX12_divide 139 = .ok (.iinc 9 1, 3) := by decide +kernel
theorem dX12_divide_142 : decode cX12_divide 142 = .ok (.goto (-34), 3) := by decide +kernel
theorem dX12_divide_145 : decode cX12_divide 145 = .ok (.aload_n 0, 1) := by decide +kernel
theorem dX12_divide_146 : decode cX12_divide 146 = .ok (.getfield 7, 3) := by decide +kernel
theorem dX12_divide_149 : decode cX12_divide 149 = .ok (.iload 8, 2) := by decide +kernel
theorem dX12_divide_151 : decode cX12_divide 151 = .ok (.iload_n 3, 1) := by decide +kernel
theorem dX12_divide_152 : decode cX12_divide 152 = .ok (.iadd, 1) := by decide +kernel
theorem dX12_divide_153 : decode cX12_divide 153 = .ok (.iload 7, 2) := by decide +kernel
theorem dX12_divide_155 : decode cX12_divide 155 = .ok (.iadd, 1) := by decide +kernel
theorem dX12_divide_156 : decode cX12_divide 156 = .ok (.iconst 0, 1) := by decide +kernel
theorem dX12_divide_157 : decode cX12_divide 157 = .ok (.iastore, 1) := by decide +kernel
theorem dX12_divide_158 : decode cX12_divide 158 = .ok (.iload 8, 2) := by decide +kernel
theorem dX12_divide_160 : decode cX12_divide 160 = .ok (.iload_n 3, 1) := by decide +kernel
theorem dX12_divide_161 : decode cX12_divide 161 = .ok (.iadd, 1) := by decide +kernel
theorem dX12_divide_162 : decode cX12_divide 162 = .ok (.iload 7, 2) := by decide +kernel
theorem dX12_divide_164 : decode cX12_divide 164 = .ok (.iadd, 1) := by decide +kernel
theorem dX12_divide_165 : decode cX12_divide 165 = .ok (.iconst 1, 1) := by decide +kernel
theorem dX12_divide_166 : decode cX12_divide 166 = .ok (.iadd, 1) := by decide +kernel
theorem dX12_divide_167 : decode cX12_divide 167 = .ok (.istore 9, 2) := by decide +kernel
theorem dX12_divide_169 : decode cX12_divide 169 = .ok (.aload_n 0, 1) := by decide +kernel
theorem dX12_divide_170 : decode cX12_divide 170 = .ok (.getfield 7, 3) := by decide +kernel
theorem dX12_divide_173 : decode cX12_divide 173 = .ok (.iload 6, 2) := by decide +kernel
theorem dX12_divide_175 : decode cX12_divide 175 = .ok (.iload_n 3, 1) := by decide +kernel
theorem dX12_divide_176 : decode cX12_divide 176 = .ok (.iadd, 1) := by decide +kernel
theorem dX12_divide_177 : decode cX12_divide 177 = .ok (.iaload, 1) := by decide +kernel
theorem dX12_divide_178 : decode cX12_divide 178 = .ok (.i2l, 1) := by decide +kernel
theorem dX12_divide_179 : decode cX12_divide 179 = .ok (.lstore 10, 2) := by decide +kernel
theorem dX12_divide_181 : decode cX12_divide 181 = .ok (.aload_n 0, 1) := by decide +kernel
theorem dX12_divide_182 : decode cX12_divide 182 = .ok (.getfield 7, 3) := by decide +kernel
theorem dX12_divide_185 : decode cX12_divide 185 = .ok (.iload 6, 2) := by decide +kernel
theorem dX12_divide_187 : decode cX12_divide 187 = .ok (.iload_n 3, 1) := by decide +kernel
theorem dX12_divide_188 : decode cX12_divide 188 = .ok (.iadd, 1) := by decide +kernel
theorem dX12_divide_189 : decode cX12_divide 189 = .ok (.iconst 1, 1) := by decide +kernel
theorem dX12_divide_190 : decode cX12_divide 190 = .ok (.isub, 1) := by decide +kernel
theorem dX12_divide_191 : decode cX12_divide 191 = .ok (.iaload, 1) := by decide +kernel
theorem dX12_divide_192 : decode cX12_divide 192 = .ok (.i2l, 1) := by decide +kernel
theorem dX12_divide_193 : decode cX12_divide 193 = .ok (.lstore 12, 2) := by decide +kernel
theorem dX12_divide_195 : decode cX12_divide 195 = .ok (.iload 7, 2) := by decide +kernel
theorem dX12_divide_197 : decode cX12_divide 197 = .ok (.istore 14, 2) := by decide +kernel
theorem dX12_divide_199 : decode cX12_divide 199 = .ok (.iload 14, 2) := by decide +kernel
theorem dX12_divide_201 : decode cX12_divide 201 = .ok (.ifCond .lt 402, 3) := by decide +kernel
theorem dX12_divide_204 : decode cX12_divide 204 = .ok (.aload_n 0, 1) := by decide +kernel
theorem dX12_divide_205 : decode cX12_divide 205 = .ok (.getfield 7, 3) := by decide +kernel
theorem dX12_divide_208 : decode cX12_divide 208 = .ok (.iload 8, 2) := by decide +kernel
theorem dX12_divide_210 : decode cX12_divide 210 = .ok (.iload 14, 2) := by decide +kernel
theorem dX12_divide_212 : decode cX12_divide 212 = .ok (.iadd, 1) := by decide +kernel
theorem dX12_divide_213 : decode cX12_divide 213 = .ok (.iload_n 3, 1) := by decide +kernel
theorem dX12_divide_214 : decode cX12_divide 214 = .ok (.iadd, 1) := by decide +kernel
theorem dX12_divide_215 : decode cX12_divide 215 = .ok (.iaload, 1) := by decide +kernel
theorem dX12_divide_216 : decode cX12_divide 216 = .ok (.i2l, 1) := by decide +kernel
theorem dX12_divide_217 : decode cX12_divide 217 = .ok (.bipush 31, 2) := by decide +kernel
theorem dX12_divide_219 : decode cX12_divide 219 = .ok (.lshl, 1) := by decide +kernel
theorem dX12_divide_220 : decode cX12_divide 220 = .ok (.aload_n 0, 1) := by decide +kernel
theorem dX12_divide_221 : decode cX12_divide 221 = .ok (.getfield 7, 3) := by decide +kernel
theorem dX12_divide_224 : decode cX12_divide 224 = .ok (.iload 8, 2) := by decide +kernel
theorem dX12_divide_226 : decode cX12_divide 226 = .ok (.iload 14, 2) := by decide +kernel
theorem dX12_divide_228 : decode cX12_divide 228 = .ok (.iadd, 1) := by decide +kernel
theorem dX12_divide_229 : decode cX12_divide 229 = .ok (.iload_n 3, 1) := by decide +kernel
theorem dX12_divide_230 : decode cX12_divide 230 = .ok (.iadd, 1) := by decide +kernel
theorem dX12_divide_231 : decode cX12_divide 231 = .ok (.iconst 1, 1) := by decide +kernel
theorem dX12_divide_232 : decode cX12_divide 232 = .ok (.isub, 1) := by decide +kernel
theorem dX12_divide_233 : decode cX12_divide 233 = .ok (.iaload, 1) := by decide +kernel
theorem dX12_divide_234 : decode cX12_divide 234 = .ok (.i2l, 1) := by decide +kernel
theorem dX12_divide_235 : decode cX12_divide 235 = .ok (.lor, 1) := by decide +kernel
theorem dX12_divide_236 : decode cX12_divide 236 = .ok (.lstore 15, 2) := by decide +kernel
theorem dX12_divide_238 : decode cX12_divide 238 = .ok (.lload 15, 2) := by decide +kernel
theorem dX12_divide_240 : decode cX12_divide 240 = .ok (.lload 10, 2) := by decide +kernel
theorem dX12_divide_242 : decode cX12_divide 242 = .ok (.ldiv, 1) := by decide +kernel
theorem dX12_divide_243 : decode cX12_divide 243 = .ok (.lstore 17, 2) := by decide +kernel
theorem dX12_divide_245 : decode cX12_divide 245 = .ok (.lload 15, 2) := by decide +kernel
theorem dX12_divide_247 : decode cX12_divide 247 = .ok (.lload 10, 2) := by decide +kernel
theorem dX12_divide_249 : decode cX12_divide 249 = .ok (.lrem, 1) := by decide +kernel
theorem dX12_divide_250 : decode cX12_divide 250 = .ok (.lstore 19, 2) := by decide +kernel
theorem dX12_divide_252 : decode cX12_divide 252 = .ok (.lload 17, 2) := by decide +kernel
theorem dX12_divide_254 : decode cX12_divide 254 = .ok (.ldc2_w 14, 3) := by decide +kernel
theorem dX12_divide_257 : decode cX12_divide 257 = .ok (.lcmp, 1) := by decide +kernel
theorem dX12_divide_258 : decode cX12_divide 258 = .ok (.ifCond .gt 42, 3) := by decide +kernel
theorem dX12_divide_261 : decode cX12_divide 261 = .ok (.lload 19, 2) := by decide +kernel
theorem dX12_divide_263 : decode cX12_divide 263 = .ok (.ldc2_w 14, 3) := by decide +kernel
theorem dX12_divide_266 : decode cX12_divide 266 = .ok (.lcmp, 1) := by decide +kernel
theorem dX12_divide_267 : decode cX12_divide 267 = .ok (.ifCond .gt 49, 3) := by decide +kernel
theorem dX12_divide_270 : decode cX12_divide 270 = .ok (.lload 17, 2) := by decide +kernel
theorem dX12_divide_272 : decode cX12_divide 272 = .ok (.lload 12, 2) := by decide +kernel
theorem dX12_divide_274 : decode cX12_divide 274 = .ok (.lmul, 1) := by decide +kernel
theorem dX12_divide_275 : decode cX12_divide 275 = .ok (.lload 19, 2) := by decide +kernel
theorem dX12_divide_277 : decode cX12_divide 277 = .ok (.bipush 31, 2) := by decide +kernel
theorem dX12_divide_279 : decode cX12_divide 279 = .ok (.lshl, 1) := by decide +kernel
theorem dX12_divide_280 : decode cX12_divide 280 = .ok (.aload_n 0, 1) := by decide +kernel
theorem dX12_divide_281 : decode cX12_divide 281 = .ok (.getfield 7, 3) := by decide +kernel
theorem dX12_divide_284 : decode cX12_divide 284 = .ok (.iload 8, 2) := by decide +kernel
theorem dX12_divide_286 : decode cX12_divide 286 = .ok (.iload 14, 2) := by decide +kernel
theorem dX12_divide_288 : decode cX12_divide 288 = .ok (.iadd, 1) := by decide +kernel
theorem dX12_divide_289 : decode cX12_divide 289 = .ok (.iload_n 3, 1) := by decide +kernel
theorem dX12_divide_290 : decode cX12_divide 290 = .ok (.iadd, 1) := by decide +kernel
theorem dX12_divide_291 : decode cX12_divide 291 = .ok (.iconst 2, 1) := by decide +kernel
theorem dX12_divide_292 : decode cX12_divide 292 = .ok (.isub, 1) := by decide +kernel
theorem dX12_divide_293 : decode cX12_divide 293 = .ok (.iaload, 1) := by decide +kernel
theorem dX12_divide_294 : decode cX12_divide 294 = .ok (.i2l, 1) := by decide +kernel
theorem dX12_divide_295 : decode cX12_divide 295 = .ok (.lor, 1) := by decide +kernel
theorem dX12_divide_296 : decode cX12_divide 296 = .ok (.lcmp, 1) := by decide +kernel
theorem dX12_divide_297 : decode cX12_divide 297 = .ok (.ifCond .le 19, 3) := by decide +kernel
theorem dX12_divide_300 : decode cX12_divide 300 = .ok (.lload 17, 2) := by decide +kernel
theorem dX12_divide_302 : decode cX12_divide 302 = .ok (.lconst 1, 1) := by decide +kernel
theorem dX12_divide_303 : decode cX12_divide 303 = .ok (.lsub, 1) := by decide +kernel
theorem dX12_divide_304 : decode cX12_divide 304 = .ok (.lstore 17, 2) := by decide +kernel
theorem dX12_divide_306 : decode cX12_divide 306 = .ok (.lload 19, 2) := by decide +kernel
theorem dX12_divide_308 : decode cX12_divide 308 = .ok (.lload 10, 2) := by decide +kernel
theorem dX12_divide_310 : decode cX12_divide 310 = .ok (.ladd, 1) := by decide +kernel
theorem dX12_divide_311 : decode cX12_divide 311 = .ok (.lstore 19, 2) := by decide +kernel
theorem dX12_divide_313 : decode cX12_divide 313 = .ok (.goto (-61), 3) := by decide +kernel
theorem dX12_divide_316 : decode cX12_divide 316 = .ok (.lconst 0, 1) := by decide +kernel
theorem dX12_divide_317 : decode cX12_divide 317 = .ok (.lstore 21, 2) := by decide +kernel
theorem dX12_divide_319 : decode cX12_divide 319 = .ok (.lconst 0, 1) := by decide +kernel
theorem dX12_divide_320 : decode cX12_divide 320 = .ok (.lstore 23, 2) := by decide +kernel
theorem dX12_divide_322 : decode cX12_divide 322 = .ok (.iconst 0, 1) := by decide +kernel
theorem dX12_divide_323 : decode cX12_divide 323 = .ok (.istore 25, 2) := by decide +kernel
theorem dX12_divide_325 : decode cX12_divide 325 = .ok (.iload 25, 2) := by decide +kernel
theorem dX12_divide_327 : decode cX12_divide 327 = .ok (.iload_n 3, 1) := by decide +kernel
theorem dX12_divide_328 : decode cX12_divide 328 = .ok (.if_icmp .ge 90, 3) := by decide +kernel
theorem dX12_divide_331 : decode cX12_divide 331 = .ok (.lload 23, 2) := by decide +kernel
theorem dX12_divide_333 : decode cX12_divide 333 = .ok (.lload 17, 2) := by decide +kernel
theorem dX12_divide_335 : decode cX12_divide 335 = .ok (.aload_n 0, 1) := by decide +kernel
theorem dX12_divide_336 : decode cX12_divide 336 = .ok (.getfield 7, 3) := by decide +kernel
theorem dX12_divide_339 : decode cX12_divide 339 = .ok (.iload 6, 2) := by decide +kernel
theorem dX12_divide_341 : decode cX12_divide 341 = .ok (.iconst 1, 1) := by decide +kernel
theorem dX12_divide_342 : decode cX12_divide 342 = .ok (.iadd, 1) := by decide +kernel
theorem dX12_divide_343 : decode cX12_divide 343 = .ok (.iload 25, 2) := by decide +kernel
theorem dX12_divide_345 : decode cX12_divide 345 = .ok (.iadd, 1) := by decide +kernel
theorem dX12_divide_346 : decode cX12_divide 346 = .ok (.iaload, 1) := by decide +kernel
theorem dX12_divide_347 : decode cX12_divide 347 = .ok (.i2l, 1) := by decide +kernel
theorem dX12_divide_348 : decode cX12_divide 348 = .ok (.lmul, 1) := by decide +kernel
theorem dX12_divide_349 : decode cX12_divide 349 = .ok (.ladd, 1) := by decide +kernel
theorem dX12_divide_350 : decode cX12_divide 350 = .ok (.lstore 23, 2) := by decide +kernel
theorem dX12_divide_352 : decode cX12_divide 352 = .ok (.lload 21, 2) := by decide +kernel
theorem dX12_divide_354 : decode cX12_divide 354 = .ok (.aload_n 0, 1) := by decide +kernel
theorem dX12_divide_355 : decode cX12_divide 355 = .ok (.getfield 7, 3) := by decide +kernel
theorem dX12_divide_358 : decode cX12_divide 358 = .ok (.iload 8, 2) := by decide +kernel
theorem dX12_divide_360 : decode cX12_divide 360 = .ok (.iload 25, 2) := by decide +kernel
theorem dX12_divide_362 : decode cX12_divide 362 = .ok (.iadd, 1) := by decide +kernel
theorem dX12_divide_363 : decode cX12_divide 363 = .ok (.iload 14, 2) := by decide +kernel
theorem dX12_divide_365 : decode cX12_divide 365 = .ok (.iadd, 1) := by decide +kernel
theorem dX12_divide_366 : decode cX12_divide 366 = .ok (.iaload, 1) := by decide +kernel
theorem dX12_divide_367 : decode cX12_divide 367 = .ok (.i2l, 1) := by decide +kernel
theorem dX12_divide_368 : decode cX12_divide 368 = .ok (.ladd, 1) := by decide +kernel
theorem dX12_divide_369 : decode cX12_divide 369 = .ok (.lload 23, 2) := by decide +kernel
theorem dX12_divide_371 : decode cX12_divide 371 = .ok (.ldc2_w 14, 3) := by decide +kernel
theorem dX12_divide_374 : decode cX12_divide 374 = .ok (.land, 1) := by decide +kernel
theorem dX12_divide_375 : decode cX12_divide 375 = .ok (.lsub, 1) := by decide +kernel
theorem dX12_divide_376 : decode cX12_divide 376 = .ok (.lstore 21, 2) := by decide +kernel
theorem dX12_divide_378 : decode cX12_divide 378 = .ok (.lload 23, 2) := by decide +kernel
theorem dX12_divide_380 : decode cX12_divide 380 = .ok (.bipush 31, 2) := by decide +kernel
theorem dX12_divide_382 : decode cX12_divide 382 = .ok (.lushr, 1) := by decide +kernel
theorem dX12_divide_383 : decode cX12_divide 383 = .ok (.lstore 23, 2) := by decide +kernel
theorem dX12_divide_385 : decode cX12_divide 385 = .ok (.aload_n 0, 1) := by decide +kernel
theorem dX12_divide_386 : decode cX12_divide 386 = .ok (.getfield 7, 3) := by decide +kernel
theorem dX12_divide_389 : decode cX12_divide 389 = .ok (.iload 8, 2) := by decide +kernel
theorem dX12_divide_391 : decode cX12_divide 391 = .ok (.iload 25, 2) := by decide +kernel
theorem dX12_divide_393 : decode cX12_divide 393 = .ok (.iadd, 1) := by decide +kernel
theorem dX12_divide_394 : decode cX12_divide 394 = .ok (.iload 14, 2) := by decide +kernel
theorem dX12_divide_396 : decode cX12_divide 396 = .ok (.iadd, 1) := by decide +kernel
theorem dX12_divide_397 : decode cX12_divide 397 = .ok (.lload 21, 2) := by decide +kernel
theorem dX12_divide_399 : decode cX12_divide 399 = .ok (.ldc2_w 14, 3) := by decide +kernel
theorem dX12_divide_402 : decode cX12_divide 402 = .ok (.land, 1) := by decide +kernel
theorem dX12_divide_403 : decode cX12_divide 403 = .ok (.l2i, 1) := by decide +kernel
theorem dX12_divide_404 : decode cX12_divide 404 = .ok (.iastore, 1) := by decide +kernel
theorem dX12_divide_405 : decode cX12_divide 405 = .ok (.lload 21, 2) := by decide +kernel
theorem dX12_divide_407 : decode cX12_divide 407 = .ok (.bipush 31, 2) := by decide +kernel
theorem dX12_divide_409 : decode cX12_divide 409 = .ok (.lshr, 1) := by decide +kernel
theorem dX12_divide_410 : decode cX12_divide 410 = .ok (.lstore 21, 2) := by decide +kernel
theorem dX12_divide_412 : decode cX12_divide 412 = .ok (.iinc 25 1, 3) := by decide +kernel
theorem dX12_divide_415 : decode cX12_divide 415 = .ok (.goto (-90), 3) := by decide +kernel
theorem dX12_divide_418 : decode cX12_divide 418 = .ok (.lload 21, 2) := by decide +kernel
theorem dX12_divide_420 : decode cX12_divide 420 = .ok (.aload_n 0, 1) := by decide +kernel
theorem dX12_divide_421 : decode cX12_divide 421 = .ok (.getfield 7, 3) := by decide +kernel
theorem dX12_divide_424 : decode cX12_divide 424 = .ok (.iload 8, 2) := by decide +kernel
theorem dX12_divide_426 : decode cX12_divide 426 = .ok (.iload 14, 2) := by decide +kernel
theorem dX12_divide_428 : decode cX12_divide 428 = .ok (.iadd, 1) := by decide +kernel
theorem dX12_divide_429 : decode cX12_divide 429 = .ok (.iload_n 3, 1) := by decide +kernel
theorem dX12_divide_430 : decode cX12_divide 430 = .ok (.iadd, 1) := by decide +kernel
theorem dX12_divide_431 : decode cX12_divide 431 = .ok (.iaload, 1) := by decide +kernel
theorem dX12_divide_432 : decode cX12_divide 432 = .ok (.i2l, 1) := by decide +kernel
theorem dX12_divide_433 : decode cX12_divide 433 = .ok (.ladd, 1) := by decide +kernel
theorem dX12_divide_434 : decode cX12_divide 434 = .ok (.lload 23, 2) := by decide +kernel
theorem dX12_divide_436 : decode cX12_divide 436 = .ok (.lsub, 1) := by decide +kernel
theorem dX12_divide_437 : decode cX12_divide 437 = .ok (.lstore 21, 2) := by decide +kernel
theorem dX12_divide_439 : decode cX12_divide 439 = .ok (.aload_n 0, 1) := by decide +kernel
theorem dX12_divide_440 : decode cX12_divide 440 = .ok (.getfield 7, 3) := by decide +kernel
theorem dX12_divide_443 : decode cX12_divide 443 = .ok (.iload 8, 2) := by decide +kernel
theorem dX12_divide_445 : decode cX12_divide 445 = .ok (.iload 14, 2) := by decide +kernel
theorem dX12_divide_447 : decode cX12_divide 447 = .ok (.iadd, 1) := by decide +kernel
theorem dX12_divide_448 : decode cX12_divide 448 = .ok (.iload_n 3, 1) := by decide +kernel
theorem dX12_divide_449 : decode cX12_divide 449 = .ok (.iadd, 1) := by decide +kernel
theorem dX12_divide_450 : decode cX12_divide 450 = .ok (.lload 21, 2) := by decide +kernel
theorem dX12_divide_452 : decode cX12_divide 452 = .ok (.ldc2_w 14, 3) := by decide +kernel
theorem dX12_divide_455 : decode cX12_divide 455 = .ok (.land, 1) := by decide +kernel
theorem dX12_divide_456 : decode cX12_divide 456 = .ok (.l2i, 1) := by decide +kernel
theorem dX12_divide_457 : decode cX12_divide 457 = .ok (.iastore, 1) := by decide +kernel
theorem dX12_divide_458 : decode cX12_divide 458 = .ok (.lload 21, 2) := by decide +kernel
theorem dX12_divide_460 : decode cX12_divide 460 = .ok (.lconst 0, 1) := by decide +kernel
theorem dX12_divide_461 : decode cX12_divide 461 = .ok (.lcmp, 1) := by decide +kernel
theorem dX12_divide_462 : decode cX12_divide 462 = .ok (.ifCond .ge 120, 3) := by decide +kernel
theorem dX12_divide_465 : decode cX12_divide 465 = .ok (.lload 17, 2) := by decide +kernel
theorem dX12_divide_467 : decode cX12_divide 467 = .ok (.lconst 1, 1) := by decide +kernel
theorem dX12_divide_468 : decode cX12_divide 468 = .ok (.lsub, 1) := by decide +kernel
theorem dX12_divide_469 : decode cX12_divide 469 = .ok (.lstore 17, 2) := by decide +kernel
theorem dX12_divide_471 : decode cX12_divide 471 = .ok (.lconst 0, 1) := by decide +kernel
theorem dX12_divide_472 : decode cX12_divide 472 = .ok (.lstore 23, 2) := by decide +kernel
theorem dX12_divide_474 : decode cX12_divide 474 = .ok (.iconst 0, 1) := by decide +kernel
theorem dX12_divide_475 : decode cX12_divide 475 = .ok (.istore 25, 2) := by decide +kernel
theorem dX12_divide_477 : decode cX12_divide 477 = .ok (.iload 25, 2) := by decide +kernel
theorem dX12_divide_479 : decode cX12_divide 479 = .ok (.iload_n 3, 1) := by decide +kernel
theorem dX12_divide_480 : decode cX12_divide 480 = .ok (.if_icmp .ge 69, 3) := by decide +kernel
theorem dX12_divide_483 : decode cX12_divide 483 = .ok (.lload 23, 2) := by decide +kernel
theorem dX12_divide_485 : decode cX12_divide 485 = .ok (.aload_n 0, 1) := by decide +kernel
theorem dX12_divide_486 : decode cX12_divide 486 = .ok (.getfield 7, 3) := by decide +kernel
theorem dX12_divide_489 : decode cX12_divide 489 = .ok (.iload 8, 2) := by decide +kernel
theorem dX12_divide_491 : decode cX12_divide 491 = .ok (.iload 25, 2) := by decide +kernel
theorem dX12_divide_493 : decode cX12_divide 493 = .ok (.iadd, 1) := by decide +kernel
theorem dX12_divide_494 : decode cX12_divide 494 = .ok (.iload 14, 2) := by decide +kernel
theorem dX12_divide_496 : decode cX12_divide 496 = .ok (.iadd, 1) := by decide +kernel
theorem dX12_divide_497 : decode cX12_divide 497 = .ok (.iaload, 1) := by decide +kernel
theorem dX12_divide_498 : decode cX12_divide 498 = .ok (.i2l, 1) := by decide +kernel
theorem dX12_divide_499 : decode cX12_divide 499 = .ok (.ladd, 1) := by decide +kernel
theorem dX12_divide_500 : decode cX12_divide 500 = .ok (.aload_n 0, 1) := by decide +kernel
theorem dX12_divide_501 : decode cX12_divide 501 = .ok (.getfield 7, 3) := by decide +kernel
theorem dX12_divide_504 : decode cX12_divide 504 = .ok (.iload 6, 2) := by decide +kernel
theorem dX12_divide_506 : decode cX12_divide 506 = .ok (.iconst 1, 1) := by decide +kernel
theorem dX12_divide_507 : decode cX12_divide 507 = .ok (.iadd, 1) := by decide +kernel
theorem dX12_divide_508 : decode cX12_divide 508 = .ok (.iload 25, 2) := by decide +kernel
theorem dX12_divide_510 : decode cX12_divide 510 = .ok (.iadd, 1) := by decide +kernel
theorem dX12_divide_511 : decode cX12_divide 511 = .ok (.iaload, 1) := by decide +kernel
theorem dX12_divide_512 : decode cX12_divide 512 = .ok (.i2l, 1) := by decide +kernel
theorem dX12_divide_513 : decode cX12_divide 513 = .ok (.ladd, 1) := by decide +kernel
theorem dX12_divide_514 : decode cX12_divide 514 = .ok (.lstore 23, 2) := by decide +kernel
theorem dX12_divide_516 : decode cX12_divide 516 = .ok (.aload_n 0, 1) := by decide +kernel
theorem dX12_divide_517 : decode cX12_divide 517 = .ok (.getfield 7, 3) := by decide +kernel
theorem dX12_divide_520 : decode cX12_divide 520 = .ok (.iload 8, 2) := by decide +kernel
theorem dX12_divide_522 : decode cX12_divide 522 = .ok (.iload 25, 2) := by decide +kernel
theorem dX12_divide_524 : decode cX12_divide 524 = .ok (.iadd, 1) := by decide +kernel
theorem dX12_divide_525 : decode cX12_divide 525 = .ok (.iload 14, 2) := by decide +kernel
theorem dX12_divide_527 : decode cX12_divide 527 = .ok (.iadd, 1) := by decide +kernel
theorem dX12_divide_528 : decode cX12_divide 528 = .ok (.lload 23, 2) := by decide +kernel
theorem dX12_divide_530 : decode cX12_divide 530 = .ok (.ldc2_w 14, 3) := by decide +kernel
theorem dX12_divide_533 : decode cX12_divide 533 = .ok (.land, 1) := by decide +kernel
theorem dX12_divide_534 : decode cX12_divide 534 = .ok (.l2i, 1) := by decide +kernel
theorem dX12_divide_535 : decode cX12_divide 535 = .ok (.iastore, 1) := by decide +kernel
theorem dX12_divide_536 : decode cX12_divide 536 = .ok (.lload 23, 2) := by decide +kernel
theorem dX12_divide_538 : decode cX12_divide 538 = .ok (.bipush 31, 2) := by decide +kernel
theorem dX12_divide_540 : decode cX12_divide 540 = .ok (.lshr, 1) := by decide +kernel
theorem dX12_divide_541 : decode cX12_divide 541 = .ok (.lstore 23, 2) := by decide +kernel
theorem dX12_divide_543 : decode cX12_divide 543 = .ok (.iinc 25 1, 3) := by decide +kernel
theorem dX12_divide_546 : decode cX12_divide 546 = .ok (.goto (-69), 3) := by decide +kernel
theorem dX12_divide_549 : decode cX12_divide 549 = .ok (.aload_n 0, 1) := by decide +kernel
theorem dX12_divide_550 : decode cX12_divide 550 = .ok (.getfield 7, 3) := by decide +kernel
theorem dX12_divide_553 : decode cX12_divide 553 = .ok (.iload 8, 2) := by decide +kernel
theorem dX12_divide_555 : decode cX12_divide 555 = .ok (.iload 14, 2) := by decide +kernel
theorem dX12_divide_557 : decode cX12_divide 557 = .ok (.iadd, 1) := by decide +kernel
theorem dX12_divide_558 : decode cX12_divide 558 = .ok (.iload_n 3, 1) := by decide +kernel
theorem dX12_divide_559 : decode cX12_divide 559 = .ok (.iadd, 1) := by decide +kernel
theorem dX12_divide_560 : decode cX12_divide 560 = .ok (.aload_n 0, 1) := by decide +kernel
theorem dX12_divide_561 : decode cX12_divide 561 = .ok (.getfield 7, 3) := by decide +kernel
theorem dX12_divide_564 : decode cX12_divide 564 = .ok (.iload 8, 2) := by decide +kernel
theorem dX12_divide_566 : decode cX12_divide 566 = .ok (.iload 14, 2) := by decide +kernel
theorem dX12_divide_568 : decode cX12_divide 568 = .ok (.iadd, 1) := by decide +kernel
theorem dX12_divide_569 : decode cX12_divide 569 = .ok (.iload_n 3, 1) := by decide +kernel
theorem dX12_divide_570 : decode cX12_divide 570 = .ok (.iadd, 1) := by decide +kernel
theorem dX12_divide_571 : decode cX12_divide 571 = .ok (.iaload, 1) := by decide +kernel
theorem dX12_divide_572 : decode cX12_divide 572 = .ok (.i2l, 1) := by decide +kernel
theorem dX12_divide_573 : decode cX12_divide 573 = .ok (.lload 23, 2) := by decide +kernel
theorem dX12_divide_575 : decode cX12_divide 575 = .ok (.ladd, 1) := by decide +kernel
theorem dX12_divide_576 : decode cX12_divide 576 = .ok (.ldc2_w 14, 3) := by decide +kernel
theorem dX12_divide_579 : decode cX12_divide 579 = .ok (.land, 1) := by decide +kernel
theorem dX12_divide_580 : decode cX12_divide 580 = .ok (.l2i, 1) := by decide +kernel
theorem dX12_divide_581 : decode cX12_divide 581 = .ok (.iastore, 1) := by decide +kernel
theorem dX12_divide_582 : decode cX12_divide 582 = .ok (.aload_n 0, 1) := by decide +kernel
theorem dX12_divide_583 : decode cX12_divide 583 = .ok (.getfield 7, 3) := by decide +kernel
theorem dX12_divide_586 : decode cX12_divide 586 = .ok (.iload 9, 2) := by decide +kernel
theorem dX12_divide_588 : decode cX12_divide 588 = .ok (.iconst 1, 1) := by decide +kernel
theorem dX12_divide_589 : decode cX12_divide 589 = .ok (.iadd, 1) := by decide +kernel
theorem dX12_divide_590 : decode cX12_divide 590 = .ok (.iload 14, 2) := by decide +kernel
theorem dX12_divide_592 : decode cX12_divide 592 = .ok (.iadd, 1) := by decide +kernel
theorem dX12_divide_593 : decode cX12_divide 593 = .ok (.lload 17, 2) := by decide +kernel
theorem dX12_divide_595 : decode cX12_divide 595 = .ok (.l2i, 1) := by decide +kernel
theorem dX12_divide_596 : decode cX12_divide 596 = .ok (.iastore, 1) := by decide +kernel
theorem dX12_divide_597 : decode cX12_divide 597 = .ok (.iinc 14 (-1), 3) := by decide +kernel
theorem dX12_divide_600 : decode cX12_divide 600 = .ok (.goto (-401), 3) := by decide +kernel
theorem dX12_divide_603 : decode cX12_divide 603 = .ok (.aload_n 0, 1) := by decide +kernel
theorem dX12_divide_604 : decode cX12_divide 604 = .ok (.aload_n 0, 1) := by decide +kernel
theorem dX12_divide_605 : decode cX12_divide 605 = .ok (.iload 9, 2) := by decide +kernel
theorem dX12_divide_607 : decode cX12_divide 607 = .ok (.iload 7, 2) := by decide +kernel
theorem dX12_divide_609 : decode cX12_divide 609 = .ok (.iconst 1, 1) := by decide +kernel
theorem dX12_divide_610 : decode cX12_divide 610 = .ok (.iadd, 1) := by decide +kernel
theorem dX12_divide_611 : decode cX12_divide 611 = .ok (.aload_n 0, 1) := by decide +kernel
theorem dX12_divide_612 : decode cX12_divide 612 = .ok (.getfield 7, 3) := by decide +kernel
theorem dX12_divide_615 : decode cX12_divide 615 = .ok (.iload_n 1, 1) := by decide +kernel
theorem dX12_divide_616 : decode cX12_divide 616 = .ok (.iaload, 1) := by decide +kernel
theorem dX12_divide_617 : decode cX12_divide 617 = .ok (.ifCond .ge 7, 3) := by decide +kernel
theorem dX12_divide_620 : decode cX12_divide 620 = .ok (.iconst 1, 1) := by decide +kernel
theorem dX12_divide_621 : decode cX12_divide 621 = .ok (.goto 4, 3) := by decide +kernel
theorem dX12_divide_624 : decode cX12_divide 624 = .ok (.iconst 0, 1) := by decide +kernel
theorem dX12_divide_625 : decode cX12_divide 625 = .ok (.aload_n 0, 1) := by decide +kernel
theorem dX12_divide_626 : decode cX12_divide 626 = .ok (.getfield 7, 3) := by decide +kernel
theorem dX12_divide_629 : decode cX12_divide 629 = .ok (.iload_n 2, 1) := by decide +kernel
theorem dX12_divide_630 : decode cX12_divide 630 = .ok (.iaload, 1) := by decide +kernel
theorem dX12_divide_631 : decode cX12_divide 631 = .ok (.ifCond .ge 7, 3) := by decide +kernel
theorem dX12_divide_634 : decode cX12_divide 634 = .ok (.iconst 1, 1) := by decide +kernel
theorem dX12_divide_635 : decode cX12_divide 635 = .ok (.goto 4, 3) := by decide +kernel
theorem dX12_divide_638 : decode cX12_divide 638 = .ok (.iconst 0, 1) := by decide +kernel
theorem dX12_divide_639 : decode cX12_divide 639 = .ok (.if_icmp .eq 7, 3) := by decide +kernel
theorem dX12_divide_642 : decode cX12_divide 642 = .ok (.iconst 1, 1) := by decide +kernel
theorem dX12_divide_643 : decode cX12_divide 643 = .ok (.goto 4, 3) := by decide +kernel
theorem dX12_divide_646 : decode cX12_divide 646 = .ok (.iconst 0, 1) := by decide +kernel
theorem dX12_divide_647 : decode cX12_divide 647 = .ok (.invokevirtual 16, 3) := by decide +kernel
theorem dX12_divide_650 : decode cX12_divide 650 = .ok (.putfield 45, 3) := by decide +kernel
theorem dX12_divide_653 : decode cX12_divide 653 = .ok (.aload_n 0, 1) := by decide +kernel
theorem dX12_divide_654 : decode cX12_divide 654 = .ok (.getfield 11, 3) := by decide +kernel
theorem dX12_divide_657 : decode cX12_divide 657 = .ok (.istore 14, 2) := by decide +kernel
theorem dX12_divide_659 : decode cX12_divide 659 = .ok (.iconst 0, 1) := by decide +kernel
theorem dX12_divide_660 : decode cX12_divide 660 = .ok (.istore 15, 2) := by decide +kernel
theorem dX12_divide_662 : decode cX12_divide 662 = .ok (.iload 15, 2) := by decide +kernel
theorem dX12_divide_664 : decode cX12_divide 664 = .ok (.iload_n 3, 1) := by decide +kernel
theorem dX12_divide_665 : decode cX12_divide 665 = .ok (.if_icmp .ge 31, 3) := by decide +kernel
theorem dX12_divide_668 : decode cX12_divide 668 = .ok (.aload_n 0, 1) := by decide +kernel
theorem dX12_divide_669 : decode cX12_divide 669 = .ok (.getfield 7, 3) := by decide +kernel
theorem dX12_divide_672 : decode cX12_divide 672 = .ok (.iload 14, 2) := by decide +kernel
theorem dX12_divide_674 : decode cX12_divide 674 = .ok (.iconst 1, 1) := by decide +kernel
theorem dX12_divide_675 : decode cX12_divide 675 = .ok (.iadd, 1) := by decide +kernel
theorem dX12_divide_676 : decode cX12_divide 676 = .ok (.iload 15, 2) := by decide +kernel
theorem dX12_divide_678 : decode cX12_divide 678 = .ok (.iadd, 1) := by decide +kernel
theorem dX12_divide_679 : decode cX12_divide 679 = .ok (.aload_n 0, 1) := by decide +kernel
theorem dX12_divide_680 : decode cX12_divide 680 = .ok (.getfield 7, 3) := by decide +kernel
theorem dX12_divide_683 : decode cX12_divide 683 = .ok (.iload 8, 2) := by decide +kernel
theorem dX12_divide_685 : decode cX12_divide 685 = .ok (.iload 15, 2) := by decide +kernel
theorem dX12_divide_687 : decode cX12_divide 687 = .ok (.iadd, 1) := by decide +kernel
theorem dX12_divide_688 : decode cX12_divide 688 = .ok (.iaload, 1) := by decide +kernel
theorem dX12_divide_689 : decode cX12_divide 689 = .ok (.iastore, 1) := by decide +kernel
theorem dX12_divide_690 : decode cX12_divide 690 = .ok (.iinc 15 1, 3) := by decide +kernel
theorem dX12_divide_693 : decode cX12_divide 693 = .ok (.goto (-31), 3) := by decide +kernel
theorem dX12_divide_696 : decode cX12_divide 696 = .ok (.aload_n 0, 1) := by decide +kernel
theorem dX12_divide_697 : decode cX12_divide 697 = .ok (.iload 14, 2) := by decide +kernel
theorem dX12_divide_699 : decode cX12_divide 699 = .ok (.iload_n 3, 1) := by decide +kernel
theorem dX12_divide_700 : decode cX12_divide 700 = .ok (.aload_n 0, 1) := by decide +kernel
theorem dX12_divide_701 : decode cX12_divide 701 = .ok (.getfield 7, 3) := by decide +kernel
theorem dX12_divide_704 : decode cX12_divide 704 = .ok (.iload_n 1, 1) := by decide +kernel
theorem dX12_divide_705 : decode cX12_divide 705 = .ok (.iaload, 1) := by decide +kernel
theorem dX12_divide_706 : decode cX12_divide 706 = .ok (.ifCond .ge 7, 3) := by decide +kernel
theorem dX12_divide_709 : decode cX12_divide 709 = .ok (.iconst 1, 1) := by decide +kernel
theorem dX12_divide_710 : decode cX12_divide 710 = .ok (.goto 4, 3) := by decide +kernel
theorem dX12_divide_713 : decode cX12_divide 713 = .ok (.iconst 0, 1) := by decide +kernel
theorem dX12_divide_714 : decode cX12_divide 714 = .ok (.invokevirtual 16, 3) := by decide +kernel
theorem dX12_divide_717 : decode cX12_divide 717 = .ok (.istore 14, 2) := by decide +kernel
theorem dX12_divide_719 : decode cX12_divide 719 = .ok (.aload_n 0, 1) := by decide +kernel
theorem dX12_divide_720 : decode cX12_divide 720 = .ok (.aload_n 0, 1) := by decide +kernel
theorem dX12_divide_721 : decode cX12_divide 721 = .ok (.iload 14, 2) := by decide +kernel
theorem dX12_divide_723 : decode cX12_divide 723 = .ok (.iload 4, 2) := by decide +kernel
theorem dX12_divide_725 : decode cX12_divide 725 = .ok (.invokevirtual 59, 3) := by decide +kernel
theorem dX12_divide_728 : decode cX12_divide 728 = .ok (.putfield 48, 3) := by decide +kernel
theorem dX12_divide_731 : decode cX12_divide 731 = .ok (.return_, 1) := by decide +kernel
theorem dX12_divideShort_0 : decode cX12_divideShort 0 = .ok (.aload_n 0, 1) := by decide +kernel
theorem dX12_divideShort_1 : decode cX12_divideShort 1 = .ok (.iload_n 1, 1) := by decide +kernel
theorem dX12_divideShort_2 : decode cX12_divideShort 2 = .ok (.invokevirtual 20, 3) := by decide +kernel
theorem dX12_divideShort_5 : decode cX12_divideShort 5 = .ok (.istore_n 3, 1) := by decide +kernel
theorem dX12_divideShort_6 : decode cX12_divideShort 6 = .ok (.aload_n 0, 1) := by decide +kernel
theorem dX12_divideShort_7 : decode cX12_divideShort 7 = .ok (.getfield 11, 3) := by decide +kernel
theorem dX12_divideShort_10 : decode cX12_divideShort 10 = .ok (.istore 4, 2) := by decide +kernel
theorem dX12_divideShort_12 : decode cX12_divideShort 12 = .ok (.lconst 0, 1) := by decide +kernel
theorem dX12_divideShort_13 : decode cX12_divideShort 13 = .ok (.lstore 5, 2) := by decide +kernel
theorem dX12_divideShort_15 : decode cX12_divideShort 15 = .ok (.aload_n 0, 1) := by decide +kernel
theorem dX12_divideShort_16 : decode cX12_divideShort 16 = .ok (.getfield 7, 3) := by decide +kernel
theorem dX12_divideShort_19 : decode cX12_divideShort 19 = .ok (.iload_n 2, 1) := by decide +kernel
theorem dX12_divideShort_20 : decode cX12_divideShort 20 = .ok (.iconst 1, 1) := by decide +kernel
theorem dX12_divideShort_21 : decode cX12_divideShort 21 = .ok (.iadd, 1) := by decide +kernel
theorem dX12_divideShort_22 : decode cX12_divideShort 22 = .ok (.iaload, 1) := by decide +kernel
theorem dX12_divideShort_23 : decode cX12_divideShort 23 = .ok (.i2l, 1) := by decide +kernel
theorem dX12_divideShort_24 : decode cX12_divideShort 24 = .ok (.lstore 7, 2) := by decide +kernel
theorem dX12_divideShort_26 : decode cX12_divideShort 26 = .ok (.iload_n 3, 1) := by decide +kernel
theorem dX12_divideShort_27 : decode cX12_divideShort 27 = .ok (.istore 9, 2) := by decide +kernel
theorem dX12_divideShort_29 : decode cX12_divideShort 29 = .ok (.iload 9, 2) := by decide +kernel
theorem dX12_divideShort_31 : decode cX12_divideShort 31 = .ok (.ifCond .le 50, 3) := by decide +kernel
theorem dX12_divideShort_34 : decode cX12_divideShort 34 = .ok (.lload 5, 2) := by decide +kernel
theorem dX12_divideShort_36 : decode cX12_divideShort 36 = .ok (.bipush 31, 2) := by decide +kernel
theorem dX12_divideShort_38 : decode cX12_divideShort 38 = .ok (.lshl, 1) := by decide +kernel
theorem dX12_divideShort_39 : decode cX12_divideShort 39 = .ok (.aload_n 0, 1) := by decide +kernel
theorem dX12_divideShort_40 : decode cX12_divideShort 40 = .ok (.getfield 7, 3) := by decide +kernel
theorem dX12_divideShort_43 : decode cX12_divideShort 43 = .ok (.iload_n 1, 1) := by decide +kernel
theorem dX12_divideShort_44 : decode cX12_divideShort 44 = .ok (.iload 9, 2) := by decide +kernel
theorem dX12_divideShort_46 : decode cX12_divideShort 46 = .ok (.iadd, 1) := by decide +kernel
theorem dX12_divideShort_47 : decode cX12_divideShort 47 = .ok (.iaload, 1) := by decide +kernel
theorem dX12_divideShort_48 : decode cX12_divideShort 48 = .ok (.i2l, 1) := by decide +kernel
theorem dX12_divideShort_49 : decode cX12_divideShort 49 = .ok (.lor, 1) := by decide +kernel
theorem dX12_divideShort_50 : decode cX12_divideShort 50 = .ok (.lstore 10, 2) := by decide +kernel
theorem dX12_divideShort_52 : decode cX12_divideShort 52 = .ok (.aload_n 0, 1) := by decide +kernel
theorem dX12_divideShort_53 : decode cX12_divideShort 53 = .ok (.getfield 7, 3) := by decide +kernel
theorem dX12_divideShort_56 : decode cX12_divideShort 56 = .ok (.iload 4, 2) := by decide +kernel
theorem dX12_divideShort_58 : decode cX12_divideShort 58 = .ok (.iload 9, 2) := by decide +kernel
theorem dX12_divideShort_60 : decode cX12_divideShort 60 = .ok (.iadd, 1) := by decide +kernel
theorem dX12_divideShort_61 : decode cX12_divideShort 61 = .ok (.lload 10, 2) := by decide +kernel
theorem dX12_divideShort_63 : decode cX12_divideShort 63 = .ok (.lload 7, 2) := by decide +kernel
theorem dX12_divideShort_65 : decode cX12_divideShort 65 = .ok (.ldiv, 1) := by decide +kernel
theorem dX12_divideShort_66 : decode cX12_divideShort 66 = .ok (.l2i, 1) := by decide +kernel
theorem dX12_divideShort_67 : decode cX12_divideShort 67 = .ok (.iastore, 1) := by decide +kernel
theorem dX12_divideShort_68 : decode cX12_divideShort 68 = .ok (.lload 10, 2) := by decide +kernel
theorem dX12_divideShort_70 : decode cX12_divideShort 70 = .ok (.lload 7, 2) := by decide +kernel
theorem dX12_divideShort_72 : decode cX12_divideShort 72 = .ok (.lrem, 1) := by decide +kernel
theorem dX12_divideShort_73 : decode cX12_divideShort 73 = .ok (.lstore 5, 2) := by decide +kernel
theorem dX12_divideShort_75 : decode cX12_divideShort 75 = .ok (.iinc 9 (-1), 3) := by decide +kernel
theorem dX12_divideShort_78 : decode cX12_divideShort 78 = .ok (.goto (-49), 3) := by decide +kernel
theorem dX12_divideShort_81 : decode cX12_divideShort 81 = .ok (.aload_n 0, 1) := by decide +kernel
theorem dX12_divideShort_82 : decode cX12_divideShort 82 = .ok (.aload_n 0, 1) := by decide +kernel
theorem dX12_divideShort_83 : decode cX12_divideShort 83 = .ok (.iload 4, 2) := by decide +kernel
theorem dX12_divideShort_85 : decode cX12_divideShort 85 = .ok (.iload_n 3, 1) := by decide +kernel
theorem dX12_divideShort_86 : decode cX12_divideShort 86 = .ok (.aload_n 0, 1) := by decide +kernel
theorem dX12_divideShort_87 : decode cX12_divideShort 87 = .ok (.getfield 7, 3) := by decide +kernel
theorem dX12_divideShort_90 : decode cX12_divideShort 90 = .ok (.iload_n 1, 1) := by decide +kernel
theorem dX12_divideShort_91 : decode cX12_divideShort 91 = .ok (.iaload, 1) := by decide +kernel
theorem dX12_divideShort_92 : decode cX12_divideShort 92 = .ok (.ifCond .ge 7, 3) := by decide +kernel
theorem dX12_divideShort_95 : decode cX12_divideShort 95 = .ok (.iconst 1, 1) := by decide +kernel
theorem dX12_divideShort_96 : decode cX12_divideShort 96 = .ok (.goto 4, 3) := by decide +kernel
theorem dX12_divideShort_99 : decode cX12_divideShort 99 = .ok (.iconst 0, 1) := by decide +kernel
theorem dX12_divideShort_100 : decode cX12_divideShort 100 = .ok (.aload_n 0, 1) := by decide +kernel
theorem dX12_divideShort_101 : decode cX12_divideShort 101 = .ok (.getfield 7, 3) := by decide +kernel
theorem dX12_divideShort_104 : decode cX12_divideShort 104 = .ok (.iload_n 2, 1) := by decide +kernel
theorem dX12_divideShort_105 : decode cX12_divideShort 105 = .ok (.iaload, 1) := by decide +kernel
theorem dX12_divideShort_106 : decode cX12_divideShort 106 = .ok (.ifCond .ge 7, 3) := by decide +kernel
theorem dX12_divideShort_109 : decode cX12_divideShort 109 = .ok (.iconst 1, 1) := by decide +kernel
theorem dX12_divideShort_110 : decode cX12_divideShort 110 = .ok (.goto 4, 3) := by decide +kernel
theorem dX12_divideShort_113 : decode cX12_divideShort 113 = .ok (.iconst 0, 1) := by decide +kernel
theorem dX12_divideShort_114 : decode cX12_divideShort 114 = .ok (.if_icmp .eq 7, 3) := by decide +kernel
theorem dX12_divideShort_117 : decode cX12_divideShort 117 = .ok (.iconst 1, 1) := by decide +kernel
theorem dX12_divideShort_118 : decode cX12_divideShort 118 = .ok (.goto 4, 3) := by decide +kernel
theorem dX12_divideShort_121 : decode cX12_divideShort 121 = .ok (.iconst 0, 1) := by decide +kernel
theorem dX12_divideShort_122 : decode cX12_divideShort 122 = .ok (.invokevirtual 16, 3) := by decide +kernel
theorem dX12_divideShort_125 : decode cX12_divideShort 125 = .ok (.putfield 45, 3) := by decide +kernel
theorem dX12_divideShort_128 : decode cX12_divideShort 128 = .ok (.aload_n 0, 1) := by decide +kernel
theorem dX12_divideShort_129 : decode cX12_divideShort 129 = .ok (.aload_n 0, 1) := by decide +kernel
theorem dX12_divideShort_130 : decode cX12_divideShort 130 = .ok (.aload_n 0, 1) := by decide +kernel
theorem dX12_divideShort_131 : decode cX12_divideShort 131 = .ok (.getfield 7, 3) := by decide +kernel
theorem dX12_divideShort_134 : decode cX12_divideShort 134 = .ok (.iload_n 1, 1) := by decide +kernel
theorem dX12_divideShort_135 : decode cX12_divideShort 135 = .ok (.iaload, 1) := by decide +kernel
theorem dX12_divideShort_136 : decode cX12_divideShort 136 = .ok (.ifCond .ge 10, 3) := by decide +kernel
theorem dX12_divideShort_139 : decode cX12_divideShort 139 = .ok (.lconst 0, 1) := by decide +kernel
theorem dX12_divideShort_140 : decode cX12_divideShort 140 = .ok (.lload 5, 2) := by decide +kernel
theorem dX12_divideShort_142 : decode cX12_divideShort 142 = .ok (.lsub, 1) := by decide +kernel
theorem dX12_divideShort_143 : decode cX12_divideShort 143 = .ok (.goto 5, 3) := by decide +kernel
theorem dX12_divideShort_146 : decode cX12_divideShort 146 = .ok (.lload 5, 2) := by decide +kernel
theorem dX12_divideShort_148 : decode cX12_divideShort 148 = .ok (.invokevirtual 41, 3) := by decide +kernel
theorem dX12_divideShort_151 : decode cX12_divideShort 151 = .ok (.putfield 48, 3) := by decide +kernel
theorem dX12_divideShort_154 : decode cX12_divideShort 154 = .ok (.return_, 1) := by decide +kernel
theorem dX12_over_0 : decode cX12_over 0 = .ok (.aload_n 0, 1) := by decide +kernel
theorem dX12_over_1 : decode cX12_over 1 = .ok (.iload_n 1, 1) := by decide +kernel
theorem dX12_over_2 : decode cX12_over 2 = .ok (.iload_n 2, 1) := by decide +kernel
theorem dX12_over_3 : decode cX12_over 3 = .ok (.invokevirtual 62, 3) := by decide +kernel
theorem dX12_over_6 : decode cX12_over 6 = .ok (.aload_n 0, 1) := by decide +kernel
theorem dX12_over_7 : decode cX12_over 7 = .ok (.getfield 45, 3) := by decide +kernel
theorem dX12_over_10 : decode cX12_over 10 = .ok (.ireturn, 1) := by decide +kernel
theorem dX12_keepNumbers_0 : decode cX12_keepNumbers 0 = .ok (.aload_n 0, 1) := by decide +kernel
theorem dX12_keepNumbers_1 : decode cX12_keepNumbers 1 = .ok (.getfield 11, 3) := by decide +kernel
theorem dX12_keepNumbers_4 : decode cX12_keepNumbers 4 = .ok (.istore_n 3, 1) := by decide +kernel
theorem dX12_keepNumbers_5 : decode cX12_keepNumbers 5 = .ok (.iconst 0, 1) := by decide +kernel
theorem dX12_keepNumbers_6 : decode cX12_keepNumbers 6 = .ok (.istore 4, 2) := by decide +kernel
theorem dX12_keepNumbers_8 : decode cX12_keepNumbers 8 = .ok (.iload 4, 2) := by decide +kernel
theorem dX12_keepNumbers_10 : decode cX12_keepNumbers 10 = .ok (.iload_n 2, 1) := by decide +kernel
theorem dX12_keepNumbers_11 : decode cX12_keepNumbers 11 = .ok (.if_icmp .ge 27, 3) := by decide +kernel
theorem dX12_keepNumbers_14 : decode cX12_keepNumbers 14 = .ok (.aload_n 0, 1) := by decide +kernel
theorem dX12_keepNumbers_15 : decode cX12_keepNumbers 15 = .ok (.getfield 68, 3) := by decide +kernel
theorem dX12_keepNumbers_18 : decode cX12_keepNumbers 18 = .ok (.iload 4, 2) := by decide +kernel
theorem dX12_keepNumbers_20 : decode cX12_keepNumbers 20 = .ok (.aload_n 0, 1) := by decide +kernel
theorem dX12_keepNumbers_21 : decode cX12_keepNumbers 21 = .ok (.aload_n 0, 1) := by decide +kernel
theorem dX12_keepNumbers_22 : decode cX12_keepNumbers 22 = .ok (.getfield 68, 3) := by decide +kernel
theorem dX12_keepNumbers_25 : decode cX12_keepNumbers 25 = .ok (.iload 4, 2) := by decide +kernel
theorem dX12_keepNumbers_27 : decode cX12_keepNumbers 27 = .ok (.iaload, 1) := by decide +kernel
theorem dX12_keepNumbers_28 : decode cX12_keepNumbers 28 = .ok (.invokevirtual 24, 3) := by decide +kernel
theorem dX12_keepNumbers_31 : decode cX12_keepNumbers 31 = .ok (.iastore, 1) := by decide +kernel
theorem dX12_keepNumbers_32 : decode cX12_keepNumbers 32 = .ok (.iinc 4 1, 3) := by decide +kernel
theorem dX12_keepNumbers_35 : decode cX12_keepNumbers 35 = .ok (.goto (-27), 3) := by decide +kernel
theorem dX12_keepNumbers_38 : decode cX12_keepNumbers 38 = .ok (.aload_n 0, 1) := by decide +kernel
theorem dX12_keepNumbers_39 : decode cX12_keepNumbers 39 = .ok (.iload_n 1, 1) := by decide +kernel
theorem dX12_keepNumbers_40 : decode cX12_keepNumbers 40 = .ok (.iload_n 3, 1) := by decide +kernel
theorem dX12_keepNumbers_41 : decode cX12_keepNumbers 41 = .ok (.invokevirtual 71, 3) := by decide +kernel
theorem dX12_keepNumbers_44 : decode cX12_keepNumbers 44 = .ok (.iconst 0, 1) := by decide +kernel
theorem dX12_keepNumbers_45 : decode cX12_keepNumbers 45 = .ok (.istore 4, 2) := by decide +kernel
theorem dX12_keepNumbers_47 : decode cX12_keepNumbers 47 = .ok (.iload 4, 2) := by decide +kernel
theorem dX12_keepNumbers_49 : decode cX12_keepNumbers 49 = .ok (.iload_n 2, 1) := by decide +kernel
theorem dX12_keepNumbers_50 : decode cX12_keepNumbers 50 = .ok (.if_icmp .ge 27, 3) := by decide +kernel
theorem dX12_keepNumbers_53 : decode cX12_keepNumbers 53 = .ok (.aload_n 0, 1) := by decide +kernel
theorem dX12_keepNumbers_54 : decode cX12_keepNumbers 54 = .ok (.getfield 68, 3) := by decide +kernel
theorem dX12_keepNumbers_57 : decode cX12_keepNumbers 57 = .ok (.iload 4, 2) := by decide +kernel
theorem dX12_keepNumbers_59 : decode cX12_keepNumbers 59 = .ok (.aload_n 0, 1) := by decide +kernel
theorem dX12_keepNumbers_60 : decode cX12_keepNumbers 60 = .ok (.getfield 68, 3) := by decide +kernel
theorem dX12_keepNumbers_63 : decode cX12_keepNumbers 63 = .ok (.iload 4, 2) := by decide +kernel
theorem dX12_keepNumbers_65 : decode cX12_keepNumbers 65 = .ok (.iaload, 1) := by decide +kernel
theorem dX12_keepNumbers_66 : decode cX12_keepNumbers 66 = .ok (.iload_n 3, 1) := by decide +kernel
theorem dX12_keepNumbers_67 : decode cX12_keepNumbers 67 = .ok (.isub, 1) := by decide +kernel
theorem dX12_keepNumbers_68 : decode cX12_keepNumbers 68 = .ok (.iload_n 1, 1) := by decide +kernel
theorem dX12_keepNumbers_69 : decode cX12_keepNumbers 69 = .ok (.iadd, 1) := by decide +kernel
theorem dX12_keepNumbers_70 : decode cX12_keepNumbers 70 = .ok (.iastore, 1) := by decide +kernel
theorem dX12_keepNumbers_71 : decode cX12_keepNumbers 71 = .ok (.iinc 4 1, 3) := by decide +kernel
theorem dX12_keepNumbers_74 : decode cX12_keepNumbers 74 = .ok (.goto (-27), 3) := by decide +kernel
theorem dX12_keepNumbers_77 : decode cX12_keepNumbers 77 = .ok (.return_, 1) := by decide +kernel
theorem dX12_bring_0 : decode cX12_bring 0 = .ok (.aload_n 0, 1) := by decide +kernel
theorem dX12_bring_1 : decode cX12_bring 1 = .ok (.getfield 11, 3) := by decide +kernel
theorem dX12_bring_4 : decode cX12_bring 4 = .ok (.iload_n 2, 1) := by decide +kernel
theorem dX12_bring_5 : decode cX12_bring 5 = .ok (.isub, 1) := by decide +kernel
theorem dX12_bring_6 : decode cX12_bring 6 = .ok (.istore_n 3, 1) := by decide +kernel
theorem dX12_bring_7 : decode cX12_bring 7 = .ok (.iconst 0, 1) := by decide +kernel
theorem dX12_bring_8 : decode cX12_bring 8 = .ok (.istore 4, 2) := by decide +kernel
theorem dX12_bring_10 : decode cX12_bring 10 = .ok (.iload 4, 2) := by decide +kernel
theorem dX12_bring_12 : decode cX12_bring 12 = .ok (.iload_n 3, 1) := by decide +kernel
theorem dX12_bring_13 : decode cX12_bring 13 = .ok (.if_icmp .ge 27, 3) := by decide +kernel
theorem dX12_bring_16 : decode cX12_bring 16 = .ok (.aload_n 0, 1) := by decide +kernel
theorem dX12_bring_17 : decode cX12_bring 17 = .ok (.getfield 7, 3) := by decide +kernel
theorem dX12_bring_20 : decode cX12_bring 20 = .ok (.iload_n 1, 1) := by decide +kernel
theorem dX12_bring_21 : decode cX12_bring 21 = .ok (.iload 4, 2) := by decide +kernel
theorem dX12_bring_23 : decode cX12_bring 23 = .ok (.iadd, 1) := by decide +kernel
theorem dX12_bring_24 : decode cX12_bring 24 = .ok (.aload_n 0, 1) := by decide +kernel
theorem dX12_bring_25 : decode cX12_bring 25 = .ok (.getfield 7, 3) := by decide +kernel
theorem dX12_bring_28 : decode cX12_bring 28 = .ok (.iload_n 2, 1) := by decide +kernel
theorem dX12_bring_29 : decode cX12_bring 29 = .ok (.iload 4, 2) := by decide +kernel
theorem dX12_bring_31 : decode cX12_bring 31 = .ok (.iadd, 1) := by decide +kernel
theorem dX12_bring_32 : decode cX12_bring 32 = .ok (.iaload, 1) := by decide +kernel
theorem dX12_bring_33 : decode cX12_bring 33 = .ok (.iastore, 1) := by decide +kernel
theorem dX12_bring_34 : decode cX12_bring 34 = .ok (.iinc 4 1, 3) := by decide +kernel
theorem dX12_bring_37 : decode cX12_bring 37 = .ok (.goto (-27), 3) := by decide +kernel
theorem dX12_bring_40 : decode cX12_bring 40 = .ok (.aload_n 0, 1) := by decide +kernel
theorem dX12_bring_41 : decode cX12_bring 41 = .ok (.iload_n 1, 1) := by decide +kernel
theorem dX12_bring_42 : decode cX12_bring 42 = .ok (.iload_n 3, 1) := by decide +kernel
theorem dX12_bring_43 : decode cX12_bring 43 = .ok (.iadd, 1) := by decide +kernel
theorem dX12_bring_44 : decode cX12_bring 44 = .ok (.putfield 11, 3) := by decide +kernel
theorem dX12_bring_47 : decode cX12_bring 47 = .ok (.return_, 1) := by decide +kernel
theorem dX12_keepNumber_0 : decode cX12_keepNumber 0 = .ok (.aload_n 0, 1) := by decide +kernel
theorem dX12_keepNumber_1 : decode cX12_keepNumber 1 = .ok (.getfield 68, 3) := by decide +kernel
theorem dX12_keepNumber_4 : decode cX12_keepNumber 4 = .ok (.iconst 0, 1) := by decide +kernel
theorem dX12_keepNumber_5 : decode cX12_keepNumber 5 = .ok (.iload_n 2, 1) := by decide +kernel
theorem dX12_keepNumber_6 : decode cX12_keepNumber 6 = .ok (.iastore, 1) := by decide +kernel
theorem dX12_keepNumber_7 : decode cX12_keepNumber 7 = .ok (.aload_n 0, 1) := by decide +kernel
theorem dX12_keepNumber_8 : decode cX12_keepNumber 8 = .ok (.iload_n 1, 1) := by decide +kernel
theorem dX12_keepNumber_9 : decode cX12_keepNumber 9 = .ok (.iconst 1, 1) := by decide +kernel
theorem dX12_keepNumber_10 : decode cX12_keepNumber 10 = .ok (.invokevirtual 74, 3) := by decide +kernel
theorem dX12_keepNumber_13 : decode cX12_keepNumber 13 = .ok (.aload_n 0, 1) := by decide +kernel
theorem dX12_keepNumber_14 : decode cX12_keepNumber 14 = .ok (.getfield 68, 3) := by decide +kernel
theorem dX12_keepNumber_17 : decode cX12_keepNumber 17 = .ok (.iconst 0, 1) := by decide +kernel
theorem dX12_keepNumber_18 : decode cX12_keepNumber 18 = .ok (.iaload, 1) := by decide +kernel
theorem dX12_keepNumber_19 : decode cX12_keepNumber 19 = .ok (.ireturn, 1) := by decide +kernel
theorem dX12_greatestDivisor_0 : decode cX12_greatestDivisor 0 = .ok (.aload_n 0, 1) := by decide +kernel
theorem dX12_greatestDivisor_1 : decode cX12_greatestDivisor 1 = .ok (.getfield 11, 3) := by decide +kernel
theorem dX12_greatestDivisor_4 : decode cX12_greatestDivisor 4 = .ok (.istore_n 3, 1) := by decide +kernel
theorem dX12_greatestDivisor_5 : decode cX12_greatestDivisor 5 = .ok (.iload_n 1, 1) := by decide +kernel
theorem dX12_greatestDivisor_6 : decode cX12_greatestDivisor 6 = .ok (.istore 4, 2) := by decide +kernel
theorem dX12_greatestDivisor_8 : decode cX12_greatestDivisor 8 = .ok (.iload_n 2, 1) := by decide +kernel
theorem dX12_greatestDivisor_9 : decode cX12_greatestDivisor 9 = .ok (.istore 5, 2) := by decide +kernel
theorem dX12_greatestDivisor_11 : decode cX12_greatestDivisor 11 = .ok (.aload_n 0, 1) := by decide +kernel
theorem dX12_greatestDivisor_12 : decode cX12_greatestDivisor 12 = .ok (.iload 5, 2) := by decide +kernel
theorem dX12_greatestDivisor_14 : decode cX12_greatestDivisor 14 = .ok (.invokevirtual 27, 3) := by decide +kernel
theorem dX12_greatestDivisor_17 : decode cX12_greatestDivisor 17 = .ok (.ifCond .eq 54, 3) := by decide +kernel
theorem dX12_greatestDivisor_20 : decode cX12_greatestDivisor 20 = .ok (.aload_n 0, 1) := by decide +kernel
theorem dX12_greatestDivisor_21 : decode cX12_greatestDivisor 21 = .ok (.iload 4, 2) := by decide +kernel
theorem dX12_greatestDivisor_23 : decode cX12_greatestDivisor 23 = .ok (.iload 5, 2) := by decide +kernel
theorem dX12_greatestDivisor_25 : decode cX12_greatestDivisor 25 = .ok (.invokevirtual 62, 3) := by decide +kernel
theorem dX12_greatestDivisor_28 : decode cX12_greatestDivisor 28 = .ok (.aload_n 0, 1) := by decide +kernel
theorem dX12_greatestDivisor_29 : decode cX12_greatestDivisor 29 = .ok (.getfield 68, 3) := by decide +kernel
theorem dX12_greatestDivisor_32 : decode cX12_greatestDivisor 32 = .ok (.iconst 0, 1) := by decide +kernel
theorem dX12_greatestDivisor_33 : decode cX12_greatestDivisor 33 = .ok (.iload 5, 2) := by decide +kernel
theorem dX12_greatestDivisor_35 : decode cX12_greatestDivisor 35 = .ok (.iastore, 1) := by decide +kernel
theorem dX12_greatestDivisor_36 : decode cX12_greatestDivisor 36 = .ok (.aload_n 0, 1) := by decide +kernel
theorem dX12_greatestDivisor_37 : decode cX12_greatestDivisor 37 = .ok (.getfield 68, 3) := by decide +kernel
theorem dX12_greatestDivisor_40 : decode cX12_greatestDivisor 40 = .ok (.iconst 1, 1) := by decide +kernel
theorem dX12_greatestDivisor_41 : decode cX12_greatestDivisor 41 = .ok (.aload_n 0, 1) := by decide +kernel
theorem dX12_greatestDivisor_42 : decode cX12_greatestDivisor 42 = .ok (.getfield 48, 3) := by decide +kernel
theorem dX12_greatestDivisor_45 : decode cX12_greatestDivisor 45 = .ok (.iastore, 1) := by decide +kernel
theorem dX12_greatestDivisor_46 : decode cX12_greatestDivisor 46 = .ok (.aload_n 0, 1) := by decide +kernel
theorem dX12_greatestDivisor_47 : decode cX12_greatestDivisor 47 = .ok (.iload_n 3, 1) := by decide +kernel
theorem dX12_greatestDivisor_48 : decode cX12_greatestDivisor 48 = .ok (.iconst 2, 1) := by decide +kernel
theorem dX12_greatestDivisor_49 : decode cX12_greatestDivisor 49 = .ok (.invokevirtual 74, 3) := by decide +kernel
theorem dX12_greatestDivisor_52 : decode cX12_greatestDivisor 52 = .ok (.aload_n 0, 1) := by decide +kernel
theorem dX12_greatestDivisor_53 : decode cX12_greatestDivisor 53 = .ok (.getfield 68, 3) := by decide +kernel
theorem dX12_greatestDivisor_56 : decode cX12_greatestDivisor 56 = .ok (.iconst 0, 1) := by decide +kernel
theorem dX12_greatestDivisor_57 : decode cX12_greatestDivisor 57 = .ok (.iaload, 1) := by decide +kernel
theorem dX12_greatestDivisor_58 : decode cX12_greatestDivisor 58 = .ok (.istore 4, 2) := by decide +kernel
theorem dX12_greatestDivisor_60 : decode cX12_greatestDivisor 60 = .ok (.aload_n 0, 1) := by decide +kernel
theorem dX12_greatestDivisor_61 : decode cX12_greatestDivisor 61 = .ok (.getfield 68, 3) := by decide +kernel
theorem dX12_greatestDivisor_64 : decode cX12_greatestDivisor 64 = .ok (.iconst 1, 1) := by decide +kernel
theorem dX12_greatestDivisor_65 : decode cX12_greatestDivisor 65 = .ok (.iaload, 1) := by decide +kernel
theorem dX12_greatestDivisor_66 : decode cX12_greatestDivisor 66 = .ok (.istore 5, 2) := by decide +kernel
theorem dX12_greatestDivisor_68 : decode cX12_greatestDivisor 68 = .ok (.goto (-57), 3) := by decide +kernel
theorem dX12_greatestDivisor_71 : decode cX12_greatestDivisor 71 = .ok (.aload_n 0, 1) := by decide +kernel
theorem dX12_greatestDivisor_72 : decode cX12_greatestDivisor 72 = .ok (.iload_n 3, 1) := by decide +kernel
theorem dX12_greatestDivisor_73 : decode cX12_greatestDivisor 73 = .ok (.iload 4, 2) := by decide +kernel
theorem dX12_greatestDivisor_75 : decode cX12_greatestDivisor 75 = .ok (.invokevirtual 77, 3) := by decide +kernel
theorem dX12_greatestDivisor_78 : decode cX12_greatestDivisor 78 = .ok (.istore 4, 2) := by decide +kernel
theorem dX12_greatestDivisor_80 : decode cX12_greatestDivisor 80 = .ok (.aload_n 0, 1) := by decide +kernel
theorem dX12_greatestDivisor_81 : decode cX12_greatestDivisor 81 = .ok (.getfield 7, 3) := by decide +kernel
theorem dX12_greatestDivisor_84 : decode cX12_greatestDivisor 84 = .ok (.iload 4, 2) := by decide +kernel
theorem dX12_greatestDivisor_86 : decode cX12_greatestDivisor 86 = .ok (.aload_n 0, 1) := by decide +kernel
theorem dX12_greatestDivisor_87 : decode cX12_greatestDivisor 87 = .ok (.iload 4, 2) := by decide +kernel
theorem dX12_greatestDivisor_89 : decode cX12_greatestDivisor 89 = .ok (.invokevirtual 20, 3) := by decide +kernel
theorem dX12_greatestDivisor_92 : decode cX12_greatestDivisor 92 = .ok (.iastore, 1) := by decide +kernel
theorem dX12_greatestDivisor_93 : decode cX12_greatestDivisor 93 = .ok (.iload 4, 2) := by decide +kernel
theorem dX12_greatestDivisor_95 : decode cX12_greatestDivisor 95 = .ok (.ireturn, 1) := by decide +kernel
theorem dX12_degree_0 : decode cX12_degree 0 = .ok (.aload_n 0, 1) := by decide +kernel
theorem dX12_degree_1 : decode cX12_degree 1 = .ok (.getfield 7, 3) := by decide +kernel
theorem dX12_degree_4 : decode cX12_degree 4 = .ok (.iload_n 1, 1) := by decide +kernel
theorem dX12_degree_5 : decode cX12_degree 5 = .ok (.iaload, 1) := by decide +kernel
theorem dX12_degree_6 : decode cX12_degree 6 = .ok (.ireturn, 1) := by decide +kernel
theorem dX12_co_0 : decode cX12_co 0 = .ok (.aload_n 0, 1) := by decide +kernel
theorem dX12_co_1 : decode cX12_co 1 = .ok (.getfield 7, 3) := by decide +kernel
theorem dX12_co_4 : decode cX12_co 4 = .ok (.iload_n 1, 1) := by decide +kernel
theorem dX12_co_5 : decode cX12_co 5 = .ok (.iconst 1, 1) := by decide +kernel
theorem dX12_co_6 : decode cX12_co 6 = .ok (.iadd, 1) := by decide +kernel
theorem dX12_co_7 : decode cX12_co 7 = .ok (.iload_n 2, 1) := by decide +kernel
theorem dX12_co_8 : decode cX12_co 8 = .ok (.iadd, 1) := by decide +kernel
theorem dX12_co_9 : decode cX12_co 9 = .ok (.iaload, 1) := by decide +kernel
theorem dX12_co_10 : decode cX12_co 10 = .ok (.ireturn, 1) := by decide +kernel
theorem dX12_leading_0 : decode cX12_leading 0 = .ok (.aload_n 0, 1) := by decide +kernel
theorem dX12_leading_1 : decode cX12_leading 1 = .ok (.iload_n 1, 1) := by decide +kernel
theorem dX12_leading_2 : decode cX12_leading 2 = .ok (.aload_n 0, 1) := by decide +kernel
theorem dX12_leading_3 : decode cX12_leading 3 = .ok (.iload_n 1, 1) := by decide +kernel
theorem dX12_leading_4 : decode cX12_leading 4 = .ok (.invokevirtual 80, 3) := by decide +kernel
theorem dX12_leading_7 : decode cX12_leading 7 = .ok (.invokevirtual 83, 3) := by decide +kernel
theorem dX12_leading_10 : decode cX12_leading 10 = .ok (.ireturn, 1) := by decide +kernel
theorem dX12_polynomialOf_0 : decode cX12_polynomialOf 0 = .ok (.iload_n 1, 1) := by decide +kernel
theorem dX12_polynomialOf_1 : decode cX12_polynomialOf 1 = .ok (.iconst 1, 1) := by decide +kernel
theorem dX12_polynomialOf_2 : decode cX12_polynomialOf 2 = .ok (.isub, 1) := by decide +kernel
theorem dX12_polynomialOf_3 : decode cX12_polynomialOf 3 = .ok (.istore_n 2, 1) := by decide +kernel
theorem dX12_polynomialOf_4 : decode cX12_polynomialOf 4 = .ok (.iload_n 2, 1) := by decide +kernel
theorem dX12_polynomialOf_5 : decode cX12_polynomialOf 5 = .ok (.ifCond .lt 22, 3) := by decide +kernel
theorem dX12_polynomialOf_8 : decode cX12_polynomialOf 8 = .ok (.aload_n 0, 1) := by decide +kernel
theorem dX12_polynomialOf_9 : decode cX12_polynomialOf 9 = .ok (.aload_n 0, 1) := by decide +kernel
theorem dX12_polynomialOf_10 : decode cX12_polynomialOf 10 = .ok (.getfield 86, 3) := by decide +kernel
theorem dX12_polynomialOf_13 : decode cX12_polynomialOf 13 = .ok (.iload_n 2, 1) := by decide +kernel
theorem dX12_polynomialOf_14 : decode cX12_polynomialOf 14 = .ok (.iaload, 1) := by decide +kernel
theorem dX12_polynomialOf_15 : decode cX12_polynomialOf 15 = .ok (.invokevirtual 27, 3) := by decide +kernel
theorem dX12_polynomialOf_18 : decode cX12_polynomialOf 18 = .ok (.ifCond .ne 9, 3) := by decide +kernel
theorem dX12_polynomialOf_21 : decode cX12_polynomialOf 21 = .ok (.iinc 2 (-1), 3) := by decide +kernel
theorem dX12_polynomialOf_24 : decode cX12_polynomialOf 24 = .ok (.goto (-20), 3) := by decide +kernel
theorem dX12_polynomialOf_27 : decode cX12_polynomialOf 27 = .ok (.aload_n 0, 1) := by decide +kernel
theorem dX12_polynomialOf_28 : decode cX12_polynomialOf 28 = .ok (.getfield 11, 3) := by decide +kernel
theorem dX12_polynomialOf_31 : decode cX12_polynomialOf 31 = .ok (.istore_n 3, 1) := by decide +kernel
theorem dX12_polynomialOf_32 : decode cX12_polynomialOf 32 = .ok (.aload_n 0, 1) := by decide +kernel
theorem dX12_polynomialOf_33 : decode cX12_polynomialOf 33 = .ok (.getfield 7, 3) := by decide +kernel
theorem dX12_polynomialOf_36 : decode cX12_polynomialOf 36 = .ok (.iload_n 3, 1) := by decide +kernel
theorem dX12_polynomialOf_37 : decode cX12_polynomialOf 37 = .ok (.iload_n 2, 1) := by decide +kernel
theorem dX12_polynomialOf_38 : decode cX12_polynomialOf 38 = .ok (.iastore, 1) := by decide +kernel
theorem dX12_polynomialOf_39 : decode cX12_polynomialOf 39 = .ok (.iconst 0, 1) := by decide +kernel
theorem dX12_polynomialOf_40 : decode cX12_polynomialOf 40 = .ok (.istore 4, 2) := by decide +kernel
theorem dX12_polynomialOf_42 : decode cX12_polynomialOf 42 = .ok (.iload 4, 2) := by decide +kernel
theorem dX12_polynomialOf_44 : decode cX12_polynomialOf 44 = .ok (.iload_n 2, 1) := by decide +kernel
theorem dX12_polynomialOf_45 : decode cX12_polynomialOf 45 = .ok (.if_icmp .gt 27, 3) := by decide +kernel
theorem dX12_polynomialOf_48 : decode cX12_polynomialOf 48 = .ok (.aload_n 0, 1) := by decide +kernel
theorem dX12_polynomialOf_49 : decode cX12_polynomialOf 49 = .ok (.getfield 7, 3) := by decide +kernel
theorem dX12_polynomialOf_52 : decode cX12_polynomialOf 52 = .ok (.iload_n 3, 1) := by decide +kernel
theorem dX12_polynomialOf_53 : decode cX12_polynomialOf 53 = .ok (.iconst 1, 1) := by decide +kernel
theorem dX12_polynomialOf_54 : decode cX12_polynomialOf 54 = .ok (.iadd, 1) := by decide +kernel
theorem dX12_polynomialOf_55 : decode cX12_polynomialOf 55 = .ok (.iload 4, 2) := by decide +kernel
theorem dX12_polynomialOf_57 : decode cX12_polynomialOf 57 = .ok (.iadd, 1) := by decide +kernel
theorem dX12_polynomialOf_58 : decode cX12_polynomialOf 58 = .ok (.aload_n 0, 1) := by decide +kernel
theorem dX12_polynomialOf_59 : decode cX12_polynomialOf 59 = .ok (.getfield 86, 3) := by decide +kernel
theorem dX12_polynomialOf_62 : decode cX12_polynomialOf 62 = .ok (.iload 4, 2) := by decide +kernel
theorem dX12_polynomialOf_64 : decode cX12_polynomialOf 64 = .ok (.iaload, 1) := by decide +kernel
theorem dX12_polynomialOf_65 : decode cX12_polynomialOf 65 = .ok (.iastore, 1) := by decide +kernel
theorem dX12_polynomialOf_66 : decode cX12_polynomialOf 66 = .ok (.iinc 4 1, 3) := by decide +kernel
theorem dX12_polynomialOf_69 : decode cX12_polynomialOf 69 = .ok (.goto (-27), 3) := by decide +kernel
theorem dX12_polynomialOf_72 : decode cX12_polynomialOf 72 = .ok (.aload_n 0, 1) := by decide +kernel
theorem dX12_polynomialOf_73 : decode cX12_polynomialOf 73 = .ok (.iload_n 3, 1) := by decide +kernel
theorem dX12_polynomialOf_74 : decode cX12_polynomialOf 74 = .ok (.iconst 2, 1) := by decide +kernel
theorem dX12_polynomialOf_75 : decode cX12_polynomialOf 75 = .ok (.iadd, 1) := by decide +kernel
theorem dX12_polynomialOf_76 : decode cX12_polynomialOf 76 = .ok (.iload_n 2, 1) := by decide +kernel
theorem dX12_polynomialOf_77 : decode cX12_polynomialOf 77 = .ok (.iadd, 1) := by decide +kernel
theorem dX12_polynomialOf_78 : decode cX12_polynomialOf 78 = .ok (.putfield 11, 3) := by decide +kernel
theorem dX12_polynomialOf_81 : decode cX12_polynomialOf 81 = .ok (.iload_n 3, 1) := by decide +kernel
theorem dX12_polynomialOf_82 : decode cX12_polynomialOf 82 = .ok (.ireturn, 1) := by decide +kernel
theorem dX12_copyPolynomial_0 : decode cX12_copyPolynomial 0 = .ok (.iconst 0, 1) := by decide +kernel
theorem dX12_copyPolynomial_1 : decode cX12_copyPolynomial 1 = .ok (.istore_n 2, 1) := by decide +kernel
theorem dX12_copyPolynomial_2 : decode cX12_copyPolynomial 2 = .ok (.iload_n 2, 1) := by decide +kernel
theorem dX12_copyPolynomial_3 : decode cX12_copyPolynomial 3 = .ok (.aload_n 0, 1) := by decide +kernel
theorem dX12_copyPolynomial_4 : decode cX12_copyPolynomial 4 = .ok (.iload_n 1, 1) := by decide +kernel
theorem dX12_copyPolynomial_5 : decode cX12_copyPolynomial 5 = .ok (.invokevirtual 80, 3) := by decide +kernel
theorem dX12_copyPolynomial_8 : decode cX12_copyPolynomial 8 = .ok (.if_icmp .gt 25, 3) := by decide +kernel
theorem dX12_copyPolynomial_11 : decode cX12_copyPolynomial 11 = .ok (.aload_n 0, 1) := by decide +kernel
theorem dX12_copyPolynomial_12 : decode cX12_copyPolynomial 12 = .ok (.getfield 86, 3) := by decide +kernel
theorem dX12_copyPolynomial_15 : decode cX12_copyPolynomial 15 = .ok (.iload_n 2, 1) := by decide +kernel
theorem dX12_copyPolynomial_16 : decode cX12_copyPolynomial 16 = .ok (.aload_n 0, 1) := by decide +kernel
theorem dX12_copyPolynomial_17 : decode cX12_copyPolynomial 17 = .ok (.aload_n 0, 1) := by decide +kernel
theorem dX12_copyPolynomial_18 : decode cX12_copyPolynomial 18 = .ok (.iload_n 1, 1) := by decide +kernel
theorem dX12_copyPolynomial_19 : decode cX12_copyPolynomial 19 = .ok (.iload_n 2, 1) := by decide +kernel
theorem dX12_copyPolynomial_20 : decode cX12_copyPolynomial 20 = .ok (.invokevirtual 83, 3) := by decide +kernel
theorem dX12_copyPolynomial_23 : decode cX12_copyPolynomial 23 = .ok (.invokevirtual 24, 3) := by decide +kernel
theorem dX12_copyPolynomial_26 : decode cX12_copyPolynomial 26 = .ok (.iastore, 1) := by decide +kernel
theorem dX12_copyPolynomial_27 : decode cX12_copyPolynomial 27 = .ok (.iinc 2 1, 3) := by decide +kernel
theorem dX12_copyPolynomial_30 : decode cX12_copyPolynomial 30 = .ok (.goto (-28), 3) := by decide +kernel
theorem dX12_copyPolynomial_33 : decode cX12_copyPolynomial 33 = .ok (.aload_n 0, 1) := by decide +kernel
theorem dX12_copyPolynomial_34 : decode cX12_copyPolynomial 34 = .ok (.aload_n 0, 1) := by decide +kernel
theorem dX12_copyPolynomial_35 : decode cX12_copyPolynomial 35 = .ok (.iload_n 1, 1) := by decide +kernel
theorem dX12_copyPolynomial_36 : decode cX12_copyPolynomial 36 = .ok (.invokevirtual 80, 3) := by decide +kernel
theorem dX12_copyPolynomial_39 : decode cX12_copyPolynomial 39 = .ok (.iconst 1, 1) := by decide +kernel
theorem dX12_copyPolynomial_40 : decode cX12_copyPolynomial 40 = .ok (.iadd, 1) := by decide +kernel
theorem dX12_copyPolynomial_41 : decode cX12_copyPolynomial 41 = .ok (.invokevirtual 89, 3) := by decide +kernel
theorem dX12_copyPolynomial_44 : decode cX12_copyPolynomial 44 = .ok (.ireturn, 1) := by decide +kernel
theorem dX12_keepPolynomials_0 : decode cX12_keepPolynomials 0 = .ok (.aload_n 0, 1) := by decide +kernel
theorem dX12_keepPolynomials_1 : decode cX12_keepPolynomials 1 = .ok (.getfield 11, 3) := by decide +kernel
theorem dX12_keepPolynomials_4 : decode cX12_keepPolynomials 4 = .ok (.istore_n 3, 1) := by decide +kernel
theorem dX12_keepPolynomials_5 : decode cX12_keepPolynomials 5 = .ok (.iconst 0, 1) := by decide +kernel
theorem dX12_keepPolynomials_6 : decode cX12_keepPolynomials 6 = .ok (.istore 4, 2) := by decide +kernel
theorem dX12_keepPolynomials_8 : decode cX12_keepPolynomials 8 = .ok (.iload 4, 2) := by decide +kernel
theorem dX12_keepPolynomials_10 : decode cX12_keepPolynomials 10 = .ok (.iload_n 2, 1) := by decide +kernel
theorem dX12_keepPolynomials_11 : decode cX12_keepPolynomials 11 = .ok (.if_icmp .ge 27, 3) := by decide +kernel
theorem dX12_keepPolynomials_14 : decode cX12_keepPolynomials 14 = .ok (.aload_n 0, 1) := by decide +kernel
theorem dX12_keepPolynomials_15 : decode cX12_keepPolynomials 15 = .ok (.getfield 68, 3) := by decide +kernel
theorem dX12_keepPolynomials_18 : decode cX12_keepPolynomials 18 = .ok (.iload 4, 2) := by decide +kernel
theorem dX12_keepPolynomials_20 : decode cX12_keepPolynomials 20 = .ok (.aload_n 0, 1) := by decide +kernel
theorem dX12_keepPolynomials_21 : decode cX12_keepPolynomials 21 = .ok (.aload_n 0, 1) := by decide +kernel
theorem dX12_keepPolynomials_22 : decode cX12_keepPolynomials 22 = .ok (.getfield 68, 3) := by decide +kernel
theorem dX12_keepPolynomials_25 : decode cX12_keepPolynomials 25 = .ok (.iload 4, 2) := by decide +kernel
theorem dX12_keepPolynomials_27 : decode cX12_keepPolynomials 27 = .ok (.iaload, 1) := by decide +kernel
theorem dX12_keepPolynomials_28 : decode cX12_keepPolynomials 28 = .ok (.invokevirtual 92, 3) := by decide +kernel
theorem dX12_keepPolynomials_31 : decode cX12_keepPolynomials 31 = .ok (.iastore, 1) := by decide +kernel
theorem dX12_keepPolynomials_32 : decode cX12_keepPolynomials 32 = .ok (.iinc 4 1, 3) := by decide +kernel
theorem dX12_keepPolynomials_35 : decode cX12_keepPolynomials 35 = .ok (.goto (-27), 3) := by decide +kernel
theorem dX12_keepPolynomials_38 : decode cX12_keepPolynomials 38 = .ok (.aload_n 0, 1) := by decide +kernel
theorem dX12_keepPolynomials_39 : decode cX12_keepPolynomials 39 = .ok (.iload_n 1, 1) := by decide +kernel
theorem dX12_keepPolynomials_40 : decode cX12_keepPolynomials 40 = .ok (.iload_n 3, 1) := by decide +kernel
theorem dX12_keepPolynomials_41 : decode cX12_keepPolynomials 41 = .ok (.invokevirtual 71, 3) := by decide +kernel
theorem dX12_keepPolynomials_44 : decode cX12_keepPolynomials 44 = .ok (.iconst 0, 1) := by decide +kernel
theorem dX12_keepPolynomials_45 : decode cX12_keepPolynomials 45 = .ok (.istore 4, 2) := by decide +kernel
theorem dX12_keepPolynomials_47 : decode cX12_keepPolynomials 47 = .ok (.iload 4, 2) := by decide +kernel
theorem dX12_keepPolynomials_49 : decode cX12_keepPolynomials 49 = .ok (.iload_n 2, 1) := by decide +kernel
theorem dX12_keepPolynomials_50 : decode cX12_keepPolynomials 50 = .ok (.if_icmp .ge 90, 3) := by decide +kernel
theorem dX12_keepPolynomials_53 : decode cX12_keepPolynomials 53 = .ok (.aload_n 0, 1) := by decide +kernel
theorem dX12_keepPolynomials_54 : decode cX12_keepPolynomials 54 = .ok (.getfield 68, 3) := by decide +kernel
theorem dX12_keepPolynomials_57 : decode cX12_keepPolynomials 57 = .ok (.iload 4, 2) := by decide +kernel
theorem dX12_keepPolynomials_59 : decode cX12_keepPolynomials 59 = .ok (.aload_n 0, 1) := by decide +kernel
theorem dX12_keepPolynomials_60 : decode cX12_keepPolynomials 60 = .ok (.getfield 68, 3) := by decide +kernel
theorem dX12_keepPolynomials_63 : decode cX12_keepPolynomials 63 = .ok (.iload 4, 2) := by decide +kernel
theorem dX12_keepPolynomials_65 : decode cX12_keepPolynomials 65 = .ok (.iaload, 1) := by decide +kernel
theorem dX12_keepPolynomials_66 : decode cX12_keepPolynomials 66 = .ok (.iload_n 3, 1) := by decide +kernel
theorem dX12_keepPolynomials_67 : decode cX12_keepPolynomials 67 = .ok (.isub, 1) := by decide +kernel
theorem dX12_keepPolynomials_68 : decode cX12_keepPolynomials 68 = .ok (.iload_n 1, 1) := by decide +kernel
theorem dX12_keepPolynomials_69 : decode cX12_keepPolynomials 69 = .ok (.iadd, 1) := by decide +kernel
theorem dX12_keepPolynomials_70 : decode cX12_keepPolynomials 70 = .ok (.iastore, 1) := by decide +kernel
theorem dX12_keepPolynomials_71 : decode cX12_keepPolynomials 71 = .ok (.iconst 0, 1) := by decide +kernel
theorem dX12_keepPolynomials_72 : decode cX12_keepPolynomials 72 = .ok (.istore 5, 2) := by decide +kernel
theorem dX12_keepPolynomials_74 : decode cX12_keepPolynomials 74 = .ok (.iload 5, 2) := by decide +kernel
theorem dX12_keepPolynomials_76 : decode cX12_keepPolynomials 76 = .ok (.aload_n 0, 1) := by decide +kernel
theorem dX12_keepPolynomials_77 : decode cX12_keepPolynomials 77 = .ok (.aload_n 0, 1) := by decide +kernel
theorem dX12_keepPolynomials_78 : decode cX12_keepPolynomials 78 = .ok (.getfield 68, 3) := by decide +kernel
theorem dX12_keepPolynomials_81 : decode cX12_keepPolynomials 81 = .ok (.iload 4, 2) := by decide +kernel
theorem dX12_keepPolynomials_83 : decode cX12_keepPolynomials 83 = .ok (.iaload, 1) := by decide +kernel
theorem dX12_keepPolynomials_84 : decode cX12_keepPolynomials 84 = .ok (.invokevirtual 80, 3) := by decide +kernel
theorem dX12_keepPolynomials_87 : decode cX12_keepPolynomials 87 = .ok (.if_icmp .gt 47, 3) := by decide +kernel
theorem dX12_keepPolynomials_90 : decode cX12_keepPolynomials 90 = .ok (.aload_n 0, 1) := by decide +kernel
theorem dX12_keepPolynomials_91 : decode cX12_keepPolynomials 91 = .ok (.getfield 7, 3) := by decide +kernel
theorem dX12_keepPolynomials_94 : decode cX12_keepPolynomials 94 = .ok (.aload_n 0, 1) := by decide +kernel
theorem dX12_keepPolynomials_95 : decode cX12_keepPolynomials 95 = .ok (.getfield 68, 3) := by decide +kernel
theorem dX12_keepPolynomials_98 : decode cX12_keepPolynomials 98 = .ok (.iload 4, 2) := by decide +kernel
theorem dX12_keepPolynomials_100 : decode cX12_keepPolynomials 100 = .ok (.iaload, 1) := by decide +kernel
theorem dX12_keepPolynomials_101 : decode cX12_keepPolynomials 101 = .ok (.iconst 1, 1) := by decide +kernel
theorem dX12_keepPolynomials_102 : decode cX12_keepPolynomials 102 = .ok (.iadd, 1) := by decide +kernel
theorem dX12_keepPolynomials_103 : decode cX12_keepPolynomials 103 = .ok (.iload 5, 2) := by decide +kernel
theorem dX12_keepPolynomials_105 : decode cX12_keepPolynomials 105 = .ok (.iadd, 1) := by decide +kernel
theorem dX12_keepPolynomials_106 : decode cX12_keepPolynomials 106 = .ok (.aload_n 0, 1) := by decide +kernel
theorem dX12_keepPolynomials_107 : decode cX12_keepPolynomials 107 = .ok (.getfield 7, 3) := by decide +kernel
theorem dX12_keepPolynomials_110 : decode cX12_keepPolynomials 110 = .ok (.aload_n 0, 1) := by decide +kernel
theorem dX12_keepPolynomials_111 : decode cX12_keepPolynomials 111 = .ok (.getfield 68, 3) := by decide +kernel
theorem dX12_keepPolynomials_114 : decode cX12_keepPolynomials 114 = .ok (.iload 4, 2) := by decide +kernel
theorem dX12_keepPolynomials_116 : decode cX12_keepPolynomials 116 = .ok (.iaload, 1) := by decide +kernel
theorem dX12_keepPolynomials_117 : decode cX12_keepPolynomials 117 = .ok (.iconst 1, 1) := by decide +kernel
theorem dX12_keepPolynomials_118 : decode cX12_keepPolynomials 118 = .ok (.iadd, 1) := by decide +kernel
theorem dX12_keepPolynomials_119 : decode cX12_keepPolynomials 119 = .ok (.iload 5, 2) := by decide +kernel
theorem dX12_keepPolynomials_121 : decode cX12_keepPolynomials 121 = .ok (.iadd, 1) := by decide +kernel
theorem dX12_keepPolynomials_122 : decode cX12_keepPolynomials 122 = .ok (.iaload, 1) := by decide +kernel
theorem dX12_keepPolynomials_123 : decode cX12_keepPolynomials 123 = .ok (.iload_n 3, 1) := by decide +kernel
theorem dX12_keepPolynomials_124 : decode cX12_keepPolynomials 124 = .ok (.isub, 1) := by decide +kernel
theorem dX12_keepPolynomials_125 : decode cX12_keepPolynomials 125 = .ok (.iload_n 1, 1) := by decide +kernel
theorem dX12_keepPolynomials_126 : decode cX12_keepPolynomials 126 = .ok (.iadd, 1) := by decide +kernel
theorem dX12_keepPolynomials_127 : decode cX12_keepPolynomials 127 = .ok (.iastore, 1) := by decide +kernel
theorem dX12_keepPolynomials_128 : decode cX12_keepPolynomials 128 = .ok (.iinc 5 1, 3) := by decide +kernel
theorem dX12_keepPolynomials_131 : decode cX12_keepPolynomials 131 = .ok (.goto (-57), 3) := by decide +kernel
theorem dX12_keepPolynomials_134 : decode cX12_keepPolynomials 134 = .ok (.iinc 4 1, 3) := by decide +kernel
theorem dX12_keepPolynomials_137 : decode cX12_keepPolynomials 137 = .ok (.goto (-90), 3) := by decide +kernel
theorem dX12_keepPolynomials_140 : decode cX12_keepPolynomials 140 = .ok (.return_, 1) := by decide +kernel
theorem dX12_keepPolynomial_0 : decode cX12_keepPolynomial 0 = .ok (.aload_n 0, 1) := by decide +kernel
theorem dX12_keepPolynomial_1 : decode cX12_keepPolynomial 1 = .ok (.getfield 68, 3) := by decide +kernel
theorem dX12_keepPolynomial_4 : decode cX12_keepPolynomial 4 = .ok (.iconst 0, 1) := by decide +kernel
theorem dX12_keepPolynomial_5 : decode cX12_keepPolynomial 5 = .ok (.iload_n 2, 1) := by decide +kernel
theorem dX12_keepPolynomial_6 : decode cX12_keepPolynomial 6 = .ok (.iastore, 1) := by decide +kernel
theorem dX12_keepPolynomial_7 : decode cX12_keepPolynomial 7 = .ok (.aload_n 0, 1) := by decide +kernel
theorem dX12_keepPolynomial_8 : decode cX12_keepPolynomial 8 = .ok (.iload_n 1, 1) := by decide +kernel
theorem dX12_keepPolynomial_9 : decode cX12_keepPolynomial 9 = .ok (.iconst 1, 1) := by decide +kernel
theorem dX12_keepPolynomial_10 : decode cX12_keepPolynomial 10 = .ok (.invokevirtual 95, 3) := by decide +kernel
theorem dX12_keepPolynomial_13 : decode cX12_keepPolynomial 13 = .ok (.aload_n 0, 1) := by decide +kernel
theorem dX12_keepPolynomial_14 : decode cX12_keepPolynomial 14 = .ok (.getfield 68, 3) := by decide +kernel
theorem dX12_keepPolynomial_17 : decode cX12_keepPolynomial 17 = .ok (.iconst 0, 1) := by decide +kernel
theorem dX12_keepPolynomial_18 : decode cX12_keepPolynomial 18 = .ok (.iaload, 1) := by decide +kernel
theorem dX12_keepPolynomial_19 : decode cX12_keepPolynomial 19 = .ok (.ireturn, 1) := by decide +kernel
theorem dX12_least_0 : decode cX12_least 0 = .ok (.aload_n 0, 1) := by decide +kernel
theorem dX12_least_1 : decode cX12_least 1 = .ok (.iload_n 1, 1) := by decide +kernel
theorem dX12_least_2 : decode cX12_least 2 = .ok (.invokevirtual 80, 3) := by decide +kernel
theorem dX12_least_5 : decode cX12_least 5 = .ok (.ifCond .ge 5, 3) := by decide +kernel
theorem dX12_least_8 : decode cX12_least 8 = .ok (.iload_n 1, 1) := by decide +kernel
theorem dX12_least_9 : decode cX12_least 9 = .ok (.ireturn, 1) := by decide +kernel
theorem dX12_least_10 : decode cX12_least 10 = .ok (.aload_n 0, 1) := by decide +kernel
theorem dX12_least_11 : decode cX12_least 11 = .ok (.getfield 11, 3) := by decide +kernel
theorem dX12_least_14 : decode cX12_least 14 = .ok (.istore_n 2, 1) := by decide +kernel
theorem dX12_least_15 : decode cX12_least 15 = .ok (.aload_n 0, 1) := by decide +kernel
theorem dX12_least_16 : decode cX12_least 16 = .ok (.lconst 0, 1) := by decide +kernel
theorem dX12_least_17 : decode cX12_least 17 = .ok (.invokevirtual 41, 3) := by decide +kernel
theorem dX12_least_20 : decode cX12_least 20 = .ok (.istore_n 3, 1) := by decide +kernel
theorem dX12_least_21 : decode cX12_least 21 = .ok (.iconst 0, 1) := by decide +kernel
theorem dX12_least_22 : decode cX12_least 22 = .ok (.istore 4, 2) := by decide +kernel
theorem dX12_least_24 : decode cX12_least 24 = .ok (.iload 4, 2) := by decide +kernel
theorem dX12_least_26 : decode cX12_least 26 = .ok (.aload_n 0, 1) := by decide +kernel
theorem dX12_least_27 : decode cX12_least 27 = .ok (.iload_n 1, 1) := by decide +kernel
theorem dX12_least_28 : decode cX12_least 28 = .ok (.invokevirtual 80, 3) := by decide +kernel
theorem dX12_least_31 : decode cX12_least 31 = .ok (.if_icmp .gt 22, 3) := by decide +kernel
theorem dX12_least_34 : decode cX12_least 34 = .ok (.aload_n 0, 1) := by decide +kernel
theorem dX12_least_35 : decode cX12_least 35 = .ok (.iload_n 3, 1) := by decide +kernel
theorem dX12_least_36 : decode cX12_least 36 = .ok (.aload_n 0, 1) := by decide +kernel
theorem dX12_least_37 : decode cX12_least 37 = .ok (.iload_n 1, 1) := by decide +kernel
theorem dX12_least_38 : decode cX12_least 38 = .ok (.iload 4, 2) := by decide +kernel
theorem dX12_least_40 : decode cX12_least 40 = .ok (.invokevirtual 83, 3) := by decide +kernel
theorem dX12_least_43 : decode cX12_least 43 = .ok (.invokevirtual 104, 3) := by decide +kernel
theorem dX12_least_46 : decode cX12_least 46 = .ok (.istore_n 3, 1) := by decide +kernel
theorem dX12_least_47 : decode cX12_least 47 = .ok (.iinc 4 1, 3) := by decide +kernel
theorem dX12_least_50 : decode cX12_least 50 = .ok (.goto (-26), 3) := by decide +kernel
theorem dX12_least_53 : decode cX12_least 53 = .ok (.aload_n 0, 1) := by decide +kernel
theorem dX12_least_54 : decode cX12_least 54 = .ok (.aload_n 0, 1) := by decide +kernel
theorem dX12_least_55 : decode cX12_least 55 = .ok (.iload_n 1, 1) := by decide +kernel
theorem dX12_least_56 : decode cX12_least 56 = .ok (.invokevirtual 107, 3) := by decide +kernel
theorem dX12_least_59 : decode cX12_least 59 = .ok (.invokevirtual 27, 3) := by decide +kernel
theorem dX12_least_62 : decode cX12_least 62 = .ok (.ifCond .ge 9, 3) := by decide +kernel
theorem dX12_least_65 : decode cX12_least 65 = .ok (.aload_n 0, 1) := by decide +kernel
theorem dX12_least_66 : decode cX12_least 66 = .ok (.iload_n 3, 1) := by decide +kernel
theorem dX12_least_67 : decode cX12_least 67 = .ok (.invokevirtual 34, 3) := by decide +kernel
theorem dX12_least_70 : decode cX12_least 70 = .ok (.istore_n 3, 1) := by decide +kernel
theorem dX12_least_71 : decode cX12_least 71 = .ok (.aload_n 0, 1) := by decide +kernel
theorem dX12_least_72 : decode cX12_least 72 = .ok (.iload_n 1, 1) := by decide +kernel
theorem dX12_least_73 : decode cX12_least 73 = .ok (.invokevirtual 80, 3) := by decide +kernel
theorem dX12_least_76 : decode cX12_least 76 = .ok (.iconst 1, 1) := by decide +kernel
theorem dX12_least_77 : decode cX12_least 77 = .ok (.iadd, 1) := by decide +kernel
theorem dX12_least_78 : decode cX12_least 78 = .ok (.istore 4, 2) := by decide +kernel
theorem dX12_least_80 : decode cX12_least 80 = .ok (.aload_n 0, 1) := by decide +kernel
theorem dX12_least_81 : decode cX12_least 81 = .ok (.iload_n 1, 1) := by decide +kernel
theorem dX12_least_82 : decode cX12_least 82 = .ok (.invokevirtual 80, 3) := by decide +kernel
theorem dX12_least_85 : decode cX12_least 85 = .ok (.istore 5, 2) := by decide +kernel
theorem dX12_least_87 : decode cX12_least 87 = .ok (.iconst 0, 1) := by decide +kernel
theorem dX12_least_88 : decode cX12_least 88 = .ok (.istore 6, 2) := by decide +kernel
theorem dX12_least_90 : decode cX12_least 90 = .ok (.iload 6, 2) := by decide +kernel
theorem dX12_least_92 : decode cX12_least 92 = .ok (.iload 4, 2) := by decide +kernel
theorem dX12_least_94 : decode cX12_least 94 = .ok (.if_icmp .ge 28, 3) := by decide +kernel
theorem dX12_least_97 : decode cX12_least 97 = .ok (.aload_n 0, 1) := by decide +kernel
theorem dX12_least_98 : decode cX12_least 98 = .ok (.getfield 86, 3) := by decide +kernel
theorem dX12_least_101 : decode cX12_least 101 = .ok (.iload 6, 2) := by decide +kernel
theorem dX12_least_103 : decode cX12_least 103 = .ok (.aload_n 0, 1) := by decide +kernel
theorem dX12_least_104 : decode cX12_least 104 = .ok (.aload_n 0, 1) := by decide +kernel
theorem dX12_least_105 : decode cX12_least 105 = .ok (.iload_n 1, 1) := by decide +kernel
theorem dX12_least_106 : decode cX12_least 106 = .ok (.iload 6, 2) := by decide +kernel
theorem dX12_least_108 : decode cX12_least 108 = .ok (.invokevirtual 83, 3) := by decide +kernel
theorem dX12_least_111 : decode cX12_least 111 = .ok (.iload_n 3, 1) := by decide +kernel
theorem dX12_least_112 : decode cX12_least 112 = .ok (.invokevirtual 110, 3) := by decide +kernel
theorem dX12_least_115 : decode cX12_least 115 = .ok (.iastore, 1) := by decide +kernel
theorem dX12_least_116 : decode cX12_least 116 = .ok (.iinc 6 1, 3) := by decide +kernel
theorem dX12_least_119 : decode cX12_least 119 = .ok (.goto (-29), 3) := by decide +kernel
theorem dX12_least_122 : decode cX12_least 122 = .ok (.aload_n 0, 1) := by decide +kernel
theorem dX12_least_123 : decode cX12_least 123 = .ok (.iload_n 2, 1) := by decide +kernel
theorem dX12_least_124 : decode cX12_least 124 = .ok (.aload_n 0, 1) := by decide +kernel
theorem dX12_least_125 : decode cX12_least 125 = .ok (.iload 4, 2) := by decide +kernel
theorem dX12_least_127 : decode cX12_least 127 = .ok (.invokevirtual 89, 3) := by decide +kernel
theorem dX12_least_130 : decode cX12_least 130 = .ok (.invokevirtual 113, 3) := by decide +kernel
theorem dX12_least_133 : decode cX12_least 133 = .ok (.ireturn, 1) := by decide +kernel
theorem dX12_save_0 : decode cX12_save 0 = .ok (.aload_n 0, 1) := by decide +kernel
theorem dX12_save_1 : decode cX12_save 1 = .ok (.getfield 277, 3) := by decide +kernel
theorem dX12_save_4 : decode cX12_save 4 = .ok (.iload_n 1, 1) := by decide +kernel
theorem dX12_save_5 : decode cX12_save 5 = .ok (.aload_n 0, 1) := by decide +kernel
theorem dX12_save_6 : decode cX12_save 6 = .ok (.iload_n 2, 1) := by decide +kernel
theorem dX12_save_7 : decode cX12_save 7 = .ok (.invokevirtual 80, 3) := by decide +kernel
theorem dX12_save_10 : decode cX12_save 10 = .ok (.iastore, 1) := by decide +kernel
theorem dX12_save_11 : decode cX12_save 11 = .ok (.iconst 0, 1) := by decide +kernel
theorem dX12_save_12 : decode cX12_save 12 = .ok (.istore_n 3, 1) := by decide +kernel
theorem dX12_save_13 : decode cX12_save 13 = .ok (.iload_n 3, 1) := by decide +kernel
theorem dX12_save_14 : decode cX12_save 14 = .ok (.aload_n 0, 1) := by decide +kernel
theorem dX12_save_15 : decode cX12_save 15 = .ok (.iload_n 2, 1) := by decide +kernel
theorem dX12_save_16 : decode cX12_save 16 = .ok (.invokevirtual 80, 3) := by decide +kernel
theorem dX12_save_19 : decode cX12_save 19 = .ok (.if_icmp .gt 68, 3) := by decide +kernel
theorem dX12_save_22 : decode cX12_save 22 = .ok (.aload_n 0, 1) := by decide +kernel
theorem dX12_save_23 : decode cX12_save 23 = .ok (.iload_n 2, 1) := by decide +kernel
theorem dX12_save_24 : decode cX12_save 24 = .ok (.iload_n 3, 1) := by decide +kernel
theorem dX12_save_25 : decode cX12_save 25 = .ok (.invokevirtual 83, 3) := by decide +kernel
theorem dX12_save_28 : decode cX12_save 28 = .ok (.istore 4, 2) := by decide +kernel
theorem dX12_save_30 : decode cX12_save 30 = .ok (.bipush 21, 2) := by decide +kernel
theorem dX12_save_32 : decode cX12_save 32 = .ok (.bipush 13, 2) := by decide +kernel
theorem dX12_save_34 : decode cX12_save 34 = .ok (.iload_n 1, 1) := by decide +kernel
theorem dX12_save_35 : decode cX12_save 35 = .ok (.imul, 1) := by decide +kernel
theorem dX12_save_36 : decode cX12_save 36 = .ok (.iload_n 3, 1) := by decide +kernel
theorem dX12_save_37 : decode cX12_save 37 = .ok (.iadd, 1) := by decide +kernel
theorem dX12_save_38 : decode cX12_save 38 = .ok (.imul, 1) := by decide +kernel
theorem dX12_save_39 : decode cX12_save 39 = .ok (.istore 5, 2) := by decide +kernel
theorem dX12_save_41 : decode cX12_save 41 = .ok (.iconst 0, 1) := by decide +kernel
theorem dX12_save_42 : decode cX12_save 42 = .ok (.istore 6, 2) := by decide +kernel
theorem dX12_save_44 : decode cX12_save 44 = .ok (.iload 6, 2) := by decide +kernel
theorem dX12_save_46 : decode cX12_save 46 = .ok (.aload_n 0, 1) := by decide +kernel
theorem dX12_save_47 : decode cX12_save 47 = .ok (.iload 4, 2) := by decide +kernel
theorem dX12_save_49 : decode cX12_save 49 = .ok (.invokevirtual 20, 3) := by decide +kernel
theorem dX12_save_52 : decode cX12_save 52 = .ok (.if_icmp .gt 29, 3) := by decide +kernel
theorem dX12_save_55 : decode cX12_save 55 = .ok (.aload_n 0, 1) := by decide +kernel
theorem dX12_save_56 : decode cX12_save 56 = .ok (.getfield 280, 3) := by decide +kernel
theorem dX12_save_59 : decode cX12_save 59 = .ok (.iload 5, 2) := by decide +kernel
theorem dX12_save_61 : decode cX12_save 61 = .ok (.iload 6, 2) := by decide +kernel
theorem dX12_save_63 : decode cX12_save 63 = .ok (.iadd, 1) := by decide +kernel
theorem dX12_save_64 : decode cX12_save 64 = .ok (.aload_n 0, 1) := by decide +kernel
theorem dX12_save_65 : decode cX12_save 65 = .ok (.getfield 7, 3) := by decide +kernel
theorem dX12_save_68 : decode cX12_save 68 = .ok (.iload 4, 2) := by decide +kernel
theorem dX12_save_70 : decode cX12_save 70 = .ok (.iload 6, 2) := by decide +kernel
theorem dX12_save_72 : decode cX12_save 72 = .ok (.iadd, 1) := by decide +kernel
theorem dX12_save_73 : decode cX12_save 73 = .ok (.iaload, 1) := by decide +kernel
theorem dX12_save_74 : decode cX12_save 74 = .ok (.iastore, 1) := by decide +kernel
theorem dX12_save_75 : decode cX12_save 75 = .ok (.iinc 6 1, 3) := by decide +kernel
theorem dX12_save_78 : decode cX12_save 78 = .ok (.goto (-34), 3) := by decide +kernel
theorem dX12_save_81 : decode cX12_save 81 = .ok (.iinc 3 1, 3) := by decide +kernel
theorem dX12_save_84 : decode cX12_save 84 = .ok (.goto (-71), 3) := by decide +kernel
theorem dX12_save_87 : decode cX12_save 87 = .ok (.return_, 1) := by decide +kernel
theorem dX12_clear_0 : decode cX12_clear 0 = .ok (.aload_n 0, 1) := by decide +kernel
theorem dX12_clear_1 : decode cX12_clear 1 = .ok (.iconst 0, 1) := by decide +kernel
theorem dX12_clear_2 : decode cX12_clear 2 = .ok (.putfield 11, 3) := by decide +kernel
theorem dX12_clear_5 : decode cX12_clear 5 = .ok (.return_, 1) := by decide +kernel
theorem dX12_isGreat_0 : decode cX12_isGreat 0 = .ok (.iconst 0, 1) := by decide +kernel
theorem dX12_isGreat_1 : decode cX12_isGreat 1 = .ok (.istore_n 2, 1) := by decide +kernel
theorem dX12_isGreat_2 : decode cX12_isGreat 2 = .ok (.iload_n 2, 1) := by decide +kernel
theorem dX12_isGreat_3 : decode cX12_isGreat 3 = .ok (.aload_n 0, 1) := by decide +kernel
theorem dX12_isGreat_4 : decode cX12_isGreat 4 = .ok (.iload_n 1, 1) := by decide +kernel
theorem dX12_isGreat_5 : decode cX12_isGreat 5 = .ok (.invokevirtual 80, 3) := by decide +kernel
theorem dX12_isGreat_8 : decode cX12_isGreat 8 = .ok (.if_icmp .gt 26, 3) := by decide +kernel
theorem dX12_isGreat_11 : decode cX12_isGreat 11 = .ok (.aload_n 0, 1) := by decide +kernel
theorem dX12_isGreat_12 : decode cX12_isGreat 12 = .ok (.aload_n 0, 1) := by decide +kernel
theorem dX12_isGreat_13 : decode cX12_isGreat 13 = .ok (.iload_n 1, 1) := by decide +kernel
theorem dX12_isGreat_14 : decode cX12_isGreat 14 = .ok (.iload_n 2, 1) := by decide +kernel
theorem dX12_isGreat_15 : decode cX12_isGreat 15 = .ok (.invokevirtual 83, 3) := by decide +kernel
theorem dX12_isGreat_18 : decode cX12_isGreat 18 = .ok (.invokevirtual 143, 3) := by decide +kernel
theorem dX12_isGreat_21 : decode cX12_isGreat 21 = .ok (.bipush 120, 2) := by decide +kernel
theorem dX12_isGreat_23 : decode cX12_isGreat 23 = .ok (.if_icmp .le 5, 3) := by decide +kernel
theorem dX12_isGreat_26 : decode cX12_isGreat 26 = .ok (.iconst 1, 1) := by decide +kernel
theorem dX12_isGreat_27 : decode cX12_isGreat 27 = .ok (.ireturn, 1) := by decide +kernel
theorem dX12_isGreat_28 : decode cX12_isGreat 28 = .ok (.iinc 2 1, 3) := by decide +kernel
theorem dX12_isGreat_31 : decode cX12_isGreat 31 = .ok (.goto (-29), 3) := by decide +kernel
theorem dX12_isGreat_34 : decode cX12_isGreat 34 = .ok (.aload_n 0, 1) := by decide +kernel
theorem dX12_isGreat_35 : decode cX12_isGreat 35 = .ok (.iload_n 1, 1) := by decide +kernel
theorem dX12_isGreat_36 : decode cX12_isGreat 36 = .ok (.invokevirtual 80, 3) := by decide +kernel
theorem dX12_isGreat_39 : decode cX12_isGreat 39 = .ok (.aload_n 0, 1) := by decide +kernel
theorem dX12_isGreat_40 : decode cX12_isGreat 40 = .ok (.getfield 283, 3) := by decide +kernel
theorem dX12_isGreat_43 : decode cX12_isGreat 43 = .ok (.if_icmp .le 7, 3) := by decide +kernel
theorem dX12_isGreat_46 : decode cX12_isGreat 46 = .ok (.iconst 1, 1) := by decide +kernel
theorem dX12_isGreat_47 : decode cX12_isGreat 47 = .ok (.goto 4, 3) := by decide +kernel
theorem dX12_isGreat_50 : decode cX12_isGreat 50 = .ok (.iconst 0, 1) := by decide +kernel
theorem dX12_isGreat_51 : decode cX12_isGreat 51 = .ok (.ireturn, 1) := by decide +kernel
theorem dX12_put_0 : decode cX12_put 0 = .ok (.aload_n 0, 1) := by decide +kernel
theorem dX12_put_1 : decode cX12_put 1 = .ok (.iload_n 2, 1) := by decide +kernel
theorem dX12_put_2 : decode cX12_put 2 = .ok (.invokevirtual 286, 3) := by decide +kernel
theorem dX12_put_5 : decode cX12_put 5 = .ok (.ifCond .eq 6, 3) := by decide +kernel
theorem dX12_put_8 : decode cX12_put 8 = .ok (.bipush (-105), 2) := by decide +kernel
theorem dX12_put_10 : decode cX12_put 10 = .ok (.ireturn, 1) := by decide +kernel
theorem dX12_put_11 : decode cX12_put 11 = .ok (.aload_n 0, 1) := by decide +kernel
theorem dX12_put_12 : decode cX12_put 12 = .ok (.iload_n 1, 1) := by decide +kernel
theorem dX12_put_13 : decode cX12_put 13 = .ok (.iload_n 2, 1) := by decide +kernel
theorem dX12_put_14 : decode cX12_put 14 = .ok (.invokevirtual 289, 3) := by decide +kernel
theorem dX12_put_17 : decode cX12_put 17 = .ok (.aload_n 0, 1) := by decide +kernel
theorem dX12_put_18 : decode cX12_put 18 = .ok (.getfield 292, 3) := by decide +kernel
theorem dX12_put_21 : decode cX12_put 21 = .ok (.iload_n 1, 1) := by decide +kernel
theorem dX12_put_22 : decode cX12_put 22 = .ok (.iload_n 3, 1) := by decide +kernel
theorem dX12_put_23 : decode cX12_put 23 = .ok (.iastore, 1) := by decide +kernel
theorem dX12_put_24 : decode cX12_put 24 = .ok (.iconst 0, 1) := by decide +kernel
theorem dX12_put_25 : decode cX12_put 25 = .ok (.ireturn, 1) := by decide +kernel
theorem dX12_putFraction_0 : decode cX12_putFraction 0 = .ok (.aload_n 0, 1) := by decide +kernel
theorem dX12_putFraction_1 : decode cX12_putFraction 1 = .ok (.iload_n 2, 1) := by decide +kernel
theorem dX12_putFraction_2 : decode cX12_putFraction 2 = .ok (.iload_n 3, 1) := by decide +kernel
theorem dX12_putFraction_3 : decode cX12_putFraction 3 = .ok (.invokevirtual 104, 3) := by decide +kernel
theorem dX12_putFraction_6 : decode cX12_putFraction 6 = .ok (.istore 4, 2) := by decide +kernel
theorem dX12_putFraction_8 : decode cX12_putFraction 8 = .ok (.aload_n 0, 1) := by decide +kernel
theorem dX12_putFraction_9 : decode cX12_putFraction 9 = .ok (.iload_n 2, 1) := by decide +kernel
theorem dX12_putFraction_10 : decode cX12_putFraction 10 = .ok (.iload 4, 2) := by decide +kernel
theorem dX12_putFraction_12 : decode cX12_putFraction 12 = .ok (.invokevirtual 110, 3) := by decide +kernel
theorem dX12_putFraction_15 : decode cX12_putFraction 15 = .ok (.istore 5, 2) := by decide +kernel
theorem dX12_putFraction_17 : decode cX12_putFraction 17 = .ok (.aload_n 0, 1) := by decide +kernel
theorem dX12_putFraction_18 : decode cX12_putFraction 18 = .ok (.iload_n 3, 1) := by decide +kernel
theorem dX12_putFraction_19 : decode cX12_putFraction 19 = .ok (.iload 4, 2) := by decide +kernel
theorem dX12_putFraction_21 : decode cX12_putFraction 21 = .ok (.invokevirtual 110, 3) := by decide +kernel
theorem dX12_putFraction_24 : decode cX12_putFraction 24 = .ok (.istore 6, 2) := by decide +kernel
theorem dX12_putFraction_26 : decode cX12_putFraction 26 = .ok (.aload_n 0, 1) := by decide +kernel
theorem dX12_putFraction_27 : decode cX12_putFraction 27 = .ok (.getfield 86, 3) := by decide +kernel
theorem dX12_putFraction_30 : decode cX12_putFraction 30 = .ok (.iconst 0, 1) := by decide +kernel
theorem dX12_putFraction_31 : decode cX12_putFraction 31 = .ok (.aload_n 0, 1) := by decide +kernel
theorem dX12_putFraction_32 : decode cX12_putFraction 32 = .ok (.iload 6, 2) := by decide +kernel
theorem dX12_putFraction_34 : decode cX12_putFraction 34 = .ok (.invokevirtual 27, 3) := by decide +kernel
theorem dX12_putFraction_37 : decode cX12_putFraction 37 = .ok (.ifCond .ge 8, 3) := by decide +kernel
theorem dX12_putFraction_40 : decode cX12_putFraction 40 = .ok (.iload 5, 2) := by decide +kernel
theorem dX12_putFraction_42 : decode cX12_putFraction 42 = .ok (.goto 9, 3) := by decide +kernel
theorem dX12_putFraction_45 : decode cX12_putFraction 45 = .ok (.aload_n 0, 1) := by decide +kernel
theorem dX12_putFraction_46 : decode cX12_putFraction 46 = .ok (.iload 5, 2) := by decide +kernel
theorem dX12_putFraction_48 : decode cX12_putFraction 48 = .ok (.invokevirtual 34, 3) := by decide +kernel
theorem dX12_putFraction_51 : decode cX12_putFraction 51 = .ok (.iastore, 1) := by decide +kernel
theorem dX12_putFraction_52 : decode cX12_putFraction 52 = .ok (.aload_n 0, 1) := by decide +kernel
theorem dX12_putFraction_53 : decode cX12_putFraction 53 = .ok (.getfield 86, 3) := by decide +kernel
theorem dX12_putFraction_56 : decode cX12_putFraction 56 = .ok (.iconst 1, 1) := by decide +kernel
theorem dX12_putFraction_57 : decode cX12_putFraction 57 = .ok (.aload_n 0, 1) := by decide +kernel
theorem dX12_putFraction_58 : decode cX12_putFraction 58 = .ok (.iload 6, 2) := by decide +kernel
theorem dX12_putFraction_60 : decode cX12_putFraction 60 = .ok (.invokevirtual 27, 3) := by decide +kernel
theorem dX12_putFraction_63 : decode cX12_putFraction 63 = .ok (.ifCond .ge 12, 3) := by decide +kernel
theorem dX12_putFraction_66 : decode cX12_putFraction 66 = .ok (.aload_n 0, 1) := by decide +kernel
theorem dX12_putFraction_67 : decode cX12_putFraction 67 = .ok (.iload 6, 2) := by decide +kernel
theorem dX12_putFraction_69 : decode cX12_putFraction 69 = .ok (.invokevirtual 34, 3) := by decide +kernel
theorem dX12_putFraction_72 : decode cX12_putFraction 72 = .ok (.goto 5, 3) := by decide +kernel
theorem dX12_putFraction_75 : decode cX12_putFraction 75 = .ok (.iload 6, 2) := by decide +kernel
theorem dX12_putFraction_77 : decode cX12_putFraction 77 = .ok (.iastore, 1) := by decide +kernel
theorem dX12_putFraction_78 : decode cX12_putFraction 78 = .ok (.aload_n 0, 1) := by decide +kernel
theorem dX12_putFraction_79 : decode cX12_putFraction 79 = .ok (.iload_n 1, 1) := by decide +kernel
theorem dX12_putFraction_80 : decode cX12_putFraction 80 = .ok (.aload_n 0, 1) := by decide +kernel
theorem dX12_putFraction_81 : decode cX12_putFraction 81 = .ok (.iconst 2, 1) := by decide +kernel
theorem dX12_putFraction_82 : decode cX12_putFraction 82 = .ok (.invokevirtual 89, 3) := by decide +kernel
theorem dX12_putFraction_85 : decode cX12_putFraction 85 = .ok (.iconst 0, 1) := by decide +kernel
theorem dX12_putFraction_86 : decode cX12_putFraction 86 = .ok (.invokevirtual 295, 3) := by decide +kernel
theorem dX12_putFraction_89 : decode cX12_putFraction 89 = .ok (.ireturn, 1) := by decide +kernel
theorem dX12_divisorOf_0 : decode cX12_divisorOf 0 = .ok (.lload_n 0, 1) := by decide +kernel
theorem dX12_divisorOf_1 : decode cX12_divisorOf 1 = .ok (.lstore 4, 2) := by decide +kernel
theorem dX12_divisorOf_3 : decode cX12_divisorOf 3 = .ok (.lload_n 2, 1) := by decide +kernel
theorem dX12_divisorOf_4 : decode cX12_divisorOf 4 = .ok (.lstore 6, 2) := by decide +kernel
theorem dX12_divisorOf_6 : decode cX12_divisorOf 6 = .ok (.lload 6, 2) := by decide +kernel
theorem dX12_divisorOf_8 : decode cX12_divisorOf 8 = .ok (.lconst 0, 1) := by decide +kernel
theorem dX12_divisorOf_9 : decode cX12_divisorOf 9 = .ok (.lcmp, 1) := by decide +kernel
theorem dX12_divisorOf_10 : decode cX12_divisorOf 10 = .ok (.ifCond .eq 21, 3) := by decide +kernel
theorem dX12_divisorOf_13 : decode cX12_divisorOf 13 = .ok (.lload 4, 2) := by decide +kernel
theorem dX12_divisorOf_15 : decode cX12_divisorOf 15 = .ok (.lload 6, 2) := by decide +kernel
theorem dX12_divisorOf_17 : decode cX12_divisorOf 17 = .ok (.lrem, 1) := by decide +kernel
theorem dX12_divisorOf_18 : decode cX12_divisorOf 18 = .ok (.lstore 8, 2) := by decide +kernel
theorem dX12_divisorOf_20 : decode cX12_divisorOf 20 = .ok (.lload 6, 2) := by decide +kernel
theorem dX12_divisorOf_22 : decode cX12_divisorOf 22 = .ok (.lstore 4, 2) := by decide +kernel
theorem dX12_divisorOf_24 : decode cX12_divisorOf 24 = .ok (.lload 8, 2) := by decide +kernel
theorem dX12_divisorOf_26 : decode cX12_divisorOf 26 = .ok (.lstore 6, 2) := by decide +kernel
theorem dX12_divisorOf_28 : decode cX12_divisorOf 28 = .ok (.goto (-22), 3) := by decide +kernel
theorem dX12_divisorOf_31 : decode cX12_divisorOf 31 = .ok (.lload 4, 2) := by decide +kernel
theorem dX12_divisorOf_33 : decode cX12_divisorOf 33 = .ok (.lreturn, 1) := by decide +kernel
theorem dX12_coprime_0 : decode cX12_coprime 0 = .ok (.iconst 0, 1) := by decide +kernel
theorem dX12_coprime_1 : decode cX12_coprime 1 = .ok (.istore_n 1, 1) := by decide +kernel
theorem dX12_coprime_2 : decode cX12_coprime 2 = .ok (.iconst 1, 1) := by decide +kernel
theorem dX12_coprime_3 : decode cX12_coprime 3 = .ok (.istore_n 2, 1) := by decide +kernel
theorem dX12_coprime_4 : decode cX12_coprime 4 = .ok (.iload_n 2, 1) := by decide +kernel
theorem dX12_coprime_5 : decode cX12_coprime 5 = .ok (.iload_n 0, 1) := by decide +kernel
theorem dX12_coprime_6 : decode cX12_coprime 6 = .ok (.if_icmp .gt 29, 3) := by decide +kernel
theorem dX12_coprime_9 : decode cX12_coprime 9 = .ok (.iload_n 1, 1) := by decide +kernel
theorem dX12_coprime_10 : decode cX12_coprime 10 = .ok (.iload_n 2, 1) := by decide +kernel
theorem dX12_coprime_11 : decode cX12_coprime 11 = .ok (.i2l, 1) := by decide +kernel
theorem dX12_coprime_12 : decode cX12_coprime 12 = .ok (.iload_n 0, 1) := by decide +kernel
theorem dX12_coprime_13 : decode cX12_coprime 13 = .ok (.i2l, 1) := by decide +kernel
theorem dX12_coprime_14 : decode cX12_coprime 14 = .ok (.invokestatic 481, 3) := by decide +kernel
theorem dX12_coprime_17 : decode cX12_coprime 17 = .ok (.lconst 1, 1) := by decide +kernel
theorem dX12_coprime_18 : decode cX12_coprime 18 = .ok (.lcmp, 1) := by decide +kernel
theorem dX12_coprime_19 : decode cX12_coprime 19 = .ok (.ifCond .ne 7, 3) := by decide +kernel
theorem dX12_coprime_22 : decode cX12_coprime 22 = .ok (.iconst 1, 1) := by decide +kernel
theorem dX12_coprime_23 : decode cX12_coprime 23 = .ok (.goto 4, 3) := by decide +kernel
theorem dX12_coprime_26 : decode cX12_coprime 26 = .ok (.iconst 0, 1) := by decide +kernel
theorem dX12_coprime_27 : decode cX12_coprime 27 = .ok (.iadd, 1) := by decide +kernel
theorem dX12_coprime_28 : decode cX12_coprime 28 = .ok (.istore_n 1, 1) := by decide +kernel
theorem dX12_coprime_29 : decode cX12_coprime 29 = .ok (.iinc 2 1, 3) := by decide +kernel
theorem dX12_coprime_32 : decode cX12_coprime 32 = .ok (.goto (-28), 3) := by decide +kernel
theorem dX12_coprime_35 : decode cX12_coprime 35 = .ok (.iload_n 1, 1) := by decide +kernel
theorem dX12_coprime_36 : decode cX12_coprime 36 = .ok (.ireturn, 1) := by decide +kernel
theorem dX12_makeCycle_0 : decode cX12_makeCycle 0 = .ok (.iconst 0, 1) := by decide +kernel
theorem dX12_makeCycle_1 : decode cX12_makeCycle 1 = .ok (.istore_n 2, 1) := by decide +kernel
theorem dX12_makeCycle_2 : decode cX12_makeCycle 2 = .ok (.iload_n 2, 1) := by decide +kernel
theorem dX12_makeCycle_3 : decode cX12_makeCycle 3 = .ok (.sipush 140, 3) := by decide +kernel
theorem dX12_makeCycle_6 : decode cX12_makeCycle 6 = .ok (.if_icmp .ge 16, 3) := by decide +kernel
theorem dX12_makeCycle_9 : decode cX12_makeCycle 9 = .ok (.aload_n 0, 1) := by decide +kernel
theorem dX12_makeCycle_10 : decode cX12_makeCycle 10 = .ok (.getfield 485, 3) := by decide +kernel
theorem dX12_makeCycle_13 : decode cX12_makeCycle 13 = .ok (.iload_n 2, 1) := by decide +kernel
theorem dX12_makeCycle_14 : decode cX12_makeCycle 14 = .ok (.lconst 0, 1) := by decide +kernel
theorem dX12_makeCycle_15 : decode cX12_makeCycle 15 = .ok (.lastore, 1) := by decide +kernel
theorem dX12_makeCycle_16 : decode cX12_makeCycle 16 = .ok (.iinc 2 1, 3) := by decide +kernel
theorem dX12_makeCycle_19 : decode cX12_makeCycle 19 = .ok (.goto (-17), 3) := by decide +kernel
theorem dX12_makeCycle_22 : decode cX12_makeCycle 22 = .ok (.aload_n 0, 1) := by decide +kernel
theorem dX12_makeCycle_23 : decode cX12_makeCycle 23 = .ok (.getfield 485, 3) := by decide +kernel
theorem dX12_makeCycle_26 : decode cX12_makeCycle 26 = .ok (.iconst 0, 1) := by decide +kernel
theorem dX12_makeCycle_27 : decode cX12_makeCycle 27 = .ok (.lconst 1, 1) := by decide +kernel
theorem dX12_makeCycle_28 : decode cX12_makeCycle 28 = .ok (.lastore, 1) := by decide +kernel
theorem dX12_makeCycle_29 : decode cX12_makeCycle 29 = .ok (.iconst 0, 1) := by decide +kernel
theorem dX12_makeCycle_30 : decode cX12_makeCycle 30 = .ok (.istore_n 2, 1) := by decide +kernel
theorem dX12_makeCycle_31 : decode cX12_makeCycle 31 = .ok (.iconst 0, 1) := by decide +kernel
theorem dX12_makeCycle_32 : decode cX12_makeCycle 32 = .ok (.istore_n 3, 1) := by decide +kernel
theorem dX12_makeCycle_33 : decode cX12_makeCycle 33 = .ok (.iload_n 3, 1) := by decide +kernel
theorem dX12_makeCycle_34 : decode cX12_makeCycle 34 = .ok (.iconst 2, 1) := by decide +kernel
theorem dX12_makeCycle_35 : decode cX12_makeCycle 35 = .ok (.if_icmp .ge 246, 3) := by decide +kernel
theorem dX12_makeCycle_38 : decode cX12_makeCycle 38 = .ok (.iconst 1, 1) := by decide +kernel
theorem dX12_makeCycle_39 : decode cX12_makeCycle 39 = .ok (.istore 4, 2) := by decide +kernel
theorem dX12_makeCycle_41 : decode cX12_makeCycle 41 = .ok (.iload 4, 2) := by decide +kernel
theorem dX12_makeCycle_43 : decode cX12_makeCycle 43 = .ok (.iload_n 1, 1) := by decide +kernel
theorem dX12_makeCycle_44 : decode cX12_makeCycle 44 = .ok (.if_icmp .gt 231, 3) := by decide +kernel
theorem dX12_makeCycle_47 : decode cX12_makeCycle 47 = .ok (.iload_n 1, 1) := by decide +kernel
theorem dX12_makeCycle_48 : decode cX12_makeCycle 48 = .ok (.iload 4, 2) := by decide +kernel
theorem dX12_makeCycle_50 : decode cX12_makeCycle 50 = .ok (.irem, 1) := by decide +kernel
theorem dX12_makeCycle_51 : decode cX12_makeCycle 51 = .ok (.ifCond .ne 13, 3) := by decide +kernel
theorem dX12_makeCycle_54 : decode cX12_makeCycle 54 = .ok (.iload_n 1, 1) := by decide +kernel
theorem dX12_makeCycle_55 : decode cX12_makeCycle 55 = .ok (.iload 4, 2) := by decide +kernel
theorem dX12_makeCycle_57 : decode cX12_makeCycle 57 = .ok (.idiv, 1) := by decide +kernel
theorem dX12_makeCycle_58 : decode cX12_makeCycle 58 = .ok (.invokestatic 489, 3) := by decide +kernel
theorem dX12_makeCycle_61 : decode cX12_makeCycle 61 = .ok (.goto 4, 3) := by decide +kernel
theorem dX12_makeCycle_64 : decode cX12_makeCycle 64 = .ok (.iconst 0, 1) := by decide +kernel
theorem dX12_makeCycle_65 : decode cX12_makeCycle 65 = .ok (.istore 5, 2) := by decide +kernel
theorem dX12_makeCycle_67 : decode cX12_makeCycle 67 = .ok (.iload_n 3, 1) := by decide +kernel
theorem dX12_makeCycle_68 : decode cX12_makeCycle 68 = .ok (.ifCond .ne 67, 3) := by decide +kernel
theorem dX12_makeCycle_71 : decode cX12_makeCycle 71 = .ok (.iload 5, 2) := by decide +kernel
theorem dX12_makeCycle_73 : decode cX12_makeCycle 73 = .ok (.iconst 1, 1) := by decide +kernel
theorem dX12_makeCycle_74 : decode cX12_makeCycle 74 = .ok (.if_icmp .ne 61, 3) := by decide +kernel
theorem dX12_makeCycle_77 : decode cX12_makeCycle 77 = .ok (.iload_n 2, 1) := by decide +kernel
theorem dX12_makeCycle_78 : decode cX12_makeCycle 78 = .ok (.iload 4, 2) := by decide +kernel
theorem dX12_makeCycle_80 : decode cX12_makeCycle 80 = .ok (.iadd, 1) := by decide +kernel
theorem dX12_makeCycle_81 : decode cX12_makeCycle 81 = .ok (.istore 6, 2) := by decide +kernel
theorem dX12_makeCycle_83 : decode cX12_makeCycle 83 = .ok (.iload 6, 2) := by decide +kernel
theorem dX12_makeCycle_85 : decode cX12_makeCycle 85 = .ok (.ifCond .lt 45, 3) := by decide +kernel
theorem dX12_makeCycle_88 : decode cX12_makeCycle 88 = .ok (.aload_n 0, 1) := by decide +kernel
theorem dX12_makeCycle_89 : decode cX12_makeCycle 89 = .ok (.getfield 485, 3) := by decide +kernel
theorem dX12_makeCycle_92 : decode cX12_makeCycle 92 = .ok (.iload 6, 2) := by decide +kernel
theorem dX12_makeCycle_94 : decode cX12_makeCycle 94 = .ok (.iload 6, 2) := by decide +kernel
theorem dX12_makeCycle_96 : decode cX12_makeCycle 96 = .ok (.iload 4, 2) := by decide +kernel
theorem dX12_makeCycle_98 : decode cX12_makeCycle 98 = .ok (.if_icmp .lt 16, 3) := by decide +kernel
theorem dX12_makeCycle_101 : decode cX12_makeCycle 101 = .ok (.aload_n 0, 1) := by decide +kernel
theorem dX12_makeCycle_102 : decode cX12_makeCycle 102 = .ok (.getfield 485, 3) := by decide +kernel
theorem dX12_makeCycle_105 : decode cX12_makeCycle 105 = .ok (.iload 6, 2) := by decide +kernel
theorem dX12_makeCycle_107 : decode cX12_makeCycle 107 = .ok (.iload 4, 2) := by decide +kernel
theorem dX12_makeCycle_109 : decode cX12_makeCycle 109 = .ok (.isub, 1) := by decide +kernel
theorem dX12_makeCycle_110 : decode cX12_makeCycle 110 = .ok (.laload, 1) := by decide +kernel
theorem dX12_makeCycle_111 : decode cX12_makeCycle 111 = .ok (.goto 4, 3) := by decide +kernel
theorem dX12_makeCycle_114 : decode cX12_makeCycle 114 = .ok (.lconst 0, 1) := by decide +kernel
theorem dX12_makeCycle_115 : decode cX12_makeCycle 115 = .ok (.aload_n 0, 1) := by decide +kernel
theorem dX12_makeCycle_116 : decode cX12_makeCycle 116 = .ok (.getfield 485, 3) := by decide +kernel
theorem dX12_makeCycle_119 : decode cX12_makeCycle 119 = .ok (.iload 6, 2) := by decide +kernel
theorem dX12_makeCycle_121 : decode cX12_makeCycle 121 = .ok (.laload, 1) := by decide +kernel
theorem dX12_makeCycle_122 : decode cX12_makeCycle 122 = .ok (.lsub, 1) := by decide +kernel
theorem dX12_makeCycle_123 : decode cX12_makeCycle 123 = .ok (.lastore, 1) := by decide +kernel
theorem dX12_makeCycle_124 : decode cX12_makeCycle 124 = .ok (.iinc 6 (-1), 3) := by decide +kernel
theorem dX12_makeCycle_127 : decode cX12_makeCycle 127 = .ok (.goto (-44), 3) := by decide +kernel
theorem dX12_makeCycle_130 : decode cX12_makeCycle 130 = .ok (.iload_n 2, 1) := by decide +kernel
theorem dX12_makeCycle_131 : decode cX12_makeCycle 131 = .ok (.iload 4, 2) := by decide +kernel
theorem dX12_makeCycle_133 : decode cX12_makeCycle 133 = .ok (.iadd, 1) := by decide +kernel
theorem dX12_makeCycle_134 : decode cX12_makeCycle 134 = .ok (.istore_n 2, 1) := by decide +kernel
theorem dX12_makeCycle_135 : decode cX12_makeCycle 135 = .ok (.iload_n 3, 1) := by decide +kernel
theorem dX12_makeCycle_136 : decode cX12_makeCycle 136 = .ok (.iconst 1, 1) := by decide +kernel
theorem dX12_makeCycle_137 : decode cX12_makeCycle 137 = .ok (.if_icmp .ne 132, 3) := by decide +kernel
theorem dX12_makeCycle_140 : decode cX12_makeCycle 140 = .ok (.iload 5, 2) := by decide +kernel
theorem dX12_makeCycle_142 : decode cX12_makeCycle 142 = .ok (.iconst (-1), 1) := by decide +kernel
theorem dX12_makeCycle_143 : decode cX12_makeCycle 143 = .ok (.if_icmp .ne 126, 3) := by decide +kernel
theorem dX12_makeCycle_146 : decode cX12_makeCycle 146 = .ok (.iconst 0, 1) := by decide +kernel
theorem dX12_makeCycle_147 : decode cX12_makeCycle 147 = .ok (.istore 6, 2) := by decide +kernel
theorem dX12_makeCycle_149 : decode cX12_makeCycle 149 = .ok (.iload 6, 2) := by decide +kernel
theorem dX12_makeCycle_151 : decode cX12_makeCycle 151 = .ok (.iload_n 2, 1) := by decide +kernel
theorem dX12_makeCycle_152 : decode cX12_makeCycle 152 = .ok (.if_icmp .gt 23, 3) := by decide +kernel
theorem dX12_makeCycle_155 : decode cX12_makeCycle 155 = .ok (.aload_n 0, 1) := by decide +kernel
theorem dX12_makeCycle_156 : decode cX12_makeCycle 156 = .ok (.getfield 492, 3) := by decide +kernel
theorem dX12_makeCycle_159 : decode cX12_makeCycle 159 = .ok (.iload 6, 2) := by decide +kernel
theorem dX12_makeCycle_161 : decode cX12_makeCycle 161 = .ok (.aload_n 0, 1) := by decide +kernel
theorem dX12_makeCycle_162 : decode cX12_makeCycle 162 = .ok (.getfield 485, 3) := by decide +kernel
theorem dX12_makeCycle_165 : decode cX12_makeCycle 165 = .ok (.iload 6, 2) := by decide +kernel
theorem dX12_makeCycle_167 : decode cX12_makeCycle 167 = .ok (.laload, 1) := by decide +kernel
theorem dX12_makeCycle_168 : decode cX12_makeCycle 168 = .ok (.lastore, 1) := by decide +kernel
theorem dX12_makeCycle_169 : decode cX12_makeCycle 169 = .ok (.iinc 6 1, 3) := by decide +kernel
theorem dX12_makeCycle_172 : decode cX12_makeCycle 172 = .ok (.goto (-23), 3) := by decide +kernel
theorem dX12_makeCycle_175 : decode cX12_makeCycle 175 = .ok (.iload_n 2, 1) := by decide +kernel
theorem dX12_makeCycle_176 : decode cX12_makeCycle 176 = .ok (.istore 6, 2) := by decide +kernel
theorem dX12_makeCycle_178 : decode cX12_makeCycle 178 = .ok (.iload 6, 2) := by decide +kernel
theorem dX12_makeCycle_180 : decode cX12_makeCycle 180 = .ok (.iload 4, 2) := by decide +kernel
theorem dX12_makeCycle_182 : decode cX12_makeCycle 182 = .ok (.if_icmp .lt 54, 3) := by decide +kernel
theorem dX12_makeCycle_185 : decode cX12_makeCycle 185 = .ok (.aload_n 0, 1) := by decide +kernel
theorem dX12_makeCycle_186 : decode cX12_makeCycle 186 = .ok (.getfield 485, 3) := by decide +kernel
theorem dX12_makeCycle_189 : decode cX12_makeCycle 189 = .ok (.iload 6, 2) := by decide +kernel
theorem dX12_makeCycle_191 : decode cX12_makeCycle 191 = .ok (.iload 4, 2) := by decide +kernel
theorem dX12_makeCycle_193 : decode cX12_makeCycle 193 = .ok (.isub, 1) := by decide +kernel
theorem dX12_makeCycle_194 : decode cX12_makeCycle 194 = .ok (.aload_n 0, 1) := by decide +kernel
theorem dX12_makeCycle_195 : decode cX12_makeCycle 195 = .ok (.getfield 492, 3) := by decide +kernel
theorem dX12_makeCycle_198 : decode cX12_makeCycle 198 = .ok (.iload 6, 2) := by decide +kernel
theorem dX12_makeCycle_200 : decode cX12_makeCycle 200 = .ok (.laload, 1) := by decide +kernel
theorem dX12_makeCycle_201 : decode cX12_makeCycle 201 = .ok (.lastore, 1) := by decide +kernel
theorem dX12_makeCycle_202 : decode cX12_makeCycle 202 = .ok (.aload_n 0, 1) := by decide +kernel
theorem dX12_makeCycle_203 : decode cX12_makeCycle 203 = .ok (.getfield 492, 3) := by decide +kernel
theorem dX12_makeCycle_206 : decode cX12_makeCycle 206 = .ok (.iload 6, 2) := by decide +kernel
theorem dX12_makeCycle_208 : decode cX12_makeCycle 208 = .ok (.iload 4, 2) := by decide +kernel
theorem dX12_makeCycle_210 : decode cX12_makeCycle 210 = .ok (.isub, 1) := by decide +kernel
theorem dX12_makeCycle_211 : decode cX12_makeCycle 211 = .ok (.aload_n 0, 1) := by decide +kernel
theorem dX12_makeCycle_212 : decode cX12_makeCycle 212 = .ok (.getfield 492, 3) := by decide +kernel
theorem dX12_makeCycle_215 : decode cX12_makeCycle 215 = .ok (.iload 6, 2) := by decide +kernel
theorem dX12_makeCycle_217 : decode cX12_makeCycle 217 = .ok (.iload 4, 2) := by decide +kernel
theorem dX12_makeCycle_219 : decode cX12_makeCycle 219 = .ok (.isub, 1) := by decide +kernel
theorem dX12_makeCycle_220 : decode cX12_makeCycle 220 = .ok (.laload, 1) := by decide +kernel
theorem dX12_makeCycle_221 : decode cX12_makeCycle 221 = .ok (.aload_n 0, 1) := by decide +kernel
theorem dX12_makeCycle_222 : decode cX12_makeCycle 222 = .ok (.getfield 492, 3) := by decide +kernel
theorem dX12_makeCycle_225 : decode cX12_makeCycle 225 = .ok (.iload 6, 2) := by decide +kernel
theorem dX12_makeCycle_227 : decode cX12_makeCycle 227 = .ok (.laload, 1) := by decide +kernel
theorem dX12_makeCycle_228 : decode cX12_makeCycle 228 = .ok (.ladd, 1) := by decide +kernel
theorem dX12_makeCycle_229 : decode cX12_makeCycle 229 = .ok (.lastore, 1) := by decide +kernel
theorem dX12_makeCycle_230 : decode cX12_makeCycle 230 = .ok (.iinc 6 (-1), 3) := by decide +kernel
theorem dX12_makeCycle_233 : decode cX12_makeCycle 233 = .ok (.goto (-55), 3) := by decide +kernel
theorem dX12_makeCycle_236 : decode cX12_makeCycle 236 = .ok (.iload_n 2, 1) := by decide +kernel
theorem dX12_makeCycle_237 : decode cX12_makeCycle 237 = .ok (.iload 4, 2) := by decide +kernel
theorem dX12_makeCycle_239 : decode cX12_makeCycle 239 = .ok (.isub, 1) := by decide +kernel
theorem dX12_makeCycle_240 : decode cX12_makeCycle 240 = .ok (.iconst 1, 1) := by decide +kernel
theorem dX12_makeCycle_241 : decode cX12_makeCycle 241 = .ok (.iadd, 1) := by decide +kernel
theorem dX12_makeCycle_242 : decode cX12_makeCycle 242 = .ok (.istore 6, 2) := by decide +kernel
theorem dX12_makeCycle_244 : decode cX12_makeCycle 244 = .ok (.iload 6, 2) := by decide +kernel
theorem dX12_makeCycle_246 : decode cX12_makeCycle 246 = .ok (.iload_n 2, 1) := by decide +kernel
theorem dX12_makeCycle_247 : decode cX12_makeCycle 247 = .ok (.if_icmp .gt 17, 3) := by decide +kernel
theorem dX12_makeCycle_250 : decode cX12_makeCycle 250 = .ok (.aload_n 0, 1) := by decide +kernel
theorem dX12_makeCycle_251 : decode cX12_makeCycle 251 = .ok (.getfield 485, 3) := by decide +kernel
theorem dX12_makeCycle_254 : decode cX12_makeCycle 254 = .ok (.iload 6, 2) := by decide +kernel
theorem dX12_makeCycle_256 : decode cX12_makeCycle 256 = .ok (.lconst 0, 1) := by decide +kernel
theorem dX12_makeCycle_257 : decode cX12_makeCycle 257 = .ok (.lastore, 1) := by decide +kernel
theorem dX12_makeCycle_258 : decode cX12_makeCycle 258 = .ok (.iinc 6 1, 3) := by decide +kernel
theorem dX12_makeCycle_261 : decode cX12_makeCycle 261 = .ok (.goto (-17), 3) := by decide +kernel
theorem dX12_makeCycle_264 : decode cX12_makeCycle 264 = .ok (.iload_n 2, 1) := by decide +kernel
theorem dX12_makeCycle_265 : decode cX12_makeCycle 265 = .ok (.iload 4, 2) := by decide +kernel
theorem dX12_makeCycle_267 : decode cX12_makeCycle 267 = .ok (.isub, 1) := by decide +kernel
theorem dX12_makeCycle_268 : decode cX12_makeCycle 268 = .ok (.istore_n 2, 1) := by decide +kernel
theorem dX12_makeCycle_269 : decode cX12_makeCycle 269 = .ok (.iinc 4 1, 3) := by decide +kernel
theorem dX12_makeCycle_272 : decode cX12_makeCycle 272 = .ok (.goto (-231), 3) := by decide +kernel
theorem dX12_makeCycle_275 : decode cX12_makeCycle 275 = .ok (.iinc 3 1, 3) := by decide +kernel
theorem dX12_makeCycle_278 : decode cX12_makeCycle 278 = .ok (.goto (-245), 3) := by decide +kernel
theorem dX12_makeCycle_281 : decode cX12_makeCycle 281 = .ok (.iload_n 2, 1) := by decide +kernel
theorem dX12_makeCycle_282 : decode cX12_makeCycle 282 = .ok (.ireturn, 1) := by decide +kernel
theorem dX12_moebius_0 : decode cX12_moebius 0 = .ok (.iload_n 0, 1) := by decide +kernel
theorem dX12_moebius_1 : decode cX12_moebius 1 = .ok (.istore_n 1, 1) := by decide +kernel
theorem dX12_moebius_2 : decode cX12_moebius 2 = .ok (.iconst 1, 1) := by decide +kernel
theorem dX12_moebius_3 : decode cX12_moebius 3 = .ok (.istore_n 2, 1) := by decide +kernel
theorem dX12_moebius_4 : decode cX12_moebius 4 = .ok (.iconst 2, 1) := by decide +kernel
theorem dX12_moebius_5 : decode cX12_moebius 5 = .ok (.istore_n 3, 1) := by decide +kernel
theorem dX12_moebius_6 : decode cX12_moebius 6 = .ok (.iload_n 3, 1) := by decide +kernel
theorem dX12_moebius_7 : decode cX12_moebius 7 = .ok (.iload_n 0, 1) := by decide +kernel
theorem dX12_moebius_8 : decode cX12_moebius 8 = .ok (.if_icmp .gt 33, 3) := by decide +kernel
theorem dX12_moebius_11 : decode cX12_moebius 11 = .ok (.iload_n 1, 1) := by decide +kernel
theorem dX12_moebius_12 : decode cX12_moebius 12 = .ok (.iload_n 3, 1) := by decide +kernel
theorem dX12_moebius_13 : decode cX12_moebius 13 = .ok (.irem, 1) := by decide +kernel
theorem dX12_moebius_14 : decode cX12_moebius 14 = .ok (.ifCond .ne 21, 3) := by decide +kernel
theorem dX12_moebius_17 : decode cX12_moebius 17 = .ok (.iload_n 1, 1) := by decide +kernel
theorem dX12_moebius_18 : decode cX12_moebius 18 = .ok (.iload_n 3, 1) := by decide +kernel
theorem dX12_moebius_19 : decode cX12_moebius 19 = .ok (.idiv, 1) := by decide +kernel
theorem dX12_moebius_20 : decode cX12_moebius 20 = .ok (.istore_n 1, 1) := by decide +kernel
theorem dX12_moebius_21 : decode cX12_moebius 21 = .ok (.iload_n 1, 1) := by decide +kernel
theorem dX12_moebius_22 : decode cX12_moebius 22 = .ok (.iload_n 3, 1) := by decide +kernel
theorem dX12_moebius_23 : decode cX12_moebius 23 = .ok (.irem, 1) := by decide +kernel
theorem dX12_moebius_24 : decode cX12_moebius 24 = .ok (.ifCond .ne 7, 3) := by decide +kernel
theorem dX12_moebius_27 : decode cX12_moebius 27 = .ok (.iconst 0, 1) := by decide +kernel
theorem dX12_moebius_28 : decode cX12_moebius 28 = .ok (.goto 6, 3) := by decide +kernel
theorem dX12_moebius_31 : decode cX12_moebius 31 = .ok (.iconst 0, 1) := by decide +kernel
theorem dX12_moebius_32 : decode cX12_moebius 32 = .ok (.iload_n 2, 1) := by decide +kernel
theorem dX12_moebius_33 : decode cX12_moebius 33 = .ok (.isub, 1) := by decide +kernel
theorem dX12_moebius_34 : decode cX12_moebius 34 = .ok (.istore_n 2, 1) := by decide +kernel
theorem dX12_moebius_35 : decode cX12_moebius 35 = .ok (.iinc 3 1, 3) := by decide +kernel
theorem dX12_moebius_38 : decode cX12_moebius 38 = .ok (.goto (-32), 3) := by decide +kernel
theorem dX12_moebius_41 : decode cX12_moebius 41 = .ok (.iload_n 2, 1) := by decide +kernel
theorem dX12_moebius_42 : decode cX12_moebius 42 = .ok (.ireturn, 1) := by decide +kernel
theorem dX12_putCosine_0 : decode cX12_putCosine 0 = .ok (.aload_n 0, 1) := by decide +kernel
theorem dX12_putCosine_1 : decode cX12_putCosine 1 = .ok (.invokevirtual 301, 3) := by decide +kernel
theorem dX12_putCosine_4 : decode cX12_putCosine 4 = .ok (.iload_n 3, 1) := by decide +kernel
theorem dX12_putCosine_5 : decode cX12_putCosine 5 = .ok (.iconst 3, 1) := by decide +kernel
theorem dX12_putCosine_6 : decode cX12_putCosine 6 = .ok (.if_icmp .ge 30, 3) := by decide +kernel
theorem dX12_putCosine_9 : decode cX12_putCosine 9 = .ok (.aload_n 0, 1) := by decide +kernel
theorem dX12_putCosine_10 : decode cX12_putCosine 10 = .ok (.iload_n 1, 1) := by decide +kernel
theorem dX12_putCosine_11 : decode cX12_putCosine 11 = .ok (.aload_n 0, 1) := by decide +kernel
theorem dX12_putCosine_12 : decode cX12_putCosine 12 = .ok (.iload_n 3, 1) := by decide +kernel
theorem dX12_putCosine_13 : decode cX12_putCosine 13 = .ok (.iconst 1, 1) := by decide +kernel
theorem dX12_putCosine_14 : decode cX12_putCosine 14 = .ok (.if_icmp .ne 7, 3) := by decide +kernel
theorem dX12_putCosine_17 : decode cX12_putCosine 17 = .ok (.lconst 1, 1) := by decide +kernel
theorem dX12_putCosine_18 : decode cX12_putCosine 18 = .ok (.goto 6, 3) := by decide +kernel
theorem dX12_putCosine_21 : decode cX12_putCosine 21 = .ok (.ldc2_w 208, 3) := by decide +kernel
theorem dX12_putCosine_24 : decode cX12_putCosine 24 = .ok (.invokevirtual 41, 3) := by decide +kernel
theorem dX12_putCosine_27 : decode cX12_putCosine 27 = .ok (.aload_n 0, 1) := by decide +kernel
theorem dX12_putCosine_28 : decode cX12_putCosine 28 = .ok (.lconst 1, 1) := by decide +kernel
theorem dX12_putCosine_29 : decode cX12_putCosine 29 = .ok (.invokevirtual 41, 3) := by decide +kernel
theorem dX12_putCosine_32 : decode cX12_putCosine 32 = .ok (.invokevirtual 407, 3) := by decide +kernel
theorem dX12_putCosine_35 : decode cX12_putCosine 35 = .ok (.ireturn, 1) := by decide +kernel
theorem dX12_putCosine_36 : decode cX12_putCosine 36 = .ok (.iload_n 3, 1) := by decide +kernel
theorem dX12_putCosine_37 : decode cX12_putCosine 37 = .ok (.invokestatic 495, 3) := by decide +kernel
theorem dX12_putCosine_40 : decode cX12_putCosine 40 = .ok (.iconst 2, 1) := by decide +kernel
theorem dX12_putCosine_41 : decode cX12_putCosine 41 = .ok (.idiv, 1) := by decide +kernel
theorem dX12_putCosine_42 : decode cX12_putCosine 42 = .ok (.istore 4, 2) := by decide +kernel
theorem dX12_putCosine_44 : decode cX12_putCosine 44 = .ok (.iload 4, 2) := by decide +kernel
theorem dX12_putCosine_46 : decode cX12_putCosine 46 = .ok (.aload_n 0, 1) := by decide +kernel
theorem dX12_putCosine_47 : decode cX12_putCosine 47 = .ok (.getfield 283, 3) := by decide +kernel
theorem dX12_putCosine_50 : decode cX12_putCosine 50 = .ok (.if_icmp .le 6, 3) := by decide +kernel
theorem dX12_putCosine_53 : decode cX12_putCosine 53 = .ok (.bipush (-105), 2) := by decide +kernel
theorem dX12_putCosine_55 : decode cX12_putCosine 55 = .ok (.ireturn, 1) := by decide +kernel
theorem dX12_putCosine_56 : decode cX12_putCosine 56 = .ok (.aload_n 0, 1) := by decide +kernel
theorem dX12_putCosine_57 : decode cX12_putCosine 57 = .ok (.iload_n 3, 1) := by decide +kernel
theorem dX12_putCosine_58 : decode cX12_putCosine 58 = .ok (.invokevirtual 498, 3) := by decide +kernel
theorem dX12_putCosine_61 : decode cX12_putCosine 61 = .ok (.istore 5, 2) := by decide +kernel
theorem dX12_putCosine_63 : decode cX12_putCosine 63 = .ok (.iconst 0, 1) := by decide +kernel
theorem dX12_putCosine_64 : decode cX12_putCosine 64 = .ok (.istore 6, 2) := by decide +kernel
theorem dX12_putCosine_66 : decode cX12_putCosine 66 = .ok (.iload 6, 2) := by decide +kernel
theorem dX12_putCosine_68 : decode cX12_putCosine 68 = .ok (.bipush 16, 2) := by decide +kernel
theorem dX12_putCosine_70 : decode cX12_putCosine 70 = .ok (.if_icmp .ge 33, 3) := by decide +kernel
theorem dX12_putCosine_73 : decode cX12_putCosine 73 = .ok (.aload_n 0, 1) := by decide +kernel
theorem dX12_putCosine_74 : decode cX12_putCosine 74 = .ok (.getfield 501, 3) := by decide +kernel
theorem dX12_putCosine_77 : decode cX12_putCosine 77 = .ok (.iload 6, 2) := by decide +kernel
theorem dX12_putCosine_79 : decode cX12_putCosine 79 = .ok (.lconst 0, 1) := by decide +kernel
theorem dX12_putCosine_80 : decode cX12_putCosine 80 = .ok (.lastore, 1) := by decide +kernel
theorem dX12_putCosine_81 : decode cX12_putCosine 81 = .ok (.aload_n 0, 1) := by decide +kernel
theorem dX12_putCosine_82 : decode cX12_putCosine 82 = .ok (.getfield 504, 3) := by decide +kernel
theorem dX12_putCosine_85 : decode cX12_putCosine 85 = .ok (.iload 6, 2) := by decide +kernel
theorem dX12_putCosine_87 : decode cX12_putCosine 87 = .ok (.lconst 0, 1) := by decide +kernel
theorem dX12_putCosine_88 : decode cX12_putCosine 88 = .ok (.lastore, 1) := by decide +kernel
theorem dX12_putCosine_89 : decode cX12_putCosine 89 = .ok (.aload_n 0, 1) := by decide +kernel
theorem dX12_putCosine_90 : decode cX12_putCosine 90 = .ok (.getfield 507, 3) := by decide +kernel
theorem dX12_putCosine_93 : decode cX12_putCosine 93 = .ok (.iload 6, 2) := by decide +kernel
theorem dX12_putCosine_95 : decode cX12_putCosine 95 = .ok (.lconst 0, 1) := by decide +kernel
theorem dX12_putCosine_96 : decode cX12_putCosine 96 = .ok (.lastore, 1) := by decide +kernel
theorem dX12_putCosine_97 : decode cX12_putCosine 97 = .ok (.iinc 6 1, 3) := by decide +kernel
theorem dX12_putCosine_100 : decode cX12_putCosine 100 = .ok (.goto (-34), 3) := by decide +kernel
theorem dX12_putCosine_103 : decode cX12_putCosine 103 = .ok (.aload_n 0, 1) := by decide +kernel
theorem dX12_putCosine_104 : decode cX12_putCosine 104 = .ok (.getfield 501, 3) := by decide +kernel
theorem dX12_putCosine_107 : decode cX12_putCosine 107 = .ok (.iconst 0, 1) := by decide +kernel
theorem dX12_putCosine_108 : decode cX12_putCosine 108 = .ok (.aload_n 0, 1) := by decide +kernel
theorem dX12_putCosine_109 : decode cX12_putCosine 109 = .ok (.getfield 485, 3) := by decide +kernel
theorem dX12_putCosine_112 : decode cX12_putCosine 112 = .ok (.iload 4, 2) := by decide +kernel
theorem dX12_putCosine_114 : decode cX12_putCosine 114 = .ok (.laload, 1) := by decide +kernel
theorem dX12_putCosine_115 : decode cX12_putCosine 115 = .ok (.lastore, 1) := by decide +kernel
theorem dX12_putCosine_116 : decode cX12_putCosine 116 = .ok (.aload_n 0, 1) := by decide +kernel
theorem dX12_putCosine_117 : decode cX12_putCosine 117 = .ok (.getfield 504, 3) := by decide +kernel
theorem dX12_putCosine_120 : decode cX12_putCosine 120 = .ok (.iconst 0, 1) := by decide +kernel
theorem dX12_putCosine_121 : decode cX12_putCosine 121 = .ok (.ldc2_w 510, 3) := by decide +kernel
theorem dX12_putCosine_124 : decode cX12_putCosine 124 = .ok (.lastore, 1) := by decide +kernel
theorem dX12_putCosine_125 : decode cX12_putCosine 125 = .ok (.aload_n 0, 1) := by decide +kernel
theorem dX12_putCosine_126 : decode cX12_putCosine 126 = .ok (.getfield 507, 3) := by decide +kernel
theorem dX12_putCosine_129 : decode cX12_putCosine 129 = .ok (.iconst 1, 1) := by decide +kernel
theorem dX12_putCosine_130 : decode cX12_putCosine 130 = .ok (.lconst 1, 1) := by decide +kernel
theorem dX12_putCosine_131 : decode cX12_putCosine 131 = .ok (.lastore, 1) := by decide +kernel
theorem dX12_putCosine_132 : decode cX12_putCosine 132 = .ok (.iconst 1, 1) := by decide +kernel
theorem dX12_putCosine_133 : decode cX12_putCosine 133 = .ok (.istore 6, 2) := by decide +kernel
theorem dX12_putCosine_135 : decode cX12_putCosine 135 = .ok (.iload 6, 2) := by decide +kernel
theorem dX12_putCosine_137 : decode cX12_putCosine 137 = .ok (.iload 4, 2) := by decide +kernel
theorem dX12_putCosine_139 : decode cX12_putCosine 139 = .ok (.if_icmp .gt 124, 3) := by decide +kernel
theorem dX12_putCosine_142 : decode cX12_putCosine 142 = .ok (.iconst 0, 1) := by decide +kernel
theorem dX12_putCosine_143 : decode cX12_putCosine 143 = .ok (.istore 7, 2) := by decide +kernel
theorem dX12_putCosine_145 : decode cX12_putCosine 145 = .ok (.iload 7, 2) := by decide +kernel
theorem dX12_putCosine_147 : decode cX12_putCosine 147 = .ok (.iload 4, 2) := by decide +kernel
theorem dX12_putCosine_149 : decode cX12_putCosine 149 = .ok (.if_icmp .gt 42, 3) := by decide +kernel
theorem dX12_putCosine_152 : decode cX12_putCosine 152 = .ok (.aload_n 0, 1) := by decide +kernel
theorem dX12_putCosine_153 : decode cX12_putCosine 153 = .ok (.getfield 501, 3) := by decide +kernel
theorem dX12_putCosine_156 : decode cX12_putCosine 156 = .ok (.iload 7, 2) := by decide +kernel
theorem dX12_putCosine_158 : decode cX12_putCosine 158 = .ok (.aload_n 0, 1) := by decide +kernel
theorem dX12_putCosine_159 : decode cX12_putCosine 159 = .ok (.getfield 501, 3) := by decide +kernel
theorem dX12_putCosine_162 : decode cX12_putCosine 162 = .ok (.iload 7, 2) := by decide +kernel
theorem dX12_putCosine_164 : decode cX12_putCosine 164 = .ok (.laload, 1) := by decide +kernel
theorem dX12_putCosine_165 : decode cX12_putCosine 165 = .ok (.aload_n 0, 1) := by decide +kernel
theorem dX12_putCosine_166 : decode cX12_putCosine 166 = .ok (.getfield 485, 3) := by decide +kernel
theorem dX12_putCosine_169 : decode cX12_putCosine 169 = .ok (.iload 4, 2) := by decide +kernel
theorem dX12_putCosine_171 : decode cX12_putCosine 171 = .ok (.iload 6, 2) := by decide +kernel
theorem dX12_putCosine_173 : decode cX12_putCosine 173 = .ok (.iadd, 1) := by decide +kernel
theorem dX12_putCosine_174 : decode cX12_putCosine 174 = .ok (.laload, 1) := by decide +kernel
theorem dX12_putCosine_175 : decode cX12_putCosine 175 = .ok (.aload_n 0, 1) := by decide +kernel
theorem dX12_putCosine_176 : decode cX12_putCosine 176 = .ok (.getfield 507, 3) := by decide +kernel
theorem dX12_putCosine_179 : decode cX12_putCosine 179 = .ok (.iload 7, 2) := by decide +kernel
theorem dX12_putCosine_181 : decode cX12_putCosine 181 = .ok (.laload, 1) := by decide +kernel
theorem dX12_putCosine_182 : decode cX12_putCosine 182 = .ok (.lmul, 1) := by decide +kernel
theorem dX12_putCosine_183 : decode cX12_putCosine 183 = .ok (.ladd, 1) := by decide +kernel
theorem dX12_putCosine_184 : decode cX12_putCosine 184 = .ok (.lastore, 1) := by decide +kernel
theorem dX12_putCosine_185 : decode cX12_putCosine 185 = .ok (.iinc 7 1, 3) := by decide +kernel
theorem dX12_putCosine_188 : decode cX12_putCosine 188 = .ok (.goto (-43), 3) := by decide +kernel
theorem dX12_putCosine_191 : decode cX12_putCosine 191 = .ok (.bipush 15, 2) := by decide +kernel
theorem dX12_putCosine_193 : decode cX12_putCosine 193 = .ok (.istore 7, 2) := by decide +kernel
theorem dX12_putCosine_195 : decode cX12_putCosine 195 = .ok (.iload 7, 2) := by decide +kernel
theorem dX12_putCosine_197 : decode cX12_putCosine 197 = .ok (.ifCond .lt 60, 3) := by decide +kernel
theorem dX12_putCosine_200 : decode cX12_putCosine 200 = .ok (.iload 7, 2) := by decide +kernel
theorem dX12_putCosine_202 : decode cX12_putCosine 202 = .ok (.ifCond .le 15, 3) := by decide +kernel
theorem dX12_putCosine_205 : decode cX12_putCosine 205 = .ok (.aload_n 0, 1) := by decide +kernel
theorem dX12_putCosine_206 : decode cX12_putCosine 206 = .ok (.getfield 507, 3) := by decide +kernel
theorem dX12_putCosine_209 : decode cX12_putCosine 209 = .ok (.iload 7, 2) := by decide +kernel
theorem dX12_putCosine_211 : decode cX12_putCosine 211 = .ok (.iconst 1, 1) := by decide +kernel
theorem dX12_putCosine_212 : decode cX12_putCosine 212 = .ok (.isub, 1) := by decide +kernel
theorem dX12_putCosine_213 : decode cX12_putCosine 213 = .ok (.laload, 1) := by decide +kernel
theorem dX12_putCosine_214 : decode cX12_putCosine 214 = .ok (.goto 4, 3) := by decide +kernel
theorem dX12_putCosine_217 : decode cX12_putCosine 217 = .ok (.lconst 0, 1) := by decide +kernel
theorem dX12_putCosine_218 : decode cX12_putCosine 218 = .ok (.aload_n 0, 1) := by decide +kernel
theorem dX12_putCosine_219 : decode cX12_putCosine 219 = .ok (.getfield 504, 3) := by decide +kernel
theorem dX12_putCosine_222 : decode cX12_putCosine 222 = .ok (.iload 7, 2) := by decide +kernel
theorem dX12_putCosine_224 : decode cX12_putCosine 224 = .ok (.laload, 1) := by decide +kernel
theorem dX12_putCosine_225 : decode cX12_putCosine 225 = .ok (.lsub, 1) := by decide +kernel
theorem dX12_putCosine_226 : decode cX12_putCosine 226 = .ok (.lstore 8, 2) := by decide +kernel
theorem dX12_putCosine_228 : decode cX12_putCosine 228 = .ok (.aload_n 0, 1) := by decide +kernel
theorem dX12_putCosine_229 : decode cX12_putCosine 229 = .ok (.getfield 504, 3) := by decide +kernel
theorem dX12_putCosine_232 : decode cX12_putCosine 232 = .ok (.iload 7, 2) := by decide +kernel
theorem dX12_putCosine_234 : decode cX12_putCosine 234 = .ok (.aload_n 0, 1) := by decide +kernel
theorem dX12_putCosine_235 : decode cX12_putCosine 235 = .ok (.getfield 507, 3) := by decide +kernel
theorem dX12_putCosine_238 : decode cX12_putCosine 238 = .ok (.iload 7, 2) := by decide +kernel
theorem dX12_putCosine_240 : decode cX12_putCosine 240 = .ok (.laload, 1) := by decide +kernel
theorem dX12_putCosine_241 : decode cX12_putCosine 241 = .ok (.lastore, 1) := by decide +kernel
theorem dX12_putCosine_242 : decode cX12_putCosine 242 = .ok (.aload_n 0, 1) := by decide +kernel
theorem dX12_putCosine_243 : decode cX12_putCosine 243 = .ok (.getfield 507, 3) := by decide +kernel
theorem dX12_putCosine_246 : decode cX12_putCosine 246 = .ok (.iload 7, 2) := by decide +kernel
theorem dX12_putCosine_248 : decode cX12_putCosine 248 = .ok (.lload 8, 2) := by decide +kernel
theorem dX12_putCosine_250 : decode cX12_putCosine 250 = .ok (.lastore, 1) := by decide +kernel
theorem dX12_putCosine_251 : decode cX12_putCosine 251 = .ok (.iinc 7 (-1), 3) := by decide +kernel
theorem dX12_putCosine_254 : decode cX12_putCosine 254 = .ok (.goto (-59), 3) := by decide +kernel
theorem dX12_putCosine_257 : decode cX12_putCosine 257 = .ok (.iinc 6 1, 3) := by decide +kernel
theorem dX12_putCosine_260 : decode cX12_putCosine 260 = .ok (.goto (-125), 3) := by decide +kernel
theorem dX12_putCosine_263 : decode cX12_putCosine 263 = .ok (.iconst 0, 1) := by decide +kernel
theorem dX12_putCosine_264 : decode cX12_putCosine 264 = .ok (.istore 6, 2) := by decide +kernel
theorem dX12_putCosine_266 : decode cX12_putCosine 266 = .ok (.iload 6, 2) := by decide +kernel
theorem dX12_putCosine_268 : decode cX12_putCosine 268 = .ok (.iload 4, 2) := by decide +kernel
theorem dX12_putCosine_270 : decode cX12_putCosine 270 = .ok (.if_icmp .gt 33, 3) := by decide +kernel
theorem dX12_putCosine_273 : decode cX12_putCosine 273 = .ok (.aload_n 0, 1) := by decide +kernel
theorem dX12_putCosine_274 : decode cX12_putCosine 274 = .ok (.getfield 86, 3) := by decide +kernel
theorem dX12_putCosine_277 : decode cX12_putCosine 277 = .ok (.iload 6, 2) := by decide +kernel
theorem dX12_putCosine_279 : decode cX12_putCosine 279 = .ok (.aload_n 0, 1) := by decide +kernel
theorem dX12_putCosine_280 : decode cX12_putCosine 280 = .ok (.aload_n 0, 1) := by decide +kernel
theorem dX12_putCosine_281 : decode cX12_putCosine 281 = .ok (.aload_n 0, 1) := by decide +kernel
theorem dX12_putCosine_282 : decode cX12_putCosine 282 = .ok (.getfield 501, 3) := by decide +kernel
theorem dX12_putCosine_285 : decode cX12_putCosine 285 = .ok (.iload 6, 2) := by decide +kernel
theorem dX12_putCosine_287 : decode cX12_putCosine 287 = .ok (.laload, 1) := by decide +kernel
theorem dX12_putCosine_288 : decode cX12_putCosine 288 = .ok (.invokevirtual 41, 3) := by decide +kernel
theorem dX12_putCosine_291 : decode cX12_putCosine 291 = .ok (.iload 6, 2) := by decide +kernel
theorem dX12_putCosine_293 : decode cX12_putCosine 293 = .ok (.invokevirtual 56, 3) := by decide +kernel
theorem dX12_putCosine_296 : decode cX12_putCosine 296 = .ok (.iastore, 1) := by decide +kernel
theorem dX12_putCosine_297 : decode cX12_putCosine 297 = .ok (.iinc 6 1, 3) := by decide +kernel
theorem dX12_putCosine_300 : decode cX12_putCosine 300 = .ok (.goto (-34), 3) := by decide +kernel
theorem dX12_putCosine_303 : decode cX12_putCosine 303 = .ok (.aload_n 0, 1) := by decide +kernel
theorem dX12_putCosine_304 : decode cX12_putCosine 304 = .ok (.aload_n 0, 1) := by decide +kernel
theorem dX12_putCosine_305 : decode cX12_putCosine 305 = .ok (.iload 4, 2) := by decide +kernel
theorem dX12_putCosine_307 : decode cX12_putCosine 307 = .ok (.iconst 1, 1) := by decide +kernel
theorem dX12_putCosine_308 : decode cX12_putCosine 308 = .ok (.iadd, 1) := by decide +kernel
theorem dX12_putCosine_309 : decode cX12_putCosine 309 = .ok (.invokevirtual 89, 3) := by decide +kernel
theorem dX12_putCosine_312 : decode cX12_putCosine 312 = .ok (.invokevirtual 116, 3) := by decide +kernel
theorem dX12_putCosine_315 : decode cX12_putCosine 315 = .ok (.istore 6, 2) := by decide +kernel
theorem dX12_putCosine_317 : decode cX12_putCosine 317 = .ok (.iconst 2, 1) := by decide +kernel
theorem dX12_putCosine_318 : decode cX12_putCosine 318 = .ok (.iload_n 2, 1) := by decide +kernel
theorem dX12_putCosine_319 : decode cX12_putCosine 319 = .ok (.imul, 1) := by decide +kernel
theorem dX12_putCosine_320 : decode cX12_putCosine 320 = .ok (.iload_n 3, 1) := by decide +kernel
theorem dX12_putCosine_321 : decode cX12_putCosine 321 = .ok (.if_icmp .le 9, 3) := by decide +kernel
theorem dX12_putCosine_324 : decode cX12_putCosine 324 = .ok (.iload_n 3, 1) := by decide +kernel
theorem dX12_putCosine_325 : decode cX12_putCosine 325 = .ok (.iload_n 2, 1) := by decide +kernel
theorem dX12_putCosine_326 : decode cX12_putCosine 326 = .ok (.isub, 1) := by decide +kernel
theorem dX12_putCosine_327 : decode cX12_putCosine 327 = .ok (.goto 4, 3) := by decide +kernel
theorem dX12_putCosine_330 : decode cX12_putCosine 330 = .ok (.iload_n 2, 1) := by decide +kernel
theorem dX12_putCosine_331 : decode cX12_putCosine 331 = .ok (.istore 7, 2) := by decide +kernel
theorem dX12_putCosine_333 : decode cX12_putCosine 333 = .ok (.iconst 0, 1) := by decide +kernel
theorem dX12_putCosine_334 : decode cX12_putCosine 334 = .ok (.istore 8, 2) := by decide +kernel
theorem dX12_putCosine_336 : decode cX12_putCosine 336 = .ok (.iload 7, 2) := by decide +kernel
theorem dX12_putCosine_338 : decode cX12_putCosine 338 = .ok (.iconst 1, 1) := by decide +kernel
theorem dX12_putCosine_339 : decode cX12_putCosine 339 = .ok (.iadd, 1) := by decide +kernel
theorem dX12_putCosine_340 : decode cX12_putCosine 340 = .ok (.istore 9, 2) := by decide +kernel
theorem dX12_putCosine_342 : decode cX12_putCosine 342 = .ok (.iconst 2, 1) := by decide +kernel
theorem dX12_putCosine_343 : decode cX12_putCosine 343 = .ok (.iload 9, 2) := by decide +kernel
theorem dX12_putCosine_345 : decode cX12_putCosine 345 = .ok (.imul, 1) := by decide +kernel
theorem dX12_putCosine_346 : decode cX12_putCosine 346 = .ok (.iload_n 3, 1) := by decide +kernel
theorem dX12_putCosine_347 : decode cX12_putCosine 347 = .ok (.if_icmp .ge 32, 3) := by decide +kernel
theorem dX12_putCosine_350 : decode cX12_putCosine 350 = .ok (.iload 8, 2) := by decide +kernel
theorem dX12_putCosine_352 : decode cX12_putCosine 352 = .ok (.iload 9, 2) := by decide +kernel
theorem dX12_putCosine_354 : decode cX12_putCosine 354 = .ok (.i2l, 1) := by decide +kernel
theorem dX12_putCosine_355 : decode cX12_putCosine 355 = .ok (.iload_n 3, 1) := by decide +kernel
theorem dX12_putCosine_356 : decode cX12_putCosine 356 = .ok (.i2l, 1) := by decide +kernel
theorem dX12_putCosine_357 : decode cX12_putCosine 357 = .ok (.invokestatic 481, 3) := by decide +kernel
theorem dX12_putCosine_360 : decode cX12_putCosine 360 = .ok (.lconst 1, 1) := by decide +kernel
theorem dX12_putCosine_361 : decode cX12_putCosine 361 = .ok (.lcmp, 1) := by decide +kernel
theorem dX12_putCosine_362 : decode cX12_putCosine 362 = .ok (.ifCond .ne 7, 3) := by decide +kernel
theorem dX12_putCosine_365 : decode cX12_putCosine 365 = .ok (.iconst 1, 1) := by decide +kernel
theorem dX12_putCosine_366 : decode cX12_putCosine 366 = .ok (.goto 4, 3) := by decide +kernel
theorem dX12_putCosine_369 : decode cX12_putCosine 369 = .ok (.iconst 0, 1) := by decide +kernel
theorem dX12_putCosine_370 : decode cX12_putCosine 370 = .ok (.iadd, 1) := by decide +kernel
theorem dX12_putCosine_371 : decode cX12_putCosine 371 = .ok (.istore 8, 2) := by decide +kernel
theorem dX12_putCosine_373 : decode cX12_putCosine 373 = .ok (.iinc 9 1, 3) := by decide +kernel
theorem dX12_putCosine_376 : decode cX12_putCosine 376 = .ok (.goto (-34), 3) := by decide +kernel
theorem dX12_putCosine_379 : decode cX12_putCosine 379 = .ok (.aload_n 0, 1) := by decide +kernel
theorem dX12_putCosine_380 : decode cX12_putCosine 380 = .ok (.iload_n 1, 1) := by decide +kernel
theorem dX12_putCosine_381 : decode cX12_putCosine 381 = .ok (.iload 6, 2) := by decide +kernel
theorem dX12_putCosine_383 : decode cX12_putCosine 383 = .ok (.iload 8, 2) := by decide +kernel
theorem dX12_putCosine_385 : decode cX12_putCosine 385 = .ok (.invokevirtual 295, 3) := by decide +kernel
theorem dX12_putCosine_388 : decode cX12_putCosine 388 = .ok (.ireturn, 1) := by decide +kernel
theorem dX12_putTurn_0 : decode cX12_putTurn 0 = .ok (.lload_n 2, 1) := by decide +kernel
theorem dX12_putTurn_1 : decode cX12_putTurn 1 = .ok (.iload 4, 2) := by decide +kernel
theorem dX12_putTurn_3 : decode cX12_putTurn 3 = .ok (.i2l, 1) := by decide +kernel
theorem dX12_putTurn_4 : decode cX12_putTurn 4 = .ok (.lrem, 1) := by decide +kernel
theorem dX12_putTurn_5 : decode cX12_putTurn 5 = .ok (.lstore 6, 2) := by decide +kernel
theorem dX12_putTurn_7 : decode cX12_putTurn 7 = .ok (.lload 6, 2) := by decide +kernel
theorem dX12_putTurn_9 : decode cX12_putTurn 9 = .ok (.lconst 0, 1) := by decide +kernel
theorem dX12_putTurn_10 : decode cX12_putTurn 10 = .ok (.lcmp, 1) := by decide +kernel
theorem dX12_putTurn_11 : decode cX12_putTurn 11 = .ok (.ifCond .ge 12, 3) := by decide +kernel
theorem dX12_putTurn_14 : decode cX12_putTurn 14 = .ok (.lload 6, 2) := by decide +kernel
theorem dX12_putTurn_16 : decode cX12_putTurn 16 = .ok (.iload 4, 2) := by decide +kernel
theorem dX12_putTurn_18 : decode cX12_putTurn 18 = .ok (.i2l, 1) := by decide +kernel
theorem dX12_putTurn_19 : decode cX12_putTurn 19 = .ok (.ladd, 1) := by decide +kernel
theorem dX12_putTurn_20 : decode cX12_putTurn 20 = .ok (.goto 5, 3) := by decide +kernel
theorem dX12_putTurn_23 : decode cX12_putTurn 23 = .ok (.lload 6, 2) := by decide +kernel
theorem dX12_putTurn_25 : decode cX12_putTurn 25 = .ok (.lstore 6, 2) := by decide +kernel
theorem dX12_putTurn_27 : decode cX12_putTurn 27 = .ok (.iload 5, 2) := by decide +kernel
theorem dX12_putTurn_29 : decode cX12_putTurn 29 = .ok (.ifCond .eq 16, 3) := by decide +kernel
theorem dX12_putTurn_32 : decode cX12_putTurn 32 = .ok (.ldc2_w 512, 3) := by decide +kernel
theorem dX12_putTurn_35 : decode cX12_putTurn 35 = .ok (.lload 6, 2) := by decide +kernel
theorem dX12_putTurn_37 : decode cX12_putTurn 37 = .ok (.lmul, 1) := by decide +kernel
theorem dX12_putTurn_38 : decode cX12_putTurn 38 = .ok (.iload 4, 2) := by decide +kernel
theorem dX12_putTurn_40 : decode cX12_putTurn 40 = .ok (.i2l, 1) := by decide +kernel
theorem dX12_putTurn_41 : decode cX12_putTurn 41 = .ok (.lsub, 1) := by decide +kernel
theorem dX12_putTurn_42 : decode cX12_putTurn 42 = .ok (.goto 5, 3) := by decide +kernel
theorem dX12_putTurn_45 : decode cX12_putTurn 45 = .ok (.lload 6, 2) := by decide +kernel
theorem dX12_putTurn_47 : decode cX12_putTurn 47 = .ok (.lstore 8, 2) := by decide +kernel
theorem dX12_putTurn_49 : decode cX12_putTurn 49 = .ok (.iload 5, 2) := by decide +kernel
theorem dX12_putTurn_51 : decode cX12_putTurn 51 = .ok (.ifCond .eq 13, 3) := by decide +kernel
theorem dX12_putTurn_54 : decode cX12_putTurn 54 = .ok (.ldc2_w 512, 3) := by decide +kernel
theorem dX12_putTurn_57 : decode cX12_putTurn 57 = .ok (.iload 4, 2) := by decide +kernel
theorem dX12_putTurn_59 : decode cX12_putTurn 59 = .ok (.i2l, 1) := by decide +kernel
theorem dX12_putTurn_60 : decode cX12_putTurn 60 = .ok (.lmul, 1) := by decide +kernel
theorem dX12_putTurn_61 : decode cX12_putTurn 61 = .ok (.goto 6, 3) := by decide +kernel
theorem dX12_putTurn_64 : decode cX12_putTurn 64 = .ok (.iload 4, 2) := by decide +kernel
theorem dX12_putTurn_66 : decode cX12_putTurn 66 = .ok (.i2l, 1) := by decide +kernel
theorem dX12_putTurn_67 : decode cX12_putTurn 67 = .ok (.lstore 10, 2) := by decide +kernel
theorem dX12_putTurn_69 : decode cX12_putTurn 69 = .ok (.lload 8, 2) := by decide +kernel
theorem dX12_putTurn_71 : decode cX12_putTurn 71 = .ok (.lconst 0, 1) := by decide +kernel
theorem dX12_putTurn_72 : decode cX12_putTurn 72 = .ok (.lcmp, 1) := by decide +kernel
theorem dX12_putTurn_73 : decode cX12_putTurn 73 = .ok (.ifCond .ge 11, 3) := by decide +kernel
theorem dX12_putTurn_76 : decode cX12_putTurn 76 = .ok (.lload 8, 2) := by decide +kernel
theorem dX12_putTurn_78 : decode cX12_putTurn 78 = .ok (.lload 10, 2) := by decide +kernel
theorem dX12_putTurn_80 : decode cX12_putTurn 80 = .ok (.ladd, 1) := by decide +kernel
theorem dX12_putTurn_81 : decode cX12_putTurn 81 = .ok (.goto 5, 3) := by decide +kernel
theorem dX12_putTurn_84 : decode cX12_putTurn 84 = .ok (.lload 8, 2) := by decide +kernel
theorem dX12_putTurn_86 : decode cX12_putTurn 86 = .ok (.lstore 8, 2) := by decide +kernel
theorem dX12_putTurn_88 : decode cX12_putTurn 88 = .ok (.lload 8, 2) := by decide +kernel
theorem dX12_putTurn_90 : decode cX12_putTurn 90 = .ok (.lload 10, 2) := by decide +kernel
theorem dX12_putTurn_92 : decode cX12_putTurn 92 = .ok (.invokestatic 481, 3) := by decide +kernel
theorem dX12_putTurn_95 : decode cX12_putTurn 95 = .ok (.lstore 12, 2) := by decide +kernel
theorem dX12_putTurn_97 : decode cX12_putTurn 97 = .ok (.aload_n 0, 1) := by decide +kernel
theorem dX12_putTurn_98 : decode cX12_putTurn 98 = .ok (.iload_n 1, 1) := by decide +kernel
theorem dX12_putTurn_99 : decode cX12_putTurn 99 = .ok (.lload 8, 2) := by decide +kernel
theorem dX12_putTurn_101 : decode cX12_putTurn 101 = .ok (.lload 12, 2) := by decide +kernel
theorem dX12_putTurn_103 : decode cX12_putTurn 103 = .ok (.ldiv, 1) := by decide +kernel
theorem dX12_putTurn_104 : decode cX12_putTurn 104 = .ok (.l2i, 1) := by decide +kernel
theorem dX12_putTurn_105 : decode cX12_putTurn 105 = .ok (.lload 10, 2) := by decide +kernel
theorem dX12_putTurn_107 : decode cX12_putTurn 107 = .ok (.lload 12, 2) := by decide +kernel
theorem dX12_putTurn_109 : decode cX12_putTurn 109 = .ok (.ldiv, 1) := by decide +kernel
theorem dX12_putTurn_110 : decode cX12_putTurn 110 = .ok (.l2i, 1) := by decide +kernel
theorem dX12_putTurn_111 : decode cX12_putTurn 111 = .ok (.invokevirtual 514, 3) := by decide +kernel
theorem dX12_putTurn_114 : decode cX12_putTurn 114 = .ok (.ireturn, 1) := by decide +kernel
theorem dX12_init_0 : decode cX12_init 0 = .ok (.aload_n 0, 1) := by decide +kernel
theorem dX12_init_1 : decode cX12_init 1 = .ok (.invokespecial 517, 3) := by decide +kernel
theorem dX12_init_4 : decode cX12_init 4 = .ok (.aload_n 0, 1) := by decide +kernel
theorem dX12_init_5 : decode cX12_init 5 = .ok (.ldc_w 522, 3) := by decide +kernel
theorem dX12_init_8 : decode cX12_init 8 = .ok (.newarray .int, 2) := by decide +kernel
theorem dX12_init_10 : decode cX12_init 10 = .ok (.putfield 7, 3) := by decide +kernel
theorem dX12_init_13 : decode cX12_init 13 = .ok (.aload_n 0, 1) := by decide +kernel
theorem dX12_init_14 : decode cX12_init 14 = .ok (.bipush 48, 2) := by decide +kernel
theorem dX12_init_16 : decode cX12_init 16 = .ok (.newarray .int, 2) := by decide +kernel
theorem dX12_init_18 : decode cX12_init 18 = .ok (.putfield 68, 3) := by decide +kernel
theorem dX12_init_21 : decode cX12_init 21 = .ok (.aload_n 0, 1) := by decide +kernel
theorem dX12_init_22 : decode cX12_init 22 = .ok (.bipush 40, 2) := by decide +kernel
theorem dX12_init_24 : decode cX12_init 24 = .ok (.newarray .int, 2) := by decide +kernel
theorem dX12_init_26 : decode cX12_init 26 = .ok (.putfield 86, 3) := by decide +kernel
theorem dX12_init_29 : decode cX12_init 29 = .ok (.aload_n 0, 1) := by decide +kernel
theorem dX12_init_30 : decode cX12_init 30 = .ok (.bipush 16, 2) := by decide +kernel
theorem dX12_init_32 : decode cX12_init 32 = .ok (.newarray .int, 2) := by decide +kernel
theorem dX12_init_34 : decode cX12_init 34 = .ok (.putfield 125, 3) := by decide +kernel
theorem dX12_init_37 : decode cX12_init 37 = .ok (.aload_n 0, 1) := by decide +kernel
theorem dX12_init_38 : decode cX12_init 38 = .ok (.bipush 16, 2) := by decide +kernel
theorem dX12_init_40 : decode cX12_init 40 = .ok (.newarray .int, 2) := by decide +kernel
theorem dX12_init_42 : decode cX12_init 42 = .ok (.putfield 189, 3) := by decide +kernel
theorem dX12_init_45 : decode cX12_init 45 = .ok (.aload_n 0, 1) := by decide +kernel
theorem dX12_init_46 : decode cX12_init 46 = .ok (.bipush 16, 2) := by decide +kernel
theorem dX12_init_48 : decode cX12_init 48 = .ok (.newarray .int, 2) := by decide +kernel
theorem dX12_init_50 : decode cX12_init 50 = .ok (.putfield 186, 3) := by decide +kernel
theorem dX12_init_53 : decode cX12_init 53 = .ok (.aload_n 0, 1) := by decide +kernel
theorem dX12_init_54 : decode cX12_init 54 = .ok (.bipush 16, 2) := by decide +kernel
theorem dX12_init_56 : decode cX12_init 56 = .ok (.newarray .int, 2) := by decide +kernel
theorem dX12_init_58 : decode cX12_init 58 = .ok (.putfield 198, 3) := by decide +kernel
theorem dX12_init_61 : decode cX12_init 61 = .ok (.aload_n 0, 1) := by decide +kernel
theorem dX12_init_62 : decode cX12_init 62 = .ok (.bipush 14, 2) := by decide +kernel
theorem dX12_init_64 : decode cX12_init 64 = .ok (.newarray .int, 2) := by decide +kernel
theorem dX12_init_66 : decode cX12_init 66 = .ok (.putfield 262, 3) := by decide +kernel
theorem dX12_init_69 : decode cX12_init 69 = .ok (.aload_n 0, 1) := by decide +kernel
theorem dX12_init_70 : decode cX12_init 70 = .ok (.ldc_w 523, 3) := by decide +kernel
theorem dX12_init_73 : decode cX12_init 73 = .ok (.newarray .int, 2) := by decide +kernel
theorem dX12_init_75 : decode cX12_init 75 = .ok (.putfield 280, 3) := by decide +kernel
theorem dX12_init_78 : decode cX12_init 78 = .ok (.aload_n 0, 1) := by decide +kernel
theorem dX12_init_79 : decode cX12_init 79 = .ok (.sipush 260, 3) := by decide +kernel
theorem dX12_init_82 : decode cX12_init 82 = .ok (.newarray .int, 2) := by decide +kernel
theorem dX12_init_84 : decode cX12_init 84 = .ok (.putfield 277, 3) := by decide +kernel
theorem dX12_init_87 : decode cX12_init 87 = .ok (.aload_n 0, 1) := by decide +kernel
theorem dX12_init_88 : decode cX12_init 88 = .ok (.sipush 260, 3) := by decide +kernel
theorem dX12_init_91 : decode cX12_init 91 = .ok (.newarray .int, 2) := by decide +kernel
theorem dX12_init_93 : decode cX12_init 93 = .ok (.putfield 292, 3) := by decide +kernel
theorem dX12_init_96 : decode cX12_init 96 = .ok (.aload_n 0, 1) := by decide +kernel
theorem dX12_init_97 : decode cX12_init 97 = .ok (.bipush 12, 2) := by decide +kernel
theorem dX12_init_99 : decode cX12_init 99 = .ok (.newarray .int, 2) := by decide +kernel
theorem dX12_init_101 : decode cX12_init 101 = .ok (.putfield 350, 3) := by decide +kernel
theorem dX12_init_104 : decode cX12_init 104 = .ok (.aload_n 0, 1) := by decide +kernel
theorem dX12_init_105 : decode cX12_init 105 = .ok (.bipush 12, 2) := by decide +kernel
theorem dX12_init_107 : decode cX12_init 107 = .ok (.newarray .int, 2) := by decide +kernel
theorem dX12_init_109 : decode cX12_init 109 = .ok (.putfield 356, 3) := by decide +kernel
theorem dX12_init_112 : decode cX12_init 112 = .ok (.aload_n 0, 1) := by decide +kernel
theorem dX12_init_113 : decode cX12_init 113 = .ok (.bipush 12, 2) := by decide +kernel
theorem dX12_init_115 : decode cX12_init 115 = .ok (.newarray .int, 2) := by decide +kernel
theorem dX12_init_117 : decode cX12_init 117 = .ok (.putfield 344, 3) := by decide +kernel
theorem dX12_init_120 : decode cX12_init 120 = .ok (.aload_n 0, 1) := by decide +kernel
theorem dX12_init_121 : decode cX12_init 121 = .ok (.bipush 30, 2) := by decide +kernel
theorem dX12_init_123 : decode cX12_init 123 = .ok (.newarray .int, 2) := by decide +kernel
theorem dX12_init_125 : decode cX12_init 125 = .ok (.putfield 347, 3) := by decide +kernel
theorem dX12_init_128 : decode cX12_init 128 = .ok (.aload_n 0, 1) := by decide +kernel
theorem dX12_init_129 : decode cX12_init 129 = .ok (.sipush 300, 3) := by decide +kernel
theorem dX12_init_132 : decode cX12_init 132 = .ok (.newarray .int, 2) := by decide +kernel
theorem dX12_init_134 : decode cX12_init 134 = .ok (.putfield 362, 3) := by decide +kernel
theorem dX12_init_137 : decode cX12_init 137 = .ok (.aload_n 0, 1) := by decide +kernel
theorem dX12_init_138 : decode cX12_init 138 = .ok (.bipush 12, 2) := by decide +kernel
theorem dX12_init_140 : decode cX12_init 140 = .ok (.newarray .int, 2) := by decide +kernel
theorem dX12_init_142 : decode cX12_init 142 = .ok (.putfield 365, 3) := by decide +kernel
theorem dX12_init_145 : decode cX12_init 145 = .ok (.aload_n 0, 1) := by decide +kernel
theorem dX12_init_146 : decode cX12_init 146 = .ok (.bipush 14, 2) := by decide +kernel
theorem dX12_init_148 : decode cX12_init 148 = .ok (.newarray .int, 2) := by decide +kernel
theorem dX12_init_150 : decode cX12_init 150 = .ok (.putfield 392, 3) := by decide +kernel
theorem dX12_init_153 : decode cX12_init 153 = .ok (.aload_n 0, 1) := by decide +kernel
theorem dX12_init_154 : decode cX12_init 154 = .ok (.bipush 12, 2) := by decide +kernel
theorem dX12_init_156 : decode cX12_init 156 = .ok (.newarray .int, 2) := by decide +kernel
theorem dX12_init_158 : decode cX12_init 158 = .ok (.putfield 374, 3) := by decide +kernel
theorem dX12_init_161 : decode cX12_init 161 = .ok (.aload_n 0, 1) := by decide +kernel
theorem dX12_init_162 : decode cX12_init 162 = .ok (.bipush 14, 2) := by decide +kernel
theorem dX12_init_164 : decode cX12_init 164 = .ok (.newarray .int, 2) := by decide +kernel
theorem dX12_init_166 : decode cX12_init 166 = .ok (.putfield 453, 3) := by decide +kernel
theorem dX12_init_169 : decode cX12_init 169 = .ok (.aload_n 0, 1) := by decide +kernel
theorem dX12_init_170 : decode cX12_init 170 = .ok (.sipush 140, 3) := by decide +kernel
theorem dX12_init_173 : decode cX12_init 173 = .ok (.newarray .long, 2) := by decide +kernel
theorem dX12_init_175 : decode cX12_init 175 = .ok (.putfield 492, 3) := by decide +kernel
theorem dX12_init_178 : decode cX12_init 178 = .ok (.aload_n 0, 1) := by decide +kernel
theorem dX12_init_179 : decode cX12_init 179 = .ok (.sipush 140, 3) := by decide +kernel
theorem dX12_init_182 : decode cX12_init 182 = .ok (.newarray .long, 2) := by decide +kernel
theorem dX12_init_184 : decode cX12_init 184 = .ok (.putfield 485, 3) := by decide +kernel
theorem dX12_init_187 : decode cX12_init 187 = .ok (.aload_n 0, 1) := by decide +kernel
theorem dX12_init_188 : decode cX12_init 188 = .ok (.bipush 16, 2) := by decide +kernel
theorem dX12_init_190 : decode cX12_init 190 = .ok (.newarray .long, 2) := by decide +kernel
theorem dX12_init_192 : decode cX12_init 192 = .ok (.putfield 504, 3) := by decide +kernel
theorem dX12_init_195 : decode cX12_init 195 = .ok (.aload_n 0, 1) := by decide +kernel
theorem dX12_init_196 : decode cX12_init 196 = .ok (.bipush 16, 2) := by decide +kernel
theorem dX12_init_198 : decode cX12_init 198 = .ok (.newarray .long, 2) := by decide +kernel
theorem dX12_init_200 : decode cX12_init 200 = .ok (.putfield 507, 3) := by decide +kernel
theorem dX12_init_203 : decode cX12_init 203 = .ok (.aload_n 0, 1) := by decide +kernel
theorem dX12_init_204 : decode cX12_init 204 = .ok (.bipush 16, 2) := by decide +kernel
theorem dX12_init_206 : decode cX12_init 206 = .ok (.newarray .long, 2) := by decide +kernel
theorem dX12_init_208 : decode cX12_init 208 = .ok (.putfield 501, 3) := by decide +kernel
theorem dX12_init_211 : decode cX12_init 211 = .ok (.aload_n 0, 1) := by decide +kernel
theorem dX12_init_212 : decode cX12_init 212 = .ok (.sipush 300, 3) := by decide +kernel
theorem dX12_init_215 : decode cX12_init 215 = .ok (.newarray .byte, 2) := by decide +kernel
theorem dX12_init_217 : decode cX12_init 217 = .ok (.putfield 524, 3) := by decide +kernel
theorem dX12_init_220 : decode cX12_init 220 = .ok (.aload_n 0, 1) := by decide +kernel
theorem dX12_init_221 : decode cX12_init 221 = .ok (.sipush 300, 3) := by decide +kernel
theorem dX12_init_224 : decode cX12_init 224 = .ok (.newarray .byte, 2) := by decide +kernel
theorem dX12_init_226 : decode cX12_init 226 = .ok (.putfield 528, 3) := by decide +kernel
theorem dX12_init_229 : decode cX12_init 229 = .ok (.aload_n 0, 1) := by decide +kernel
theorem dX12_init_230 : decode cX12_init 230 = .ok (.sipush 390, 3) := by decide +kernel
theorem dX12_init_233 : decode cX12_init 233 = .ok (.newarray .long, 2) := by decide +kernel
theorem dX12_init_235 : decode cX12_init 235 = .ok (.putfield 531, 3) := by decide +kernel
theorem dX12_init_238 : decode cX12_init 238 = .ok (.aload_n 0, 1) := by decide +kernel
theorem dX12_init_239 : decode cX12_init 239 = .ok (.bipush 12, 2) := by decide +kernel
theorem dX12_init_241 : decode cX12_init 241 = .ok (.newarray .int, 2) := by decide +kernel
theorem dX12_init_243 : decode cX12_init 243 = .ok (.putfield 534, 3) := by decide +kernel
theorem dX12_init_246 : decode cX12_init 246 = .ok (.aload_n 0, 1) := by decide +kernel
theorem dX12_init_247 : decode cX12_init 247 = .ok (.sipush 4000, 3) := by decide +kernel
theorem dX12_init_250 : decode cX12_init 250 = .ok (.newarray .byte, 2) := by decide +kernel
theorem dX12_init_252 : decode cX12_init 252 = .ok (.putfield 537, 3) := by decide +kernel
theorem dX12_init_255 : decode cX12_init 255 = .ok (.aload_n 0, 1) := by decide +kernel
theorem dX12_init_256 : decode cX12_init 256 = .ok (.sipush 600, 3) := by decide +kernel
theorem dX12_init_259 : decode cX12_init 259 = .ok (.newarray .byte, 2) := by decide +kernel
theorem dX12_init_261 : decode cX12_init 261 = .ok (.putfield 540, 3) := by decide +kernel
theorem dX12_init_264 : decode cX12_init 264 = .ok (.aload_n 0, 1) := by decide +kernel
theorem dX12_init_265 : decode cX12_init 265 = .ok (.sipush 700, 3) := by decide +kernel
theorem dX12_init_268 : decode cX12_init 268 = .ok (.newarray .int, 2) := by decide +kernel
theorem dX12_init_270 : decode cX12_init 270 = .ok (.putfield 543, 3) := by decide +kernel
theorem dX12_init_273 : decode cX12_init 273 = .ok (.aload_n 0, 1) := by decide +kernel
theorem dX12_init_274 : decode cX12_init 274 = .ok (.sipush 700, 3) := by decide +kernel
theorem dX12_init_277 : decode cX12_init 277 = .ok (.newarray .int, 2) := by decide +kernel
theorem dX12_init_279 : decode cX12_init 279 = .ok (.putfield 546, 3) := by decide +kernel
theorem dX12_init_282 : decode cX12_init 282 = .ok (.aload_n 0, 1) := by decide +kernel
theorem dX12_init_283 : decode cX12_init 283 = .ok (.sipush 700, 3) := by decide +kernel
theorem dX12_init_286 : decode cX12_init 286 = .ok (.newarray .int, 2) := by decide +kernel
theorem dX12_init_288 : decode cX12_init 288 = .ok (.putfield 549, 3) := by decide +kernel
theorem dX12_init_291 : decode cX12_init 291 = .ok (.aload_n 0, 1) := by decide +kernel
theorem dX12_init_292 : decode cX12_init 292 = .ok (.bipush 12, 2) := by decide +kernel
theorem dX12_init_294 : decode cX12_init 294 = .ok (.newarray .int, 2) := by decide +kernel
theorem dX12_init_296 : decode cX12_init 296 = .ok (.putfield 552, 3) := by decide +kernel
theorem dX12_init_299 : decode cX12_init 299 = .ok (.aload_n 0, 1) := by decide +kernel
theorem dX12_init_300 : decode cX12_init 300 = .ok (.bipush 12, 2) := by decide +kernel
theorem dX12_init_302 : decode cX12_init 302 = .ok (.newarray .int, 2) := by decide +kernel
theorem dX12_init_304 : decode cX12_init 304 = .ok (.putfield 555, 3) := by decide +kernel
theorem dX12_init_307 : decode cX12_init 307 = .ok (.aload_n 0, 1) := by decide +kernel
theorem dX12_init_308 : decode cX12_init 308 = .ok (.bipush 12, 2) := by decide +kernel
theorem dX12_init_310 : decode cX12_init 310 = .ok (.newarray .int, 2) := by decide +kernel
theorem dX12_init_312 : decode cX12_init 312 = .ok (.putfield 558, 3) := by decide +kernel
theorem dX12_init_315 : decode cX12_init 315 = .ok (.aload_n 0, 1) := by decide +kernel
theorem dX12_init_316 : decode cX12_init 316 = .ok (.bipush 12, 2) := by decide +kernel
theorem dX12_init_318 : decode cX12_init 318 = .ok (.newarray .boolean, 2) := by decide +kernel
theorem dX12_init_320 : decode cX12_init 320 = .ok (.putfield 561, 3) := by decide +kernel
theorem dX12_init_323 : decode cX12_init 323 = .ok (.aload_n 0, 1) := by decide +kernel
theorem dX12_init_324 : decode cX12_init 324 = .ok (.bipush 12, 2) := by decide +kernel
theorem dX12_init_326 : decode cX12_init 326 = .ok (.newarray .int, 2) := by decide +kernel
theorem dX12_init_328 : decode cX12_init 328 = .ok (.putfield 565, 3) := by decide +kernel
theorem dX12_init_331 : decode cX12_init 331 = .ok (.aload_n 0, 1) := by decide +kernel
theorem dX12_init_332 : decode cX12_init 332 = .ok (.iload_n 1, 1) := by decide +kernel
theorem dX12_init_333 : decode cX12_init 333 = .ok (.iconst 1, 1) := by decide +kernel
theorem dX12_init_334 : decode cX12_init 334 = .ok (.if_icmp .ge 7, 3) := by decide +kernel
theorem dX12_init_337 : decode cX12_init 337 = .ok (.iconst 1, 1) := by decide +kernel
theorem dX12_init_338 : decode cX12_init 338 = .ok (.goto 15, 3) := by decide +kernel
theorem dX12_init_341 : decode cX12_init 341 = .ok (.iload_n 1, 1) := by decide +kernel
theorem dX12_init_342 : decode cX12_init 342 = .ok (.bipush 10, 2) := by decide +kernel
theorem dX12_init_344 : decode cX12_init 344 = .ok (.if_icmp .le 8, 3) := by decide +kernel
theorem dX12_init_347 : decode cX12_init 347 = .ok (.bipush 10, 2) := by decide +kernel
theorem dX12_init_349 : decode cX12_init 349 = .ok (.goto 4, 3) := by decide +kernel
theorem dX12_init_352 : decode cX12_init 352 = .ok (.iload_n 1, 1) := by decide +kernel
theorem dX12_init_353 : decode cX12_init 353 = .ok (.putfield 283, 3) := by decide +kernel
theorem dX12_init_356 : decode cX12_init 356 = .ok (.return_, 1) := by decide +kernel
theorem dX12_isNumber_0 : decode cX12_isNumber 0 = .ok (.iload_n 1, 1) := by decide +kernel
theorem dX12_isNumber_1 : decode cX12_isNumber 1 = .ok (.i2l, 1) := by decide +kernel
theorem dX12_isNumber_2 : decode cX12_isNumber 2 = .ok (.lconst 0, 1) := by decide +kernel
theorem dX12_isNumber_3 : decode cX12_isNumber 3 = .ok (.aload_n 0, 1) := by decide +kernel
theorem dX12_isNumber_4 : decode cX12_isNumber 4 = .ok (.getfield 568, 3) := by decide +kernel
theorem dX12_isNumber_7 : decode cX12_isNumber 7 = .ok (.iconst 1, 1) := by decide +kernel
theorem dX12_isNumber_8 : decode cX12_isNumber 8 = .ok (.isub, 1) := by decide +kernel
theorem dX12_isNumber_9 : decode cX12_isNumber 9 = .ok (.i2l, 1) := by decide +kernel
theorem dX12_isNumber_10 : decode cX12_isNumber 10 = .ok (.invokestatic 571, 3) := by decide +kernel
theorem dX12_isNumber_13 : decode cX12_isNumber 13 = .ok (.ireturn, 1) := by decide +kernel
theorem dX12_isPolynomial_0 : decode cX12_isPolynomial 0 = .ok (.iload_n 1, 1) := by decide +kernel
theorem dX12_isPolynomial_1 : decode cX12_isPolynomial 1 = .ok (.i2l, 1) := by decide +kernel
theorem dX12_isPolynomial_2 : decode cX12_isPolynomial 2 = .ok (.lconst 0, 1) := by decide +kernel
theorem dX12_isPolynomial_3 : decode cX12_isPolynomial 3 = .ok (.aload_n 0, 1) := by decide +kernel
theorem dX12_isPolynomial_4 : decode cX12_isPolynomial 4 = .ok (.getfield 575, 3) := by decide +kernel
theorem dX12_isPolynomial_7 : decode cX12_isPolynomial 7 = .ok (.iconst 1, 1) := by decide +kernel
theorem dX12_isPolynomial_8 : decode cX12_isPolynomial 8 = .ok (.isub, 1) := by decide +kernel
theorem dX12_isPolynomial_9 : decode cX12_isPolynomial 9 = .ok (.i2l, 1) := by decide +kernel
theorem dX12_isPolynomial_10 : decode cX12_isPolynomial 10 = .ok (.invokestatic 571, 3) := by decide +kernel
theorem dX12_isPolynomial_13 : decode cX12_isPolynomial 13 = .ok (.ireturn, 1) := by decide +kernel
theorem dX12_finish_0 : decode cX12_finish 0 = .ok (.iload_n 1, 1) := by decide +kernel
theorem dX12_finish_1 : decode cX12_finish 1 = .ok (.ifCond .ge 5, 3) := by decide +kernel
theorem dX12_finish_4 : decode cX12_finish 4 = .ok (.iload_n 1, 1) := by decide +kernel
theorem dX12_finish_5 : decode cX12_finish 5 = .ok (.ireturn, 1) := by decide +kernel
theorem dX12_finish_6 : decode cX12_finish 6 = .ok (.aload_n 0, 1) := by decide +kernel
theorem dX12_finish_7 : decode cX12_finish 7 = .ok (.getfield 568, 3) := by decide +kernel
theorem dX12_finish_10 : decode cX12_finish 10 = .ok (.bipush 100, 2) := by decide +kernel
theorem dX12_finish_12 : decode cX12_finish 12 = .ok (.if_icmp .ne 6, 3) := by decide +kernel
theorem dX12_finish_15 : decode cX12_finish 15 = .ok (.bipush (-106), 2) := by decide +kernel
theorem dX12_finish_17 : decode cX12_finish 17 = .ok (.ireturn, 1) := by decide +kernel
theorem dX12_finish_18 : decode cX12_finish 18 = .ok (.aload_n 0, 1) := by decide +kernel
theorem dX12_finish_19 : decode cX12_finish 19 = .ok (.dup, 1) := by decide +kernel
theorem dX12_finish_20 : decode cX12_finish 20 = .ok (.getfield 568, 3) := by decide +kernel
theorem dX12_finish_23 : decode cX12_finish 23 = .ok (.iconst 1, 1) := by decide +kernel
theorem dX12_finish_24 : decode cX12_finish 24 = .ok (.iadd, 1) := by decide +kernel
theorem dX12_finish_25 : decode cX12_finish 25 = .ok (.putfield 568, 3) := by decide +kernel
theorem dX12_finish_28 : decode cX12_finish 28 = .ok (.aload_n 0, 1) := by decide +kernel
theorem dX12_finish_29 : decode cX12_finish 29 = .ok (.getfield 568, 3) := by decide +kernel
theorem dX12_finish_32 : decode cX12_finish 32 = .ok (.iconst 1, 1) := by decide +kernel
theorem dX12_finish_33 : decode cX12_finish 33 = .ok (.isub, 1) := by decide +kernel
theorem dX12_finish_34 : decode cX12_finish 34 = .ok (.ireturn, 1) := by decide +kernel
theorem dX12_fraction_0 : decode cX12_fraction 0 = .ok (.aload_n 0, 1) := by decide +kernel
theorem dX12_fraction_1 : decode cX12_fraction 1 = .ok (.lload_n 3, 1) := by decide +kernel
theorem dX12_fraction_2 : decode cX12_fraction 2 = .ok (.lconst 0, 1) := by decide +kernel
theorem dX12_fraction_3 : decode cX12_fraction 3 = .ok (.lcmp, 1) := by decide +kernel
theorem dX12_fraction_4 : decode cX12_fraction 4 = .ok (.ifCond .ne 7, 3) := by decide +kernel
theorem dX12_fraction_7 : decode cX12_fraction 7 = .ok (.iconst 1, 1) := by decide +kernel
theorem dX12_fraction_8 : decode cX12_fraction 8 = .ok (.goto 4, 3) := by decide +kernel
theorem dX12_fraction_11 : decode cX12_fraction 11 = .ok (.iconst 0, 1) := by decide +kernel
theorem dX12_fraction_12 : decode cX12_fraction 12 = .ok (.putfield 1, 3) := by decide +kernel
theorem dX12_fraction_15 : decode cX12_fraction 15 = .ok (.aload_n 0, 1) := by decide +kernel
theorem dX12_fraction_16 : decode cX12_fraction 16 = .ok (.getfield 1, 3) := by decide +kernel
theorem dX12_fraction_19 : decode cX12_fraction 19 = .ok (.ifCond .le 5, 3) := by decide +kernel
theorem dX12_fraction_22 : decode cX12_fraction 22 = .ok (.iconst 0, 1) := by decide +kernel
theorem dX12_fraction_23 : decode cX12_fraction 23 = .ok (.ireturn, 1) := by decide +kernel
theorem dX12_fraction_24 : decode cX12_fraction 24 = .ok (.aload_n 0, 1) := by decide +kernel
theorem dX12_fraction_25 : decode cX12_fraction 25 = .ok (.invokevirtual 301, 3) := by decide +kernel
theorem dX12_fraction_28 : decode cX12_fraction 28 = .ok (.aload_n 0, 1) := by decide +kernel
theorem dX12_fraction_29 : decode cX12_fraction 29 = .ok (.aload_n 0, 1) := by decide +kernel
theorem dX12_fraction_30 : decode cX12_fraction 30 = .ok (.aload_n 0, 1) := by decide +kernel
theorem dX12_fraction_31 : decode cX12_fraction 31 = .ok (.getfield 568, 3) := by decide +kernel
theorem dX12_fraction_34 : decode cX12_fraction 34 = .ok (.aload_n 0, 1) := by decide +kernel
theorem dX12_fraction_35 : decode cX12_fraction 35 = .ok (.lload_n 1, 1) := by decide +kernel
theorem dX12_fraction_36 : decode cX12_fraction 36 = .ok (.invokevirtual 41, 3) := by decide +kernel
theorem dX12_fraction_39 : decode cX12_fraction 39 = .ok (.aload_n 0, 1) := by decide +kernel
theorem dX12_fraction_40 : decode cX12_fraction 40 = .ok (.lload_n 3, 1) := by decide +kernel
theorem dX12_fraction_41 : decode cX12_fraction 41 = .ok (.invokevirtual 41, 3) := by decide +kernel
theorem dX12_fraction_44 : decode cX12_fraction 44 = .ok (.invokevirtual 407, 3) := by decide +kernel
theorem dX12_fraction_47 : decode cX12_fraction 47 = .ok (.invokevirtual 578, 3) := by decide +kernel
theorem dX12_fraction_50 : decode cX12_fraction 50 = .ok (.ireturn, 1) := by decide +kernel
theorem dX12_apply_0 : decode cX12_apply 0 = .ok (.aload_n 0, 1) := by decide +kernel
theorem dX12_apply_1 : decode cX12_apply 1 = .ok (.iconst 0, 1) := by decide +kernel
theorem dX12_apply_2 : decode cX12_apply 2 = .ok (.putfield 1, 3) := by decide +kernel
theorem dX12_apply_5 : decode cX12_apply 5 = .ok (.aload_n 0, 1) := by decide +kernel
theorem dX12_apply_6 : decode cX12_apply 6 = .ok (.iload_n 2, 1) := by decide +kernel
theorem dX12_apply_7 : decode cX12_apply 7 = .ok (.invokevirtual 581, 3) := by decide +kernel
theorem dX12_apply_10 : decode cX12_apply 10 = .ok (.ifCond .eq 11, 3) := by decide +kernel
theorem dX12_apply_13 : decode cX12_apply 13 = .ok (.aload_n 0, 1) := by decide +kernel
theorem dX12_apply_14 : decode cX12_apply 14 = .ok (.iload_n 3, 1) := by decide +kernel
theorem dX12_apply_15 : decode cX12_apply 15 = .ok (.invokevirtual 581, 3) := by decide +kernel
theorem dX12_apply_18 : decode cX12_apply 18 = .ok (.ifCond .ne 6, 3) := by decide +kernel
theorem dX12_apply_21 : decode cX12_apply 21 = .ok (.bipush (-101), 2) := by decide +kernel
theorem dX12_apply_23 : decode cX12_apply 23 = .ok (.ireturn, 1) := by decide +kernel
theorem dX12_apply_24 : decode cX12_apply 24 = .ok (.iload_n 1, 1) := by decide +kernel
theorem dX12_apply_25 : decode cX12_apply 25 = .ok (.i2l, 1) := by decide +kernel
theorem dX12_apply_26 : decode cX12_apply 26 = .ok (.lconst 0, 1) := by decide +kernel
theorem dX12_apply_27 : decode cX12_apply 27 = .ok (.ldc2_w 584, 3) := by decide +kernel
theorem dX12_apply_30 : decode cX12_apply 30 = .ok (.invokestatic 571, 3) := by decide +kernel
theorem dX12_apply_33 : decode cX12_apply 33 = .ok (.ifCond .ne 6, 3) := by decide +kernel
theorem dX12_apply_36 : decode cX12_apply 36 = .ok (.bipush (-102), 2) := by decide +kernel
theorem dX12_apply_38 : decode cX12_apply 38 = .ok (.ireturn, 1) := by decide +kernel
theorem dX12_apply_39 : decode cX12_apply 39 = .ok (.aload_n 0, 1) := by decide +kernel
theorem dX12_apply_40 : decode cX12_apply 40 = .ok (.aload_n 0, 1) := by decide +kernel
theorem dX12_apply_41 : decode cX12_apply 41 = .ok (.aload_n 0, 1) := by decide +kernel
theorem dX12_apply_42 : decode cX12_apply 42 = .ok (.getfield 568, 3) := by decide +kernel
theorem dX12_apply_45 : decode cX12_apply 45 = .ok (.iload_n 1, 1) := by decide +kernel
theorem dX12_apply_46 : decode cX12_apply 46 = .ok (.iload_n 2, 1) := by decide +kernel
theorem dX12_apply_47 : decode cX12_apply 47 = .ok (.iload_n 3, 1) := by decide +kernel
theorem dX12_apply_48 : decode cX12_apply 48 = .ok (.invokevirtual 586, 3) := by decide +kernel
theorem dX12_apply_51 : decode cX12_apply 51 = .ok (.invokevirtual 578, 3) := by decide +kernel
theorem dX12_apply_54 : decode cX12_apply 54 = .ok (.ireturn, 1) := by decide +kernel
theorem dX12_plain_0 : decode cX12_plain 0 = .ok (.aload_n 0, 1) := by decide +kernel
theorem dX12_plain_1 : decode cX12_plain 1 = .ok (.iconst 0, 1) := by decide +kernel
theorem dX12_plain_2 : decode cX12_plain 2 = .ok (.putfield 1, 3) := by decide +kernel
theorem dX12_plain_5 : decode cX12_plain 5 = .ok (.aload_n 0, 1) := by decide +kernel
theorem dX12_plain_6 : decode cX12_plain 6 = .ok (.iload_n 1, 1) := by decide +kernel
theorem dX12_plain_7 : decode cX12_plain 7 = .ok (.invokevirtual 581, 3) := by decide +kernel
theorem dX12_plain_10 : decode cX12_plain 10 = .ok (.ifCond .eq 11, 3) := by decide +kernel
theorem dX12_plain_13 : decode cX12_plain 13 = .ok (.aload_n 0, 1) := by decide +kernel
theorem dX12_plain_14 : decode cX12_plain 14 = .ok (.iload_n 2, 1) := by decide +kernel
theorem dX12_plain_15 : decode cX12_plain 15 = .ok (.invokevirtual 581, 3) := by decide +kernel
theorem dX12_plain_18 : decode cX12_plain 18 = .ok (.ifCond .ne 6, 3) := by decide +kernel
theorem dX12_plain_21 : decode cX12_plain 21 = .ok (.bipush (-101), 2) := by decide +kernel
theorem dX12_plain_23 : decode cX12_plain 23 = .ok (.ireturn, 1) := by decide +kernel
theorem dX12_plain_24 : decode cX12_plain 24 = .ok (.aload_n 0, 1) := by decide +kernel
theorem dX12_plain_25 : decode cX12_plain 25 = .ok (.aload_n 0, 1) := by decide +kernel
theorem dX12_plain_26 : decode cX12_plain 26 = .ok (.iload_n 2, 1) := by decide +kernel
theorem dX12_plain_27 : decode cX12_plain 27 = .ok (.invokevirtual 298, 3) := by decide +kernel
theorem dX12_plain_30 : decode cX12_plain 30 = .ok (.ifCond .eq 7, 3) := by decide +kernel
theorem dX12_plain_33 : decode cX12_plain 33 = .ok (.iconst 1, 1) := by decide +kernel
theorem dX12_plain_34 : decode cX12_plain 34 = .ok (.goto 4, 3) := by decide +kernel
theorem dX12_plain_37 : decode cX12_plain 37 = .ok (.iconst 0, 1) := by decide +kernel
theorem dX12_plain_38 : decode cX12_plain 38 = .ok (.putfield 1, 3) := by decide +kernel
theorem dX12_plain_41 : decode cX12_plain 41 = .ok (.aload_n 0, 1) := by decide +kernel
theorem dX12_plain_42 : decode cX12_plain 42 = .ok (.getfield 1, 3) := by decide +kernel
theorem dX12_plain_45 : decode cX12_plain 45 = .ok (.ifCond .le 7, 3) := by decide +kernel
theorem dX12_plain_48 : decode cX12_plain 48 = .ok (.iconst 0, 1) := by decide +kernel
theorem dX12_plain_49 : decode cX12_plain 49 = .ok (.goto 18, 3) := by decide +kernel
theorem dX12_plain_52 : decode cX12_plain 52 = .ok (.aload_n 0, 1) := by decide +kernel
theorem dX12_plain_53 : decode cX12_plain 53 = .ok (.aload_n 0, 1) := by decide +kernel
theorem dX12_plain_54 : decode cX12_plain 54 = .ok (.aload_n 0, 1) := by decide +kernel
theorem dX12_plain_55 : decode cX12_plain 55 = .ok (.getfield 568, 3) := by decide +kernel
theorem dX12_plain_58 : decode cX12_plain 58 = .ok (.iconst 3, 1) := by decide +kernel
theorem dX12_plain_59 : decode cX12_plain 59 = .ok (.iload_n 1, 1) := by decide +kernel
theorem dX12_plain_60 : decode cX12_plain 60 = .ok (.iload_n 2, 1) := by decide +kernel
theorem dX12_plain_61 : decode cX12_plain 61 = .ok (.invokevirtual 586, 3) := by decide +kernel
theorem dX12_plain_64 : decode cX12_plain 64 = .ok (.invokevirtual 578, 3) := by decide +kernel
theorem dX12_plain_67 : decode cX12_plain 67 = .ok (.ireturn, 1) := by decide +kernel
theorem dX12_power_0 : decode cX12_power 0 = .ok (.aload_n 0, 1) := by decide +kernel
theorem dX12_power_1 : decode cX12_power 1 = .ok (.iconst 0, 1) := by decide +kernel
theorem dX12_power_2 : decode cX12_power 2 = .ok (.putfield 1, 3) := by decide +kernel
theorem dX12_power_5 : decode cX12_power 5 = .ok (.aload_n 0, 1) := by decide +kernel
theorem dX12_power_6 : decode cX12_power 6 = .ok (.iload_n 1, 1) := by decide +kernel
theorem dX12_power_7 : decode cX12_power 7 = .ok (.invokevirtual 581, 3) := by decide +kernel
theorem dX12_power_10 : decode cX12_power 10 = .ok (.ifCond .ne 6, 3) := by decide +kernel
theorem dX12_power_13 : decode cX12_power 13 = .ok (.bipush (-101), 2) := by decide +kernel
theorem dX12_power_15 : decode cX12_power 15 = .ok (.ireturn, 1) := by decide +kernel
theorem dX12_power_16 : decode cX12_power 16 = .ok (.iload_n 2, 1) := by decide +kernel
theorem dX12_power_17 : decode cX12_power 17 = .ok (.i2l, 1) := by decide +kernel
theorem dX12_power_18 : decode cX12_power 18 = .ok (.ldc2_w 590, 3) := by decide +kernel
theorem dX12_power_21 : decode cX12_power 21 = .ok (.ldc2_w 592, 3) := by decide +kernel
theorem dX12_power_24 : decode cX12_power 24 = .ok (.invokestatic 571, 3) := by decide +kernel
theorem dX12_power_27 : decode cX12_power 27 = .ok (.ifCond .ne 6, 3) := by decide +kernel
theorem dX12_power_30 : decode cX12_power 30 = .ok (.bipush (-102), 2) := by decide +kernel
theorem dX12_power_32 : decode cX12_power 32 = .ok (.ireturn, 1) := by decide +kernel
theorem dX12_power_33 : decode cX12_power 33 = .ok (.aload_n 0, 1) := by decide +kernel
theorem dX12_power_34 : decode cX12_power 34 = .ok (.aload_n 0, 1) := by decide +kernel
theorem dX12_power_35 : decode cX12_power 35 = .ok (.aload_n 0, 1) := by decide +kernel
theorem dX12_power_36 : decode cX12_power 36 = .ok (.getfield 568, 3) := by decide +kernel
theorem dX12_power_39 : decode cX12_power 39 = .ok (.iload_n 1, 1) := by decide +kernel
theorem dX12_power_40 : decode cX12_power 40 = .ok (.iload_n 2, 1) := by decide +kernel
theorem dX12_power_41 : decode cX12_power 41 = .ok (.invokevirtual 594, 3) := by decide +kernel
theorem dX12_power_44 : decode cX12_power 44 = .ok (.invokevirtual 578, 3) := by decide +kernel
theorem dX12_power_47 : decode cX12_power 47 = .ok (.ireturn, 1) := by decide +kernel
theorem dX12_root_0 : decode cX12_root 0 = .ok (.aload_n 0, 1) := by decide +kernel
theorem dX12_root_1 : decode cX12_root 1 = .ok (.iconst 0, 1) := by decide +kernel
theorem dX12_root_2 : decode cX12_root 2 = .ok (.putfield 1, 3) := by decide +kernel
theorem dX12_root_5 : decode cX12_root 5 = .ok (.aload_n 0, 1) := by decide +kernel
theorem dX12_root_6 : decode cX12_root 6 = .ok (.iload_n 1, 1) := by decide +kernel
theorem dX12_root_7 : decode cX12_root 7 = .ok (.invokevirtual 581, 3) := by decide +kernel
theorem dX12_root_10 : decode cX12_root 10 = .ok (.ifCond .ne 6, 3) := by decide +kernel
theorem dX12_root_13 : decode cX12_root 13 = .ok (.bipush (-101), 2) := by decide +kernel
theorem dX12_root_15 : decode cX12_root 15 = .ok (.ireturn, 1) := by decide +kernel
theorem dX12_root_16 : decode cX12_root 16 = .ok (.iload_n 2, 1) := by decide +kernel
theorem dX12_root_17 : decode cX12_root 17 = .ok (.i2l, 1) := by decide +kernel
theorem dX12_root_18 : decode cX12_root 18 = .ok (.ldc2_w 510, 3) := by decide +kernel
theorem dX12_root_21 : decode cX12_root 21 = .ok (.ldc2_w 597, 3) := by decide +kernel
theorem dX12_root_24 : decode cX12_root 24 = .ok (.invokestatic 571, 3) := by decide +kernel
theorem dX12_root_27 : decode cX12_root 27 = .ok (.ifCond .ne 6, 3) := by decide +kernel
theorem dX12_root_30 : decode cX12_root 30 = .ok (.bipush (-102), 2) := by decide +kernel
theorem dX12_root_32 : decode cX12_root 32 = .ok (.ireturn, 1) := by decide +kernel
theorem dX12_root_33 : decode cX12_root 33 = .ok (.aload_n 0, 1) := by decide +kernel
theorem dX12_root_34 : decode cX12_root 34 = .ok (.aload_n 0, 1) := by decide +kernel
theorem dX12_root_35 : decode cX12_root 35 = .ok (.aload_n 0, 1) := by decide +kernel
theorem dX12_root_36 : decode cX12_root 36 = .ok (.getfield 568, 3) := by decide +kernel
theorem dX12_root_39 : decode cX12_root 39 = .ok (.iload_n 1, 1) := by decide +kernel
theorem dX12_root_40 : decode cX12_root 40 = .ok (.iload_n 2, 1) := by decide +kernel
theorem dX12_root_41 : decode cX12_root 41 = .ok (.invokevirtual 599, 3) := by decide +kernel
theorem dX12_root_44 : decode cX12_root 44 = .ok (.invokevirtual 578, 3) := by decide +kernel
theorem dX12_root_47 : decode cX12_root 47 = .ok (.ireturn, 1) := by decide +kernel
theorem dX12_turn_0 : decode cX12_turn 0 = .ok (.aload_n 0, 1) := by decide +kernel
theorem dX12_turn_1 : decode cX12_turn 1 = .ok (.iconst 0, 1) := by decide +kernel
theorem dX12_turn_2 : decode cX12_turn 2 = .ok (.putfield 1, 3) := by decide +kernel
theorem dX12_turn_5 : decode cX12_turn 5 = .ok (.iload_n 3, 1) := by decide +kernel
theorem dX12_turn_6 : decode cX12_turn 6 = .ok (.i2l, 1) := by decide +kernel
theorem dX12_turn_7 : decode cX12_turn 7 = .ok (.lconst 1, 1) := by decide +kernel
theorem dX12_turn_8 : decode cX12_turn 8 = .ok (.ldc2_w 602, 3) := by decide +kernel
theorem dX12_turn_11 : decode cX12_turn 11 = .ok (.invokestatic 571, 3) := by decide +kernel
theorem dX12_turn_14 : decode cX12_turn 14 = .ok (.ifCond .ne 6, 3) := by decide +kernel
theorem dX12_turn_17 : decode cX12_turn 17 = .ok (.bipush (-102), 2) := by decide +kernel
theorem dX12_turn_19 : decode cX12_turn 19 = .ok (.ireturn, 1) := by decide +kernel
theorem dX12_turn_20 : decode cX12_turn 20 = .ok (.aload_n 0, 1) := by decide +kernel
theorem dX12_turn_21 : decode cX12_turn 21 = .ok (.aload_n 0, 1) := by decide +kernel
theorem dX12_turn_22 : decode cX12_turn 22 = .ok (.aload_n 0, 1) := by decide +kernel
theorem dX12_turn_23 : decode cX12_turn 23 = .ok (.getfield 568, 3) := by decide +kernel
theorem dX12_turn_26 : decode cX12_turn 26 = .ok (.lload_n 1, 1) := by decide +kernel
theorem dX12_turn_27 : decode cX12_turn 27 = .ok (.iload_n 3, 1) := by decide +kernel
theorem dX12_turn_28 : decode cX12_turn 28 = .ok (.iload 4, 2) := by decide +kernel
theorem dX12_turn_30 : decode cX12_turn 30 = .ok (.invokevirtual 604, 3) := by decide +kernel
theorem dX12_turn_33 : decode cX12_turn 33 = .ok (.invokevirtual 578, 3) := by decide +kernel
theorem dX12_turn_36 : decode cX12_turn 36 = .ok (.ireturn, 1) := by decide +kernel
theorem dX12_beside_0 : decode cX12_beside 0 = .ok (.aload_n 0, 1) := by decide +kernel
theorem dX12_beside_1 : decode cX12_beside 1 = .ok (.iconst 0, 1) := by decide +kernel
theorem dX12_beside_2 : decode cX12_beside 2 = .ok (.putfield 1, 3) := by decide +kernel
theorem dX12_beside_5 : decode cX12_beside 5 = .ok (.aload_n 0, 1) := by decide +kernel
theorem dX12_beside_6 : decode cX12_beside 6 = .ok (.iload_n 1, 1) := by decide +kernel
theorem dX12_beside_7 : decode cX12_beside 7 = .ok (.invokevirtual 581, 3) := by decide +kernel
theorem dX12_beside_10 : decode cX12_beside 10 = .ok (.ifCond .ne 6, 3) := by decide +kernel
theorem dX12_beside_13 : decode cX12_beside 13 = .ok (.bipush (-101), 2) := by decide +kernel
theorem dX12_beside_15 : decode cX12_beside 15 = .ok (.ireturn, 1) := by decide +kernel
theorem dX12_beside_16 : decode cX12_beside 16 = .ok (.iload_n 2, 1) := by decide +kernel
theorem dX12_beside_17 : decode cX12_beside 17 = .ok (.i2l, 1) := by decide +kernel
theorem dX12_beside_18 : decode cX12_beside 18 = .ok (.lconst 0, 1) := by decide +kernel
theorem dX12_beside_19 : decode cX12_beside 19 = .ok (.aload_n 0, 1) := by decide +kernel
theorem dX12_beside_20 : decode cX12_beside 20 = .ok (.iload_n 1, 1) := by decide +kernel
theorem dX12_beside_21 : decode cX12_beside 21 = .ok (.invokevirtual 608, 3) := by decide +kernel
theorem dX12_beside_24 : decode cX12_beside 24 = .ok (.iconst 1, 1) := by decide +kernel
theorem dX12_beside_25 : decode cX12_beside 25 = .ok (.isub, 1) := by decide +kernel
theorem dX12_beside_26 : decode cX12_beside 26 = .ok (.i2l, 1) := by decide +kernel
theorem dX12_beside_27 : decode cX12_beside 27 = .ok (.invokestatic 571, 3) := by decide +kernel
theorem dX12_beside_30 : decode cX12_beside 30 = .ok (.ifCond .ne 5, 3) := by decide +kernel
theorem dX12_beside_33 : decode cX12_beside 33 = .ok (.iconst (-1), 1) := by decide +kernel
theorem dX12_beside_34 : decode cX12_beside 34 = .ok (.ireturn, 1) := by decide +kernel
theorem dX12_beside_35 : decode cX12_beside 35 = .ok (.aload_n 0, 1) := by decide +kernel
theorem dX12_beside_36 : decode cX12_beside 36 = .ok (.aload_n 0, 1) := by decide +kernel
theorem dX12_beside_37 : decode cX12_beside 37 = .ok (.getfield 568, 3) := by decide +kernel
theorem dX12_beside_40 : decode cX12_beside 40 = .ok (.iload_n 1, 1) := by decide +kernel
theorem dX12_beside_41 : decode cX12_beside 41 = .ok (.invokevirtual 611, 3) := by decide +kernel
theorem dX12_beside_44 : decode cX12_beside 44 = .ok (.aload_n 0, 1) := by decide +kernel
theorem dX12_beside_45 : decode cX12_beside 45 = .ok (.getfield 292, 3) := by decide +kernel
theorem dX12_beside_48 : decode cX12_beside 48 = .ok (.aload_n 0, 1) := by decide +kernel
theorem dX12_beside_49 : decode cX12_beside 49 = .ok (.getfield 568, 3) := by decide +kernel
theorem dX12_beside_52 : decode cX12_beside 52 = .ok (.iload_n 2, 1) := by decide +kernel
theorem dX12_beside_53 : decode cX12_beside 53 = .ok (.iastore, 1) := by decide +kernel
theorem dX12_beside_54 : decode cX12_beside 54 = .ok (.aload_n 0, 1) := by decide +kernel
theorem dX12_beside_55 : decode cX12_beside 55 = .ok (.iconst 0, 1) := by decide +kernel
theorem dX12_beside_56 : decode cX12_beside 56 = .ok (.invokevirtual 578, 3) := by decide +kernel
theorem dX12_beside_59 : decode cX12_beside 59 = .ok (.ireturn, 1) := by decide +kernel
theorem dX12_value_0 : decode cX12_value 0 = .ok (.aload_n 0, 1) := by decide +kernel
theorem dX12_value_1 : decode cX12_value 1 = .ok (.iconst 0, 1) := by decide +kernel
theorem dX12_value_2 : decode cX12_value 2 = .ok (.putfield 1, 3) := by decide +kernel
theorem dX12_value_5 : decode cX12_value 5 = .ok (.aload_n 0, 1) := by decide +kernel
theorem dX12_value_6 : decode cX12_value 6 = .ok (.iload_n 1, 1) := by decide +kernel
theorem dX12_value_7 : decode cX12_value 7 = .ok (.invokevirtual 617, 3) := by decide +kernel
theorem dX12_value_10 : decode cX12_value 10 = .ok (.ifCond .eq 11, 3) := by decide +kernel
theorem dX12_value_13 : decode cX12_value 13 = .ok (.aload_n 0, 1) := by decide +kernel
theorem dX12_value_14 : decode cX12_value 14 = .ok (.iload_n 2, 1) := by decide +kernel
theorem dX12_value_15 : decode cX12_value 15 = .ok (.invokevirtual 581, 3) := by decide +kernel
theorem dX12_value_18 : decode cX12_value 18 = .ok (.ifCond .ne 6, 3) := by decide +kernel
theorem dX12_value_21 : decode cX12_value 21 = .ok (.bipush (-101), 2) := by decide +kernel
theorem dX12_value_23 : decode cX12_value 23 = .ok (.ireturn, 1) := by decide +kernel
theorem dX12_value_24 : decode cX12_value 24 = .ok (.aload_n 0, 1) := by decide +kernel
theorem dX12_value_25 : decode cX12_value 25 = .ok (.getfield 277, 3) := by decide +kernel
theorem dX12_value_28 : decode cX12_value 28 = .ok (.iload_n 2, 1) := by decide +kernel
theorem dX12_value_29 : decode cX12_value 29 = .ok (.iaload, 1) := by decide +kernel
theorem dX12_value_30 : decode cX12_value 30 = .ok (.aload_n 0, 1) := by decide +kernel
theorem dX12_value_31 : decode cX12_value 31 = .ok (.getfield 283, 3) := by decide +kernel
theorem dX12_value_34 : decode cX12_value 34 = .ok (.if_icmp .le 6, 3) := by decide +kernel
theorem dX12_value_37 : decode cX12_value 37 = .ok (.bipush (-105), 2) := by decide +kernel
theorem dX12_value_39 : decode cX12_value 39 = .ok (.ireturn, 1) := by decide +kernel
theorem dX12_value_40 : decode cX12_value 40 = .ok (.aload_n 0, 1) := by decide +kernel
theorem dX12_value_41 : decode cX12_value 41 = .ok (.invokevirtual 301, 3) := by decide +kernel
theorem dX12_value_44 : decode cX12_value 44 = .ok (.aload_n 0, 1) := by decide +kernel
theorem dX12_value_45 : decode cX12_value 45 = .ok (.iload_n 1, 1) := by decide +kernel
theorem dX12_value_46 : decode cX12_value 46 = .ok (.invokevirtual 614, 3) := by decide +kernel
theorem dX12_value_49 : decode cX12_value 49 = .ok (.istore_n 3, 1) := by decide +kernel
theorem dX12_value_50 : decode cX12_value 50 = .ok (.iconst 0, 1) := by decide +kernel
theorem dX12_value_51 : decode cX12_value 51 = .ok (.istore 4, 2) := by decide +kernel
theorem dX12_value_53 : decode cX12_value 53 = .ok (.iload 4, 2) := by decide +kernel
theorem dX12_value_55 : decode cX12_value 55 = .ok (.iload_n 3, 1) := by decide +kernel
theorem dX12_value_56 : decode cX12_value 56 = .ok (.if_icmp .gt 32, 3) := by decide +kernel
theorem dX12_value_59 : decode cX12_value 59 = .ok (.aload_n 0, 1) := by decide +kernel
theorem dX12_value_60 : decode cX12_value 60 = .ok (.getfield 453, 3) := by decide +kernel
theorem dX12_value_63 : decode cX12_value 63 = .ok (.iload 4, 2) := by decide +kernel
theorem dX12_value_65 : decode cX12_value 65 = .ok (.aload_n 0, 1) := by decide +kernel
theorem dX12_value_66 : decode cX12_value 66 = .ok (.aload_n 0, 1) := by decide +kernel
theorem dX12_value_67 : decode cX12_value 67 = .ok (.getfield 531, 3) := by decide +kernel
theorem dX12_value_70 : decode cX12_value 70 = .ok (.bipush 13, 2) := by decide +kernel
theorem dX12_value_72 : decode cX12_value 72 = .ok (.iload_n 1, 1) := by decide +kernel
theorem dX12_value_73 : decode cX12_value 73 = .ok (.imul, 1) := by decide +kernel
theorem dX12_value_74 : decode cX12_value 74 = .ok (.iload 4, 2) := by decide +kernel
theorem dX12_value_76 : decode cX12_value 76 = .ok (.iadd, 1) := by decide +kernel
theorem dX12_value_77 : decode cX12_value 77 = .ok (.laload, 1) := by decide +kernel
theorem dX12_value_78 : decode cX12_value 78 = .ok (.invokevirtual 41, 3) := by decide +kernel
theorem dX12_value_81 : decode cX12_value 81 = .ok (.iastore, 1) := by decide +kernel
theorem dX12_value_82 : decode cX12_value 82 = .ok (.iinc 4 1, 3) := by decide +kernel
theorem dX12_value_85 : decode cX12_value 85 = .ok (.goto (-32), 3) := by decide +kernel
theorem dX12_value_88 : decode cX12_value 88 = .ok (.iload_n 3, 1) := by decide +kernel
theorem dX12_value_89 : decode cX12_value 89 = .ok (.ifCond .ge 14, 3) := by decide +kernel
theorem dX12_value_92 : decode cX12_value 92 = .ok (.aload_n 0, 1) := by decide +kernel
theorem dX12_value_93 : decode cX12_value 93 = .ok (.getfield 453, 3) := by decide +kernel
theorem dX12_value_96 : decode cX12_value 96 = .ok (.iconst 0, 1) := by decide +kernel
theorem dX12_value_97 : decode cX12_value 97 = .ok (.aload_n 0, 1) := by decide +kernel
theorem dX12_value_98 : decode cX12_value 98 = .ok (.lconst 0, 1) := by decide +kernel
theorem dX12_value_99 : decode cX12_value 99 = .ok (.invokevirtual 41, 3) := by decide +kernel
theorem dX12_value_102 : decode cX12_value 102 = .ok (.iastore, 1) := by decide +kernel
theorem dX12_value_103 : decode cX12_value 103 = .ok (.aload_n 0, 1) := by decide +kernel
theorem dX12_value_104 : decode cX12_value 104 = .ok (.aload_n 0, 1) := by decide +kernel
theorem dX12_value_105 : decode cX12_value 105 = .ok (.aload_n 0, 1) := by decide +kernel
theorem dX12_value_106 : decode cX12_value 106 = .ok (.getfield 568, 3) := by decide +kernel
theorem dX12_value_109 : decode cX12_value 109 = .ok (.iload_n 2, 1) := by decide +kernel
theorem dX12_value_110 : decode cX12_value 110 = .ok (.iload_n 3, 1) := by decide +kernel
theorem dX12_value_111 : decode cX12_value 111 = .ok (.ifCond .ge 7, 3) := by decide +kernel
theorem dX12_value_114 : decode cX12_value 114 = .ok (.iconst 0, 1) := by decide +kernel
theorem dX12_value_115 : decode cX12_value 115 = .ok (.goto 4, 3) := by decide +kernel
theorem dX12_value_118 : decode cX12_value 118 = .ok (.iload_n 3, 1) := by decide +kernel
theorem dX12_value_119 : decode cX12_value 119 = .ok (.invokevirtual 459, 3) := by decide +kernel
theorem dX12_value_122 : decode cX12_value 122 = .ok (.invokevirtual 578, 3) := by decide +kernel
theorem dX12_value_125 : decode cX12_value 125 = .ok (.ireturn, 1) := by decide +kernel
theorem dX12_rootOf_0 : decode cX12_rootOf 0 = .ok (.aload_n 0, 1) := by decide +kernel
theorem dX12_rootOf_1 : decode cX12_rootOf 1 = .ok (.iconst 0, 1) := by decide +kernel
theorem dX12_rootOf_2 : decode cX12_rootOf 2 = .ok (.putfield 1, 3) := by decide +kernel
theorem dX12_rootOf_5 : decode cX12_rootOf 5 = .ok (.aload_n 0, 1) := by decide +kernel
theorem dX12_rootOf_6 : decode cX12_rootOf 6 = .ok (.iload_n 1, 1) := by decide +kernel
theorem dX12_rootOf_7 : decode cX12_rootOf 7 = .ok (.invokevirtual 617, 3) := by decide +kernel
theorem dX12_rootOf_10 : decode cX12_rootOf 10 = .ok (.ifCond .ne 6, 3) := by decide +kernel
theorem dX12_rootOf_13 : decode cX12_rootOf 13 = .ok (.bipush (-101), 2) := by decide +kernel
theorem dX12_rootOf_15 : decode cX12_rootOf 15 = .ok (.ireturn, 1) := by decide +kernel
theorem dX12_rootOf_16 : decode cX12_rootOf 16 = .ok (.aload_n 0, 1) := by decide +kernel
theorem dX12_rootOf_17 : decode cX12_rootOf 17 = .ok (.iload_n 1, 1) := by decide +kernel
theorem dX12_rootOf_18 : decode cX12_rootOf 18 = .ok (.invokevirtual 614, 3) := by decide +kernel
theorem dX12_rootOf_21 : decode cX12_rootOf 21 = .ok (.ifCond .ge 6, 3) := by decide +kernel
theorem dX12_rootOf_24 : decode cX12_rootOf 24 = .ok (.bipush (-103), 2) := by decide +kernel
theorem dX12_rootOf_26 : decode cX12_rootOf 26 = .ok (.ireturn, 1) := by decide +kernel
theorem dX12_rootOf_27 : decode cX12_rootOf 27 = .ok (.aload_n 0, 1) := by decide +kernel
theorem dX12_rootOf_28 : decode cX12_rootOf 28 = .ok (.iload_n 1, 1) := by decide +kernel
theorem dX12_rootOf_29 : decode cX12_rootOf 29 = .ok (.invokevirtual 632, 3) := by decide +kernel
theorem dX12_rootOf_32 : decode cX12_rootOf 32 = .ok (.iload_n 2, 1) := by decide +kernel
theorem dX12_rootOf_33 : decode cX12_rootOf 33 = .ok (.i2l, 1) := by decide +kernel
theorem dX12_rootOf_34 : decode cX12_rootOf 34 = .ok (.lconst 0, 1) := by decide +kernel
theorem dX12_rootOf_35 : decode cX12_rootOf 35 = .ok (.aload_n 0, 1) := by decide +kernel
theorem dX12_rootOf_36 : decode cX12_rootOf 36 = .ok (.getfield 626, 3) := by decide +kernel
theorem dX12_rootOf_39 : decode cX12_rootOf 39 = .ok (.iconst 1, 1) := by decide +kernel
theorem dX12_rootOf_40 : decode cX12_rootOf 40 = .ok (.isub, 1) := by decide +kernel
theorem dX12_rootOf_41 : decode cX12_rootOf 41 = .ok (.i2l, 1) := by decide +kernel
theorem dX12_rootOf_42 : decode cX12_rootOf 42 = .ok (.invokestatic 571, 3) := by decide +kernel
theorem dX12_rootOf_45 : decode cX12_rootOf 45 = .ok (.ifCond .ne 5, 3) := by decide +kernel
theorem dX12_rootOf_48 : decode cX12_rootOf 48 = .ok (.iconst (-1), 1) := by decide +kernel
theorem dX12_rootOf_49 : decode cX12_rootOf 49 = .ok (.ireturn, 1) := by decide +kernel
theorem dX12_rootOf_50 : decode cX12_rootOf 50 = .ok (.iconst (-1), 1) := by decide +kernel
theorem dX12_rootOf_51 : decode cX12_rootOf 51 = .ok (.istore_n 3, 1) := by decide +kernel
theorem dX12_rootOf_52 : decode cX12_rootOf 52 = .ok (.iconst 0, 1) := by decide +kernel
theorem dX12_rootOf_53 : decode cX12_rootOf 53 = .ok (.istore 4, 2) := by decide +kernel
theorem dX12_rootOf_55 : decode cX12_rootOf 55 = .ok (.iload 4, 2) := by decide +kernel
theorem dX12_rootOf_57 : decode cX12_rootOf 57 = .ok (.aload_n 0, 1) := by decide +kernel
theorem dX12_rootOf_58 : decode cX12_rootOf 58 = .ok (.getfield 626, 3) := by decide +kernel
theorem dX12_rootOf_61 : decode cX12_rootOf 61 = .ok (.if_icmp .ge 77, 3) := by decide +kernel
theorem dX12_rootOf_64 : decode cX12_rootOf 64 = .ok (.iconst 0, 1) := by decide +kernel
theorem dX12_rootOf_65 : decode cX12_rootOf 65 = .ok (.istore 5, 2) := by decide +kernel
theorem dX12_rootOf_67 : decode cX12_rootOf 67 = .ok (.iconst 0, 1) := by decide +kernel
theorem dX12_rootOf_68 : decode cX12_rootOf 68 = .ok (.istore 6, 2) := by decide +kernel
theorem dX12_rootOf_70 : decode cX12_rootOf 70 = .ok (.iload 6, 2) := by decide +kernel
theorem dX12_rootOf_72 : decode cX12_rootOf 72 = .ok (.aload_n 0, 1) := by decide +kernel
theorem dX12_rootOf_73 : decode cX12_rootOf 73 = .ok (.getfield 626, 3) := by decide +kernel
theorem dX12_rootOf_76 : decode cX12_rootOf 76 = .ok (.if_icmp .ge 43, 3) := by decide +kernel
theorem dX12_rootOf_79 : decode cX12_rootOf 79 = .ok (.iload 5, 2) := by decide +kernel
theorem dX12_rootOf_81 : decode cX12_rootOf 81 = .ok (.iload 6, 2) := by decide +kernel
theorem dX12_rootOf_83 : decode cX12_rootOf 83 = .ok (.iload 4, 2) := by decide +kernel
theorem dX12_rootOf_85 : decode cX12_rootOf 85 = .ok (.if_icmp .eq 24, 3) := by decide +kernel
theorem dX12_rootOf_88 : decode cX12_rootOf 88 = .ok (.aload_n 0, 1) := by decide +kernel
theorem dX12_rootOf_89 : decode cX12_rootOf 89 = .ok (.bipush 120, 2) := by decide +kernel
theorem dX12_rootOf_91 : decode cX12_rootOf 91 = .ok (.iload 6, 2) := by decide +kernel
theorem dX12_rootOf_93 : decode cX12_rootOf 93 = .ok (.iadd, 1) := by decide +kernel
theorem dX12_rootOf_94 : decode cX12_rootOf 94 = .ok (.bipush 120, 2) := by decide +kernel
theorem dX12_rootOf_96 : decode cX12_rootOf 96 = .ok (.iload 4, 2) := by decide +kernel
theorem dX12_rootOf_98 : decode cX12_rootOf 98 = .ok (.iadd, 1) := by decide +kernel
theorem dX12_rootOf_99 : decode cX12_rootOf 99 = .ok (.invokevirtual 635, 3) := by decide +kernel
theorem dX12_rootOf_102 : decode cX12_rootOf 102 = .ok (.ifCond .ge 7, 3) := by decide +kernel
theorem dX12_rootOf_105 : decode cX12_rootOf 105 = .ok (.iconst 1, 1) := by decide +kernel
theorem dX12_rootOf_106 : decode cX12_rootOf 106 = .ok (.goto 4, 3) := by decide +kernel
theorem dX12_rootOf_109 : decode cX12_rootOf 109 = .ok (.iconst 0, 1) := by decide +kernel
theorem dX12_rootOf_110 : decode cX12_rootOf 110 = .ok (.iadd, 1) := by decide +kernel
theorem dX12_rootOf_111 : decode cX12_rootOf 111 = .ok (.istore 5, 2) := by decide +kernel
theorem dX12_rootOf_113 : decode cX12_rootOf 113 = .ok (.iinc 6 1, 3) := by decide +kernel
theorem dX12_rootOf_116 : decode cX12_rootOf 116 = .ok (.goto (-46), 3) := by decide +kernel
theorem dX12_rootOf_119 : decode cX12_rootOf 119 = .ok (.iload 5, 2) := by decide +kernel
theorem dX12_rootOf_121 : decode cX12_rootOf 121 = .ok (.iload_n 2, 1) := by decide +kernel
theorem dX12_rootOf_122 : decode cX12_rootOf 122 = .ok (.if_icmp .ne 8, 3) := by decide +kernel
theorem dX12_rootOf_125 : decode cX12_rootOf 125 = .ok (.iload 4, 2) := by decide +kernel
theorem dX12_rootOf_127 : decode cX12_rootOf 127 = .ok (.goto 4, 3) := by decide +kernel
theorem dX12_rootOf_130 : decode cX12_rootOf 130 = .ok (.iload_n 3, 1) := by decide +kernel
theorem dX12_rootOf_131 : decode cX12_rootOf 131 = .ok (.istore_n 3, 1) := by decide +kernel
theorem dX12_rootOf_132 : decode cX12_rootOf 132 = .ok (.iinc 4 1, 3) := by decide +kernel
theorem dX12_rootOf_135 : decode cX12_rootOf 135 = .ok (.goto (-80), 3) := by decide +kernel
theorem dX12_rootOf_138 : decode cX12_rootOf 138 = .ok (.aload_n 0, 1) := by decide +kernel
theorem dX12_rootOf_139 : decode cX12_rootOf 139 = .ok (.invokevirtual 301, 3) := by decide +kernel
theorem dX12_rootOf_142 : decode cX12_rootOf 142 = .ok (.aload_n 0, 1) := by decide +kernel
theorem dX12_rootOf_143 : decode cX12_rootOf 143 = .ok (.bipush 120, 2) := by decide +kernel
theorem dX12_rootOf_145 : decode cX12_rootOf 145 = .ok (.iload_n 3, 1) := by decide +kernel
theorem dX12_rootOf_146 : decode cX12_rootOf 146 = .ok (.iadd, 1) := by decide +kernel
theorem dX12_rootOf_147 : decode cX12_rootOf 147 = .ok (.invokevirtual 305, 3) := by decide +kernel
theorem dX12_rootOf_150 : decode cX12_rootOf 150 = .ok (.istore 4, 2) := by decide +kernel
theorem dX12_rootOf_152 : decode cX12_rootOf 152 = .ok (.aload_n 0, 1) := by decide +kernel
theorem dX12_rootOf_153 : decode cX12_rootOf 153 = .ok (.aload_n 0, 1) := by decide +kernel
theorem dX12_rootOf_154 : decode cX12_rootOf 154 = .ok (.aload_n 0, 1) := by decide +kernel
theorem dX12_rootOf_155 : decode cX12_rootOf 155 = .ok (.getfield 568, 3) := by decide +kernel
theorem dX12_rootOf_158 : decode cX12_rootOf 158 = .ok (.iload 4, 2) := by decide +kernel
theorem dX12_rootOf_160 : decode cX12_rootOf 160 = .ok (.aload_n 0, 1) := by decide +kernel
theorem dX12_rootOf_161 : decode cX12_rootOf 161 = .ok (.getfield 292, 3) := by decide +kernel
theorem dX12_rootOf_164 : decode cX12_rootOf 164 = .ok (.bipush 120, 2) := by decide +kernel
theorem dX12_rootOf_166 : decode cX12_rootOf 166 = .ok (.iload_n 3, 1) := by decide +kernel
theorem dX12_rootOf_167 : decode cX12_rootOf 167 = .ok (.iadd, 1) := by decide +kernel
theorem dX12_rootOf_168 : decode cX12_rootOf 168 = .ok (.iaload, 1) := by decide +kernel
theorem dX12_rootOf_169 : decode cX12_rootOf 169 = .ok (.invokevirtual 295, 3) := by decide +kernel
theorem dX12_rootOf_172 : decode cX12_rootOf 172 = .ok (.invokevirtual 578, 3) := by decide +kernel
theorem dX12_rootOf_175 : decode cX12_rootOf 175 = .ok (.ireturn, 1) := by decide +kernel
theorem dX12_common_0 : decode cX12_common 0 = .ok (.aload_n 0, 1) := by decide +kernel
theorem dX12_common_1 : decode cX12_common 1 = .ok (.iconst 0, 1) := by decide +kernel
theorem dX12_common_2 : decode cX12_common 2 = .ok (.putfield 1, 3) := by decide +kernel
theorem dX12_common_5 : decode cX12_common 5 = .ok (.aload_n 0, 1) := by decide +kernel
theorem dX12_common_6 : decode cX12_common 6 = .ok (.iload_n 1, 1) := by decide +kernel
theorem dX12_common_7 : decode cX12_common 7 = .ok (.invokevirtual 581, 3) := by decide +kernel
theorem dX12_common_10 : decode cX12_common 10 = .ok (.ifCond .eq 11, 3) := by decide +kernel
theorem dX12_common_13 : decode cX12_common 13 = .ok (.aload_n 0, 1) := by decide +kernel
theorem dX12_common_14 : decode cX12_common 14 = .ok (.iload_n 2, 1) := by decide +kernel
theorem dX12_common_15 : decode cX12_common 15 = .ok (.invokevirtual 581, 3) := by decide +kernel
theorem dX12_common_18 : decode cX12_common 18 = .ok (.ifCond .ne 6, 3) := by decide +kernel
theorem dX12_common_21 : decode cX12_common 21 = .ok (.bipush (-101), 2) := by decide +kernel
theorem dX12_common_23 : decode cX12_common 23 = .ok (.ireturn, 1) := by decide +kernel
theorem dX12_common_24 : decode cX12_common 24 = .ok (.aload_n 0, 1) := by decide +kernel
theorem dX12_common_25 : decode cX12_common 25 = .ok (.getfield 277, 3) := by decide +kernel
theorem dX12_common_28 : decode cX12_common 28 = .ok (.iload_n 1, 1) := by decide +kernel
theorem dX12_common_29 : decode cX12_common 29 = .ok (.iaload, 1) := by decide +kernel
theorem dX12_common_30 : decode cX12_common 30 = .ok (.aload_n 0, 1) := by decide +kernel
theorem dX12_common_31 : decode cX12_common 31 = .ok (.getfield 277, 3) := by decide +kernel
theorem dX12_common_34 : decode cX12_common 34 = .ok (.iload_n 2, 1) := by decide +kernel
theorem dX12_common_35 : decode cX12_common 35 = .ok (.iaload, 1) := by decide +kernel
theorem dX12_common_36 : decode cX12_common 36 = .ok (.imul, 1) := by decide +kernel
theorem dX12_common_37 : decode cX12_common 37 = .ok (.aload_n 0, 1) := by decide +kernel
theorem dX12_common_38 : decode cX12_common 38 = .ok (.getfield 283, 3) := by decide +kernel
theorem dX12_common_41 : decode cX12_common 41 = .ok (.if_icmp .le 6, 3) := by decide +kernel
theorem dX12_common_44 : decode cX12_common 44 = .ok (.bipush (-105), 2) := by decide +kernel
theorem dX12_common_46 : decode cX12_common 46 = .ok (.ireturn, 1) := by decide +kernel
theorem dX12_common_47 : decode cX12_common 47 = .ok (.aload_n 0, 1) := by decide +kernel
theorem dX12_common_48 : decode cX12_common 48 = .ok (.iload_n 1, 1) := by decide +kernel
theorem dX12_common_49 : decode cX12_common 49 = .ok (.iload_n 2, 1) := by decide +kernel
theorem dX12_common_50 : decode cX12_common 50 = .ok (.invokevirtual 641, 3) := by decide +kernel
theorem dX12_common_53 : decode cX12_common 53 = .ok (.istore_n 3, 1) := by decide +kernel
theorem dX12_common_54 : decode cX12_common 54 = .ok (.aload_n 0, 1) := by decide +kernel
theorem dX12_common_55 : decode cX12_common 55 = .ok (.aload_n 0, 1) := by decide +kernel
theorem dX12_common_56 : decode cX12_common 56 = .ok (.aload_n 0, 1) := by decide +kernel
theorem dX12_common_57 : decode cX12_common 57 = .ok (.getfield 568, 3) := by decide +kernel
theorem dX12_common_60 : decode cX12_common 60 = .ok (.iload_n 3, 1) := by decide +kernel
theorem dX12_common_61 : decode cX12_common 61 = .ok (.iload_n 1, 1) := by decide +kernel
theorem dX12_common_62 : decode cX12_common 62 = .ok (.iload_n 2, 1) := by decide +kernel
theorem dX12_common_63 : decode cX12_common 63 = .ok (.iconst 0, 1) := by decide +kernel
theorem dX12_common_64 : decode cX12_common 64 = .ok (.aload_n 0, 1) := by decide +kernel
theorem dX12_common_65 : decode cX12_common 65 = .ok (.getfield 638, 3) := by decide +kernel
theorem dX12_common_68 : decode cX12_common 68 = .ok (.i2l, 1) := by decide +kernel
theorem dX12_common_69 : decode cX12_common 69 = .ok (.invokevirtual 429, 3) := by decide +kernel
theorem dX12_common_72 : decode cX12_common 72 = .ok (.invokevirtual 578, 3) := by decide +kernel
theorem dX12_common_75 : decode cX12_common 75 = .ok (.ireturn, 1) := by decide +kernel
theorem dX12_drop_0 : decode cX12_drop 0 = .ok (.aload_n 0, 1) := by decide +kernel
theorem dX12_drop_1 : decode cX12_drop 1 = .ok (.iconst 0, 1) := by decide +kernel
theorem dX12_drop_2 : decode cX12_drop 2 = .ok (.putfield 1, 3) := by decide +kernel
theorem dX12_drop_5 : decode cX12_drop 5 = .ok (.aload_n 0, 1) := by decide +kernel
theorem dX12_drop_6 : decode cX12_drop 6 = .ok (.getfield 568, 3) := by decide +kernel
theorem dX12_drop_9 : decode cX12_drop 9 = .ok (.ifCond .ne 6, 3) := by decide +kernel
theorem dX12_drop_12 : decode cX12_drop 12 = .ok (.bipush (-106), 2) := by decide +kernel
theorem dX12_drop_14 : decode cX12_drop 14 = .ok (.ireturn, 1) := by decide +kernel
theorem dX12_drop_15 : decode cX12_drop 15 = .ok (.aload_n 0, 1) := by decide +kernel
theorem dX12_drop_16 : decode cX12_drop 16 = .ok (.dup, 1) := by decide +kernel
theorem dX12_drop_17 : decode cX12_drop 17 = .ok (.getfield 568, 3) := by decide +kernel
theorem dX12_drop_20 : decode cX12_drop 20 = .ok (.iconst 1, 1) := by decide +kernel
theorem dX12_drop_21 : decode cX12_drop 21 = .ok (.isub, 1) := by decide +kernel
theorem dX12_drop_22 : decode cX12_drop 22 = .ok (.putfield 568, 3) := by decide +kernel
theorem dX12_drop_25 : decode cX12_drop 25 = .ok (.aload_n 0, 1) := by decide +kernel
theorem dX12_drop_26 : decode cX12_drop 26 = .ok (.getfield 568, 3) := by decide +kernel
theorem dX12_drop_29 : decode cX12_drop 29 = .ok (.ireturn, 1) := by decide +kernel
theorem dX12_compare_0 : decode cX12_compare 0 = .ok (.aload_n 0, 1) := by decide +kernel
theorem dX12_compare_1 : decode cX12_compare 1 = .ok (.iconst 0, 1) := by decide +kernel
theorem dX12_compare_2 : decode cX12_compare 2 = .ok (.putfield 1, 3) := by decide +kernel
theorem dX12_compare_5 : decode cX12_compare 5 = .ok (.aload_n 0, 1) := by decide +kernel
theorem dX12_compare_6 : decode cX12_compare 6 = .ok (.iload_n 1, 1) := by decide +kernel
theorem dX12_compare_7 : decode cX12_compare 7 = .ok (.invokevirtual 581, 3) := by decide +kernel
theorem dX12_compare_10 : decode cX12_compare 10 = .ok (.ifCond .eq 11, 3) := by decide +kernel
theorem dX12_compare_13 : decode cX12_compare 13 = .ok (.aload_n 0, 1) := by decide +kernel
theorem dX12_compare_14 : decode cX12_compare 14 = .ok (.iload_n 2, 1) := by decide +kernel
theorem dX12_compare_15 : decode cX12_compare 15 = .ok (.invokevirtual 581, 3) := by decide +kernel
theorem dX12_compare_18 : decode cX12_compare 18 = .ok (.ifCond .ne 8, 3) := by decide +kernel
theorem dX12_compare_21 : decode cX12_compare 21 = .ok (.bipush (-2), 2) := by decide +kernel
theorem dX12_compare_23 : decode cX12_compare 23 = .ok (.goto 9, 3) := by decide +kernel
theorem dX12_compare_26 : decode cX12_compare 26 = .ok (.aload_n 0, 1) := by decide +kernel
theorem dX12_compare_27 : decode cX12_compare 27 = .ok (.iload_n 1, 1) := by decide +kernel
theorem dX12_compare_28 : decode cX12_compare 28 = .ok (.iload_n 2, 1) := by decide +kernel
theorem dX12_compare_29 : decode cX12_compare 29 = .ok (.invokevirtual 635, 3) := by decide +kernel
theorem dX12_compare_32 : decode cX12_compare 32 = .ok (.ireturn, 1) := by decide +kernel
theorem dX12_sign_0 : decode cX12_sign 0 = .ok (.aload_n 0, 1) := by decide +kernel
theorem dX12_sign_1 : decode cX12_sign 1 = .ok (.iconst 0, 1) := by decide +kernel
theorem dX12_sign_2 : decode cX12_sign 2 = .ok (.putfield 1, 3) := by decide +kernel
theorem dX12_sign_5 : decode cX12_sign 5 = .ok (.aload_n 0, 1) := by decide +kernel
theorem dX12_sign_6 : decode cX12_sign 6 = .ok (.iload_n 1, 1) := by decide +kernel
theorem dX12_sign_7 : decode cX12_sign 7 = .ok (.invokevirtual 581, 3) := by decide +kernel
theorem dX12_sign_10 : decode cX12_sign 10 = .ok (.ifCond .eq 11, 3) := by decide +kernel
theorem dX12_sign_13 : decode cX12_sign 13 = .ok (.aload_n 0, 1) := by decide +kernel
theorem dX12_sign_14 : decode cX12_sign 14 = .ok (.iload_n 1, 1) := by decide +kernel
theorem dX12_sign_15 : decode cX12_sign 15 = .ok (.invokevirtual 472, 3) := by decide +kernel
theorem dX12_sign_18 : decode cX12_sign 18 = .ok (.goto 5, 3) := by decide +kernel
theorem dX12_sign_21 : decode cX12_sign 21 = .ok (.bipush (-101), 2) := by decide +kernel
theorem dX12_sign_23 : decode cX12_sign 23 = .ok (.ireturn, 1) := by decide +kernel
theorem dX12_about_0 : decode cX12_about 0 = .ok (.aload_n 0, 1) := by decide +kernel
theorem dX12_about_1 : decode cX12_about 1 = .ok (.iconst 0, 1) := by decide +kernel
theorem dX12_about_2 : decode cX12_about 2 = .ok (.putfield 1, 3) := by decide +kernel
theorem dX12_about_5 : decode cX12_about 5 = .ok (.aload_n 0, 1) := by decide +kernel
theorem dX12_about_6 : decode cX12_about 6 = .ok (.iload_n 1, 1) := by decide +kernel
theorem dX12_about_7 : decode cX12_about 7 = .ok (.invokevirtual 581, 3) := by decide +kernel
theorem dX12_about_10 : decode cX12_about 10 = .ok (.ifCond .ne 6, 3) := by decide +kernel
theorem dX12_about_13 : decode cX12_about 13 = .ok (.bipush (-101), 2) := by decide +kernel
theorem dX12_about_15 : decode cX12_about 15 = .ok (.ireturn, 1) := by decide +kernel
theorem dX12_about_16 : decode cX12_about 16 = .ok (.iload_n 2, 1) := by decide +kernel
theorem dX12_about_17 : decode cX12_about 17 = .ok (.ifCond .ne 10, 3) := by decide +kernel
theorem dX12_about_20 : decode cX12_about 20 = .ok (.aload_n 0, 1) := by decide +kernel
theorem dX12_about_21 : decode cX12_about 21 = .ok (.getfield 277, 3) := by decide +kernel
theorem dX12_about_24 : decode cX12_about 24 = .ok (.iload_n 1, 1) := by decide +kernel
theorem dX12_about_25 : decode cX12_about 25 = .ok (.iaload, 1) := by decide +kernel
theorem dX12_about_26 : decode cX12_about 26 = .ok (.ireturn, 1) := by decide +kernel
theorem dX12_about_27 : decode cX12_about 27 = .ok (.iload_n 2, 1) := by decide +kernel
theorem dX12_about_28 : decode cX12_about 28 = .ok (.iconst 1, 1) := by decide +kernel
theorem dX12_about_29 : decode cX12_about 29 = .ok (.if_icmp .ne 10, 3) := by decide +kernel
theorem dX12_about_32 : decode cX12_about 32 = .ok (.aload_n 0, 1) := by decide +kernel
theorem dX12_about_33 : decode cX12_about 33 = .ok (.getfield 292, 3) := by decide +kernel
theorem dX12_about_36 : decode cX12_about 36 = .ok (.iload_n 1, 1) := by decide +kernel
theorem dX12_about_37 : decode cX12_about 37 = .ok (.iaload, 1) := by decide +kernel
theorem dX12_about_38 : decode cX12_about 38 = .ok (.ireturn, 1) := by decide +kernel
theorem dX12_about_39 : decode cX12_about 39 = .ok (.iload_n 2, 1) := by decide +kernel
theorem dX12_about_40 : decode cX12_about 40 = .ok (.iconst 2, 1) := by decide +kernel
theorem dX12_about_41 : decode cX12_about 41 = .ok (.if_icmp .ne 9, 3) := by decide +kernel
theorem dX12_about_44 : decode cX12_about 44 = .ok (.aload_n 0, 1) := by decide +kernel
theorem dX12_about_45 : decode cX12_about 45 = .ok (.iload_n 1, 1) := by decide +kernel
theorem dX12_about_46 : decode cX12_about 46 = .ok (.invokevirtual 608, 3) := by decide +kernel
theorem dX12_about_49 : decode cX12_about 49 = .ok (.ireturn, 1) := by decide +kernel
theorem dX12_about_50 : decode cX12_about 50 = .ok (.iload_n 2, 1) := by decide +kernel
theorem dX12_about_51 : decode cX12_about 51 = .ok (.iconst 3, 1) := by decide +kernel
theorem dX12_about_52 : decode cX12_about 52 = .ok (.if_icmp .eq 6, 3) := by decide +kernel
theorem dX12_about_55 : decode cX12_about 55 = .ok (.bipush (-102), 2) := by decide +kernel
theorem dX12_about_57 : decode cX12_about 57 = .ok (.ireturn, 1) := by decide +kernel
theorem dX12_about_58 : decode cX12_about 58 = .ok (.aload_n 0, 1) := by decide +kernel
theorem dX12_about_59 : decode cX12_about 59 = .ok (.invokevirtual 301, 3) := by decide +kernel
theorem dX12_about_62 : decode cX12_about 62 = .ok (.aload_n 0, 1) := by decide +kernel
theorem dX12_about_63 : decode cX12_about 63 = .ok (.iload_n 1, 1) := by decide +kernel
theorem dX12_about_64 : decode cX12_about 64 = .ok (.invokevirtual 305, 3) := by decide +kernel
theorem dX12_about_67 : decode cX12_about 67 = .ok (.istore_n 3, 1) := by decide +kernel
theorem dX12_about_68 : decode cX12_about 68 = .ok (.iconst 0, 1) := by decide +kernel
theorem dX12_about_69 : decode cX12_about 69 = .ok (.istore 4, 2) := by decide +kernel
theorem dX12_about_71 : decode cX12_about 71 = .ok (.iconst 0, 1) := by decide +kernel
theorem dX12_about_72 : decode cX12_about 72 = .ok (.istore 5, 2) := by decide +kernel
theorem dX12_about_74 : decode cX12_about 74 = .ok (.iload 5, 2) := by decide +kernel
theorem dX12_about_76 : decode cX12_about 76 = .ok (.aload_n 0, 1) := by decide +kernel
theorem dX12_about_77 : decode cX12_about 77 = .ok (.iload_n 3, 1) := by decide +kernel
theorem dX12_about_78 : decode cX12_about 78 = .ok (.invokevirtual 80, 3) := by decide +kernel
theorem dX12_about_81 : decode cX12_about 81 = .ok (.if_icmp .gt 43, 3) := by decide +kernel
theorem dX12_about_84 : decode cX12_about 84 = .ok (.aload_n 0, 1) := by decide +kernel
theorem dX12_about_85 : decode cX12_about 85 = .ok (.aload_n 0, 1) := by decide +kernel
theorem dX12_about_86 : decode cX12_about 86 = .ok (.iload_n 3, 1) := by decide +kernel
theorem dX12_about_87 : decode cX12_about 87 = .ok (.iload 5, 2) := by decide +kernel
theorem dX12_about_89 : decode cX12_about 89 = .ok (.invokevirtual 83, 3) := by decide +kernel
theorem dX12_about_92 : decode cX12_about 92 = .ok (.invokevirtual 143, 3) := by decide +kernel
theorem dX12_about_95 : decode cX12_about 95 = .ok (.iload 4, 2) := by decide +kernel
theorem dX12_about_97 : decode cX12_about 97 = .ok (.if_icmp .le 17, 3) := by decide +kernel
theorem dX12_about_100 : decode cX12_about 100 = .ok (.aload_n 0, 1) := by decide +kernel
theorem dX12_about_101 : decode cX12_about 101 = .ok (.aload_n 0, 1) := by decide +kernel
theorem dX12_about_102 : decode cX12_about 102 = .ok (.iload_n 3, 1) := by decide +kernel
theorem dX12_about_103 : decode cX12_about 103 = .ok (.iload 5, 2) := by decide +kernel
theorem dX12_about_105 : decode cX12_about 105 = .ok (.invokevirtual 83, 3) := by decide +kernel
theorem dX12_about_108 : decode cX12_about 108 = .ok (.invokevirtual 143, 3) := by decide +kernel
theorem dX12_about_111 : decode cX12_about 111 = .ok (.goto 5, 3) := by decide +kernel
theorem dX12_about_114 : decode cX12_about 114 = .ok (.iload 4, 2) := by decide +kernel
theorem dX12_about_116 : decode cX12_about 116 = .ok (.istore 4, 2) := by decide +kernel
theorem dX12_about_118 : decode cX12_about 118 = .ok (.iinc 5 1, 3) := by decide +kernel
theorem dX12_about_121 : decode cX12_about 121 = .ok (.goto (-47), 3) := by decide +kernel
theorem dX12_about_124 : decode cX12_about 124 = .ok (.iload 4, 2) := by decide +kernel
theorem dX12_about_126 : decode cX12_about 126 = .ok (.ireturn, 1) := by decide +kernel
theorem dX12_within_0 : decode cX12_within 0 = .ok (.aload_n 0, 1) := by decide +kernel
theorem dX12_within_1 : decode cX12_within 1 = .ok (.iconst 0, 1) := by decide +kernel
theorem dX12_within_2 : decode cX12_within 2 = .ok (.putfield 1, 3) := by decide +kernel
theorem dX12_within_5 : decode cX12_within 5 = .ok (.aload_n 0, 1) := by decide +kernel
theorem dX12_within_6 : decode cX12_within 6 = .ok (.iload_n 1, 1) := by decide +kernel
theorem dX12_within_7 : decode cX12_within 7 = .ok (.invokevirtual 581, 3) := by decide +kernel
theorem dX12_within_10 : decode cX12_within 10 = .ok (.ifCond .eq 11, 3) := by decide +kernel
theorem dX12_within_13 : decode cX12_within 13 = .ok (.aload_n 0, 1) := by decide +kernel
theorem dX12_within_14 : decode cX12_within 14 = .ok (.iload_n 2, 1) := by decide +kernel
theorem dX12_within_15 : decode cX12_within 15 = .ok (.invokevirtual 581, 3) := by decide +kernel
theorem dX12_within_18 : decode cX12_within 18 = .ok (.ifCond .ne 6, 3) := by decide +kernel
theorem dX12_within_21 : decode cX12_within 21 = .ok (.bipush (-101), 2) := by decide +kernel
theorem dX12_within_23 : decode cX12_within 23 = .ok (.ireturn, 1) := by decide +kernel
theorem dX12_within_24 : decode cX12_within 24 = .ok (.aload_n 0, 1) := by decide +kernel
theorem dX12_within_25 : decode cX12_within 25 = .ok (.getfield 277, 3) := by decide +kernel
theorem dX12_within_28 : decode cX12_within 28 = .ok (.iload_n 1, 1) := by decide +kernel
theorem dX12_within_29 : decode cX12_within 29 = .ok (.iaload, 1) := by decide +kernel
theorem dX12_within_30 : decode cX12_within 30 = .ok (.aload_n 0, 1) := by decide +kernel
theorem dX12_within_31 : decode cX12_within 31 = .ok (.getfield 277, 3) := by decide +kernel
theorem dX12_within_34 : decode cX12_within 34 = .ok (.iload_n 2, 1) := by decide +kernel
theorem dX12_within_35 : decode cX12_within 35 = .ok (.iaload, 1) := by decide +kernel
theorem dX12_within_36 : decode cX12_within 36 = .ok (.imul, 1) := by decide +kernel
theorem dX12_within_37 : decode cX12_within 37 = .ok (.aload_n 0, 1) := by decide +kernel
theorem dX12_within_38 : decode cX12_within 38 = .ok (.getfield 283, 3) := by decide +kernel
theorem dX12_within_41 : decode cX12_within 41 = .ok (.if_icmp .le 6, 3) := by decide +kernel
theorem dX12_within_44 : decode cX12_within 44 = .ok (.bipush (-105), 2) := by decide +kernel
theorem dX12_within_46 : decode cX12_within 46 = .ok (.ireturn, 1) := by decide +kernel
theorem dX12_within_47 : decode cX12_within 47 = .ok (.aload_n 0, 1) := by decide +kernel
theorem dX12_within_48 : decode cX12_within 48 = .ok (.getfield 277, 3) := by decide +kernel
theorem dX12_within_51 : decode cX12_within 51 = .ok (.iload_n 1, 1) := by decide +kernel
theorem dX12_within_52 : decode cX12_within 52 = .ok (.iaload, 1) := by decide +kernel
theorem dX12_within_53 : decode cX12_within 53 = .ok (.iconst 1, 1) := by decide +kernel
theorem dX12_within_54 : decode cX12_within 54 = .ok (.if_icmp .eq 13, 3) := by decide +kernel
theorem dX12_within_57 : decode cX12_within 57 = .ok (.aload_n 0, 1) := by decide +kernel
theorem dX12_within_58 : decode cX12_within 58 = .ok (.getfield 277, 3) := by decide +kernel
theorem dX12_within_61 : decode cX12_within 61 = .ok (.iload_n 2, 1) := by decide +kernel
theorem dX12_within_62 : decode cX12_within 62 = .ok (.iaload, 1) := by decide +kernel
theorem dX12_within_63 : decode cX12_within 63 = .ok (.iconst 1, 1) := by decide +kernel
theorem dX12_within_64 : decode cX12_within 64 = .ok (.if_icmp .ne 19, 3) := by decide +kernel
theorem dX12_within_67 : decode cX12_within 67 = .ok (.aload_n 0, 1) := by decide +kernel
theorem dX12_within_68 : decode cX12_within 68 = .ok (.getfield 277, 3) := by decide +kernel
theorem dX12_within_71 : decode cX12_within 71 = .ok (.iload_n 1, 1) := by decide +kernel
theorem dX12_within_72 : decode cX12_within 72 = .ok (.iaload, 1) := by decide +kernel
theorem dX12_within_73 : decode cX12_within 73 = .ok (.iconst 1, 1) := by decide +kernel
theorem dX12_within_74 : decode cX12_within 74 = .ok (.if_icmp .ne 7, 3) := by decide +kernel
theorem dX12_within_77 : decode cX12_within 77 = .ok (.iconst 1, 1) := by decide +kernel
theorem dX12_within_78 : decode cX12_within 78 = .ok (.goto 4, 3) := by decide +kernel
theorem dX12_within_81 : decode cX12_within 81 = .ok (.iconst 0, 1) := by decide +kernel
theorem dX12_within_82 : decode cX12_within 82 = .ok (.ireturn, 1) := by decide +kernel
theorem dX12_within_83 : decode cX12_within 83 = .ok (.aload_n 0, 1) := by decide +kernel
theorem dX12_within_84 : decode cX12_within 84 = .ok (.iload_n 1, 1) := by decide +kernel
theorem dX12_within_85 : decode cX12_within 85 = .ok (.iload_n 2, 1) := by decide +kernel
theorem dX12_within_86 : decode cX12_within 86 = .ok (.invokevirtual 641, 3) := by decide +kernel
theorem dX12_within_89 : decode cX12_within 89 = .ok (.istore_n 3, 1) := by decide +kernel
theorem dX12_within_90 : decode cX12_within 90 = .ok (.aload_n 0, 1) := by decide +kernel
theorem dX12_within_91 : decode cX12_within 91 = .ok (.iload_n 3, 1) := by decide +kernel
theorem dX12_within_92 : decode cX12_within 92 = .ok (.iload_n 1, 1) := by decide +kernel
theorem dX12_within_93 : decode cX12_within 93 = .ok (.iload_n 2, 1) := by decide +kernel
theorem dX12_within_94 : decode cX12_within 94 = .ok (.iconst 0, 1) := by decide +kernel
theorem dX12_within_95 : decode cX12_within 95 = .ok (.aload_n 0, 1) := by decide +kernel
theorem dX12_within_96 : decode cX12_within 96 = .ok (.getfield 638, 3) := by decide +kernel
theorem dX12_within_99 : decode cX12_within 99 = .ok (.i2l, 1) := by decide +kernel
theorem dX12_within_100 : decode cX12_within 100 = .ok (.invokevirtual 440, 3) := by decide +kernel
theorem dX12_within_103 : decode cX12_within 103 = .ok (.aload_n 0, 1) := by decide +kernel
theorem dX12_within_104 : decode cX12_within 104 = .ok (.iconst 1, 1) := by decide +kernel
theorem dX12_within_105 : decode cX12_within 105 = .ok (.putfield 248, 3) := by decide +kernel
theorem dX12_within_108 : decode cX12_within 108 = .ok (.aload_n 0, 1) := by decide +kernel
theorem dX12_within_109 : decode cX12_within 109 = .ok (.iload_n 3, 1) := by decide +kernel
theorem dX12_within_110 : decode cX12_within 110 = .ok (.invokevirtual 326, 3) := by decide +kernel
theorem dX12_within_113 : decode cX12_within 113 = .ok (.aload_n 0, 1) := by decide +kernel
theorem dX12_within_114 : decode cX12_within 114 = .ok (.iconst 0, 1) := by decide +kernel
theorem dX12_within_115 : decode cX12_within 115 = .ok (.putfield 248, 3) := by decide +kernel
theorem dX12_within_118 : decode cX12_within 118 = .ok (.iconst 0, 1) := by decide +kernel
theorem dX12_within_119 : decode cX12_within 119 = .ok (.istore 4, 2) := by decide +kernel
theorem dX12_within_121 : decode cX12_within 121 = .ok (.iconst 0, 1) := by decide +kernel
theorem dX12_within_122 : decode cX12_within 122 = .ok (.istore 5, 2) := by decide +kernel
theorem dX12_within_124 : decode cX12_within 124 = .ok (.iload 5, 2) := by decide +kernel
theorem dX12_within_126 : decode cX12_within 126 = .ok (.aload_n 0, 1) := by decide +kernel
theorem dX12_within_127 : decode cX12_within 127 = .ok (.getfield 259, 3) := by decide +kernel
theorem dX12_within_130 : decode cX12_within 130 = .ok (.if_icmp .ge 46, 3) := by decide +kernel
theorem dX12_within_133 : decode cX12_within 133 = .ok (.aload_n 0, 1) := by decide +kernel
theorem dX12_within_134 : decode cX12_within 134 = .ok (.aload_n 0, 1) := by decide +kernel
theorem dX12_within_135 : decode cX12_within 135 = .ok (.getfield 262, 3) := by decide +kernel
theorem dX12_within_138 : decode cX12_within 138 = .ok (.iload 5, 2) := by decide +kernel
theorem dX12_within_140 : decode cX12_within 140 = .ok (.iaload, 1) := by decide +kernel
theorem dX12_within_141 : decode cX12_within 141 = .ok (.invokevirtual 308, 3) := by decide +kernel
theorem dX12_within_144 : decode cX12_within 144 = .ok (.aload_n 0, 1) := by decide +kernel
theorem dX12_within_145 : decode cX12_within 145 = .ok (.invokevirtual 329, 3) := by decide +kernel
theorem dX12_within_148 : decode cX12_within 148 = .ok (.iconst 1, 1) := by decide +kernel
theorem dX12_within_149 : decode cX12_within 149 = .ok (.if_icmp .ne 17, 3) := by decide +kernel
theorem dX12_within_152 : decode cX12_within 152 = .ok (.aload_n 0, 1) := by decide +kernel
theorem dX12_within_153 : decode cX12_within 153 = .ok (.aload_n 0, 1) := by decide +kernel
theorem dX12_within_154 : decode cX12_within 154 = .ok (.getfield 262, 3) := by decide +kernel
theorem dX12_within_157 : decode cX12_within 157 = .ok (.iload 5, 2) := by decide +kernel
theorem dX12_within_159 : decode cX12_within 159 = .ok (.iaload, 1) := by decide +kernel
theorem dX12_within_160 : decode cX12_within 160 = .ok (.invokevirtual 80, 3) := by decide +kernel
theorem dX12_within_163 : decode cX12_within 163 = .ok (.goto 5, 3) := by decide +kernel
theorem dX12_within_166 : decode cX12_within 166 = .ok (.iload 4, 2) := by decide +kernel
theorem dX12_within_168 : decode cX12_within 168 = .ok (.istore 4, 2) := by decide +kernel
theorem dX12_within_170 : decode cX12_within 170 = .ok (.iinc 5 1, 3) := by decide +kernel
theorem dX12_within_173 : decode cX12_within 173 = .ok (.goto (-49), 3) := by decide +kernel
theorem dX12_within_176 : decode cX12_within 176 = .ok (.iload 4, 2) := by decide +kernel
theorem dX12_within_178 : decode cX12_within 178 = .ok (.aload_n 0, 1) := by decide +kernel
theorem dX12_within_179 : decode cX12_within 179 = .ok (.getfield 277, 3) := by decide +kernel
theorem dX12_within_182 : decode cX12_within 182 = .ok (.iload_n 2, 1) := by decide +kernel
theorem dX12_within_183 : decode cX12_within 183 = .ok (.iaload, 1) := by decide +kernel
theorem dX12_within_184 : decode cX12_within 184 = .ok (.if_icmp .ne 7, 3) := by decide +kernel
theorem dX12_within_187 : decode cX12_within 187 = .ok (.iconst 1, 1) := by decide +kernel
theorem dX12_within_188 : decode cX12_within 188 = .ok (.goto 4, 3) := by decide +kernel
theorem dX12_within_191 : decode cX12_within 191 = .ok (.iconst 0, 1) := by decide +kernel
theorem dX12_within_192 : decode cX12_within 192 = .ok (.ireturn, 1) := by decide +kernel
theorem dX12_polynomial_0 : decode cX12_polynomial 0 = .ok (.aload_n 0, 1) := by decide +kernel
theorem dX12_polynomial_1 : decode cX12_polynomial 1 = .ok (.iconst 0, 1) := by decide +kernel
theorem dX12_polynomial_2 : decode cX12_polynomial 2 = .ok (.putfield 1, 3) := by decide +kernel
theorem dX12_polynomial_5 : decode cX12_polynomial 5 = .ok (.aload_n 0, 1) := by decide +kernel
theorem dX12_polynomial_6 : decode cX12_polynomial 6 = .ok (.getfield 575, 3) := by decide +kernel
theorem dX12_polynomial_9 : decode cX12_polynomial 9 = .ok (.bipush 30, 2) := by decide +kernel
theorem dX12_polynomial_11 : decode cX12_polynomial 11 = .ok (.if_icmp .ne 6, 3) := by decide +kernel
theorem dX12_polynomial_14 : decode cX12_polynomial 14 = .ok (.bipush (-106), 2) := by decide +kernel
theorem dX12_polynomial_16 : decode cX12_polynomial 16 = .ok (.ireturn, 1) := by decide +kernel
theorem dX12_polynomial_17 : decode cX12_polynomial 17 = .ok (.aload_n 0, 1) := by decide +kernel
theorem dX12_polynomial_18 : decode cX12_polynomial 18 = .ok (.dup, 1) := by decide +kernel
theorem dX12_polynomial_19 : decode cX12_polynomial 19 = .ok (.getfield 575, 3) := by decide +kernel
theorem dX12_polynomial_22 : decode cX12_polynomial 22 = .ok (.iconst 1, 1) := by decide +kernel
theorem dX12_polynomial_23 : decode cX12_polynomial 23 = .ok (.iadd, 1) := by decide +kernel
theorem dX12_polynomial_24 : decode cX12_polynomial 24 = .ok (.putfield 575, 3) := by decide +kernel
theorem dX12_polynomial_27 : decode cX12_polynomial 27 = .ok (.aload_n 0, 1) := by decide +kernel
theorem dX12_polynomial_28 : decode cX12_polynomial 28 = .ok (.getfield 575, 3) := by decide +kernel
theorem dX12_polynomial_31 : decode cX12_polynomial 31 = .ok (.iconst 1, 1) := by decide +kernel
theorem dX12_polynomial_32 : decode cX12_polynomial 32 = .ok (.isub, 1) := by decide +kernel
theorem dX12_polynomial_33 : decode cX12_polynomial 33 = .ok (.ireturn, 1) := by decide +kernel
theorem dX12_coefficient_0 : decode cX12_coefficient 0 = .ok (.aload_n 0, 1) := by decide +kernel
theorem dX12_coefficient_1 : decode cX12_coefficient 1 = .ok (.iconst 0, 1) := by decide +kernel
theorem dX12_coefficient_2 : decode cX12_coefficient 2 = .ok (.putfield 1, 3) := by decide +kernel
theorem dX12_coefficient_5 : decode cX12_coefficient 5 = .ok (.aload_n 0, 1) := by decide +kernel
theorem dX12_coefficient_6 : decode cX12_coefficient 6 = .ok (.iload_n 1, 1) := by decide +kernel
theorem dX12_coefficient_7 : decode cX12_coefficient 7 = .ok (.invokevirtual 617, 3) := by decide +kernel
theorem dX12_coefficient_10 : decode cX12_coefficient 10 = .ok (.ifCond .ne 6, 3) := by decide +kernel
theorem dX12_coefficient_13 : decode cX12_coefficient 13 = .ok (.bipush (-101), 2) := by decide +kernel
theorem dX12_coefficient_15 : decode cX12_coefficient 15 = .ok (.ireturn, 1) := by decide +kernel
theorem dX12_coefficient_16 : decode cX12_coefficient 16 = .ok (.iload_n 2, 1) := by decide +kernel
theorem dX12_coefficient_17 : decode cX12_coefficient 17 = .ok (.i2l, 1) := by decide +kernel
theorem dX12_coefficient_18 : decode cX12_coefficient 18 = .ok (.lconst 0, 1) := by decide +kernel
theorem dX12_coefficient_19 : decode cX12_coefficient 19 = .ok (.ldc2_w 597, 3) := by decide +kernel
theorem dX12_coefficient_22 : decode cX12_coefficient 22 = .ok (.invokestatic 571, 3) := by decide +kernel
theorem dX12_coefficient_25 : decode cX12_coefficient 25 = .ok (.ifCond .ne 6, 3) := by decide +kernel
theorem dX12_coefficient_28 : decode cX12_coefficient 28 = .ok (.bipush (-102), 2) := by decide +kernel
theorem dX12_coefficient_30 : decode cX12_coefficient 30 = .ok (.ireturn, 1) := by decide +kernel
theorem dX12_coefficient_31 : decode cX12_coefficient 31 = .ok (.aload_n 0, 1) := by decide +kernel
theorem dX12_coefficient_32 : decode cX12_coefficient 32 = .ok (.getfield 531, 3) := by decide +kernel
theorem dX12_coefficient_35 : decode cX12_coefficient 35 = .ok (.bipush 13, 2) := by decide +kernel
theorem dX12_coefficient_37 : decode cX12_coefficient 37 = .ok (.iload_n 1, 1) := by decide +kernel
theorem dX12_coefficient_38 : decode cX12_coefficient 38 = .ok (.imul, 1) := by decide +kernel
theorem dX12_coefficient_39 : decode cX12_coefficient 39 = .ok (.iload_n 2, 1) := by decide +kernel
theorem dX12_coefficient_40 : decode cX12_coefficient 40 = .ok (.iadd, 1) := by decide +kernel
theorem dX12_coefficient_41 : decode cX12_coefficient 41 = .ok (.lload_n 3, 1) := by decide +kernel
theorem dX12_coefficient_42 : decode cX12_coefficient 42 = .ok (.lastore, 1) := by decide +kernel
theorem dX12_coefficient_43 : decode cX12_coefficient 43 = .ok (.aload_n 0, 1) := by decide +kernel
theorem dX12_coefficient_44 : decode cX12_coefficient 44 = .ok (.iload_n 1, 1) := by decide +kernel
theorem dX12_coefficient_45 : decode cX12_coefficient 45 = .ok (.invokevirtual 614, 3) := by decide +kernel
theorem dX12_coefficient_48 : decode cX12_coefficient 48 = .ok (.ireturn, 1) := by decide +kernel
theorem dX12_roots_0 : decode cX12_roots 0 = .ok (.aload_n 0, 1) := by decide +kernel
theorem dX12_roots_1 : decode cX12_roots 1 = .ok (.iconst 0, 1) := by decide +kernel
theorem dX12_roots_2 : decode cX12_roots 2 = .ok (.putfield 1, 3) := by decide +kernel
theorem dX12_roots_5 : decode cX12_roots 5 = .ok (.aload_n 0, 1) := by decide +kernel
theorem dX12_roots_6 : decode cX12_roots 6 = .ok (.iload_n 1, 1) := by decide +kernel
theorem dX12_roots_7 : decode cX12_roots 7 = .ok (.invokevirtual 617, 3) := by decide +kernel
theorem dX12_roots_10 : decode cX12_roots 10 = .ok (.ifCond .ne 6, 3) := by decide +kernel
theorem dX12_roots_13 : decode cX12_roots 13 = .ok (.bipush (-101), 2) := by decide +kernel
theorem dX12_roots_15 : decode cX12_roots 15 = .ok (.ireturn, 1) := by decide +kernel
theorem dX12_roots_16 : decode cX12_roots 16 = .ok (.aload_n 0, 1) := by decide +kernel
theorem dX12_roots_17 : decode cX12_roots 17 = .ok (.iload_n 1, 1) := by decide +kernel
theorem dX12_roots_18 : decode cX12_roots 18 = .ok (.invokevirtual 614, 3) := by decide +kernel
theorem dX12_roots_21 : decode cX12_roots 21 = .ok (.istore_n 2, 1) := by decide +kernel
theorem dX12_roots_22 : decode cX12_roots 22 = .ok (.iload_n 2, 1) := by decide +kernel
theorem dX12_roots_23 : decode cX12_roots 23 = .ok (.iconst 1, 1) := by decide +kernel
theorem dX12_roots_24 : decode cX12_roots 24 = .ok (.if_icmp .ge 14, 3) := by decide +kernel
theorem dX12_roots_27 : decode cX12_roots 27 = .ok (.iload_n 2, 1) := by decide +kernel
theorem dX12_roots_28 : decode cX12_roots 28 = .ok (.ifCond .ge 8, 3) := by decide +kernel
theorem dX12_roots_31 : decode cX12_roots 31 = .ok (.bipush (-103), 2) := by decide +kernel
theorem dX12_roots_33 : decode cX12_roots 33 = .ok (.goto 4, 3) := by decide +kernel
theorem dX12_roots_36 : decode cX12_roots 36 = .ok (.iconst 0, 1) := by decide +kernel
theorem dX12_roots_37 : decode cX12_roots 37 = .ok (.ireturn, 1) := by decide +kernel
theorem dX12_roots_38 : decode cX12_roots 38 = .ok (.aload_n 0, 1) := by decide +kernel
theorem dX12_roots_39 : decode cX12_roots 39 = .ok (.invokevirtual 301, 3) := by decide +kernel
theorem dX12_roots_42 : decode cX12_roots 42 = .ok (.aload_n 0, 1) := by decide +kernel
theorem dX12_roots_43 : decode cX12_roots 43 = .ok (.aload_n 0, 1) := by decide +kernel
theorem dX12_roots_44 : decode cX12_roots 44 = .ok (.iload_n 1, 1) := by decide +kernel
theorem dX12_roots_45 : decode cX12_roots 45 = .ok (.invokevirtual 629, 3) := by decide +kernel
theorem dX12_roots_48 : decode cX12_roots 48 = .ok (.invokevirtual 308, 3) := by decide +kernel
theorem dX12_roots_51 : decode cX12_roots 51 = .ok (.aload_n 0, 1) := by decide +kernel
theorem dX12_roots_52 : decode cX12_roots 52 = .ok (.invokevirtual 410, 3) := by decide +kernel
theorem dX12_roots_55 : decode cX12_roots 55 = .ok (.ireturn, 1) := by decide +kernel
theorem dX12_between_0 : decode cX12_between 0 = .ok (.aload_n 0, 1) := by decide +kernel
theorem dX12_between_1 : decode cX12_between 1 = .ok (.iconst 0, 1) := by decide +kernel
theorem dX12_between_2 : decode cX12_between 2 = .ok (.putfield 1, 3) := by decide +kernel
theorem dX12_between_5 : decode cX12_between 5 = .ok (.aload_n 0, 1) := by decide +kernel
theorem dX12_between_6 : decode cX12_between 6 = .ok (.iload_n 1, 1) := by decide +kernel
theorem dX12_between_7 : decode cX12_between 7 = .ok (.invokevirtual 617, 3) := by decide +kernel
theorem dX12_between_10 : decode cX12_between 10 = .ok (.ifCond .eq 19, 3) := by decide +kernel
theorem dX12_between_13 : decode cX12_between 13 = .ok (.aload_n 0, 1) := by decide +kernel
theorem dX12_between_14 : decode cX12_between 14 = .ok (.iload_n 2, 1) := by decide +kernel
theorem dX12_between_15 : decode cX12_between 15 = .ok (.invokevirtual 581, 3) := by decide +kernel
theorem dX12_between_18 : decode cX12_between 18 = .ok (.ifCond .eq 11, 3) := by decide +kernel
theorem dX12_between_21 : decode cX12_between 21 = .ok (.aload_n 0, 1) := by decide +kernel
theorem dX12_between_22 : decode cX12_between 22 = .ok (.iload_n 3, 1) := by decide +kernel
theorem dX12_between_23 : decode cX12_between 23 = .ok (.invokevirtual 581, 3) := by decide +kernel
theorem dX12_between_26 : decode cX12_between 26 = .ok (.ifCond .ne 6, 3) := by decide +kernel
theorem dX12_between_29 : decode cX12_between 29 = .ok (.bipush (-101), 2) := by decide +kernel
theorem dX12_between_31 : decode cX12_between 31 = .ok (.ireturn, 1) := by decide +kernel
theorem dX12_between_32 : decode cX12_between 32 = .ok (.aload_n 0, 1) := by decide +kernel
theorem dX12_between_33 : decode cX12_between 33 = .ok (.iload_n 1, 1) := by decide +kernel
theorem dX12_between_34 : decode cX12_between 34 = .ok (.invokevirtual 614, 3) := by decide +kernel
theorem dX12_between_37 : decode cX12_between 37 = .ok (.ifCond .ge 6, 3) := by decide +kernel
theorem dX12_between_40 : decode cX12_between 40 = .ok (.bipush (-103), 2) := by decide +kernel
theorem dX12_between_42 : decode cX12_between 42 = .ok (.ireturn, 1) := by decide +kernel
theorem dX12_between_43 : decode cX12_between 43 = .ok (.aload_n 0, 1) := by decide +kernel
theorem dX12_between_44 : decode cX12_between 44 = .ok (.iload_n 1, 1) := by decide +kernel
theorem dX12_between_45 : decode cX12_between 45 = .ok (.invokevirtual 632, 3) := by decide +kernel
theorem dX12_between_48 : decode cX12_between 48 = .ok (.iconst 0, 1) := by decide +kernel
theorem dX12_between_49 : decode cX12_between 49 = .ok (.istore 4, 2) := by decide +kernel
theorem dX12_between_51 : decode cX12_between 51 = .ok (.iconst 0, 1) := by decide +kernel
theorem dX12_between_52 : decode cX12_between 52 = .ok (.istore 5, 2) := by decide +kernel
theorem dX12_between_54 : decode cX12_between 54 = .ok (.iload 5, 2) := by decide +kernel
theorem dX12_between_56 : decode cX12_between 56 = .ok (.aload_n 0, 1) := by decide +kernel
theorem dX12_between_57 : decode cX12_between 57 = .ok (.getfield 626, 3) := by decide +kernel
theorem dX12_between_60 : decode cX12_between 60 = .ok (.if_icmp .ge 45, 3) := by decide +kernel
theorem dX12_between_63 : decode cX12_between 63 = .ok (.iload 4, 2) := by decide +kernel
theorem dX12_between_65 : decode cX12_between 65 = .ok (.aload_n 0, 1) := by decide +kernel
theorem dX12_between_66 : decode cX12_between 66 = .ok (.bipush 120, 2) := by decide +kernel
theorem dX12_between_68 : decode cX12_between 68 = .ok (.iload 5, 2) := by decide +kernel
theorem dX12_between_70 : decode cX12_between 70 = .ok (.iadd, 1) := by decide +kernel
theorem dX12_between_71 : decode cX12_between 71 = .ok (.iload_n 2, 1) := by decide +kernel
theorem dX12_between_72 : decode cX12_between 72 = .ok (.invokevirtual 635, 3) := by decide +kernel
theorem dX12_between_75 : decode cX12_between 75 = .ok (.ifCond .le 20, 3) := by decide +kernel
theorem dX12_between_78 : decode cX12_between 78 = .ok (.aload_n 0, 1) := by decide +kernel
theorem dX12_between_79 : decode cX12_between 79 = .ok (.bipush 120, 2) := by decide +kernel
theorem dX12_between_81 : decode cX12_between 81 = .ok (.iload 5, 2) := by decide +kernel
theorem dX12_between_83 : decode cX12_between 83 = .ok (.iadd, 1) := by decide +kernel
theorem dX12_between_84 : decode cX12_between 84 = .ok (.iload_n 3, 1) := by decide +kernel
theorem dX12_between_85 : decode cX12_between 85 = .ok (.invokevirtual 635, 3) := by decide +kernel
theorem dX12_between_88 : decode cX12_between 88 = .ok (.ifCond .gt 7, 3) := by decide +kernel
theorem dX12_between_91 : decode cX12_between 91 = .ok (.iconst 1, 1) := by decide +kernel
theorem dX12_between_92 : decode cX12_between 92 = .ok (.goto 4, 3) := by decide +kernel
theorem dX12_between_95 : decode cX12_between 95 = .ok (.iconst 0, 1) := by decide +kernel
theorem dX12_between_96 : decode cX12_between 96 = .ok (.iadd, 1) := by decide +kernel
theorem dX12_between_97 : decode cX12_between 97 = .ok (.istore 4, 2) := by decide +kernel
theorem dX12_between_99 : decode cX12_between 99 = .ok (.iinc 5 1, 3) := by decide +kernel
theorem dX12_between_102 : decode cX12_between 102 = .ok (.goto (-48), 3) := by decide +kernel
theorem dX12_between_105 : decode cX12_between 105 = .ok (.iload 4, 2) := by decide +kernel
theorem dX12_between_107 : decode cX12_between 107 = .ok (.ireturn, 1) := by decide +kernel
theorem dX12_parts_0 : decode cX12_parts 0 = .ok (.aload_n 0, 1) := by decide +kernel
theorem dX12_parts_1 : decode cX12_parts 1 = .ok (.iconst 0, 1) := by decide +kernel
theorem dX12_parts_2 : decode cX12_parts 2 = .ok (.putfield 1, 3) := by decide +kernel
theorem dX12_parts_5 : decode cX12_parts 5 = .ok (.aload_n 0, 1) := by decide +kernel
theorem dX12_parts_6 : decode cX12_parts 6 = .ok (.iload_n 1, 1) := by decide +kernel
theorem dX12_parts_7 : decode cX12_parts 7 = .ok (.invokevirtual 617, 3) := by decide +kernel
theorem dX12_parts_10 : decode cX12_parts 10 = .ok (.ifCond .ne 6, 3) := by decide +kernel
theorem dX12_parts_13 : decode cX12_parts 13 = .ok (.bipush (-101), 2) := by decide +kernel
theorem dX12_parts_15 : decode cX12_parts 15 = .ok (.ireturn, 1) := by decide +kernel
theorem dX12_parts_16 : decode cX12_parts 16 = .ok (.aload_n 0, 1) := by decide +kernel
theorem dX12_parts_17 : decode cX12_parts 17 = .ok (.iload_n 1, 1) := by decide +kernel
theorem dX12_parts_18 : decode cX12_parts 18 = .ok (.invokevirtual 614, 3) := by decide +kernel
theorem dX12_parts_21 : decode cX12_parts 21 = .ok (.ifCond .ge 6, 3) := by decide +kernel
theorem dX12_parts_24 : decode cX12_parts 24 = .ok (.bipush (-103), 2) := by decide +kernel
theorem dX12_parts_26 : decode cX12_parts 26 = .ok (.ireturn, 1) := by decide +kernel
theorem dX12_parts_27 : decode cX12_parts 27 = .ok (.aload_n 0, 1) := by decide +kernel
theorem dX12_parts_28 : decode cX12_parts 28 = .ok (.iconst 0, 1) := by decide +kernel
theorem dX12_parts_29 : decode cX12_parts 29 = .ok (.putfield 644, 3) := by decide +kernel
theorem dX12_parts_32 : decode cX12_parts 32 = .ok (.aload_n 0, 1) := by decide +kernel
theorem dX12_parts_33 : decode cX12_parts 33 = .ok (.iload_n 1, 1) := by decide +kernel
theorem dX12_parts_34 : decode cX12_parts 34 = .ok (.invokevirtual 614, 3) := by decide +kernel
theorem dX12_parts_37 : decode cX12_parts 37 = .ok (.ifCond .ne 5, 3) := by decide +kernel
theorem dX12_parts_40 : decode cX12_parts 40 = .ok (.iconst 0, 1) := by decide +kernel
theorem dX12_parts_41 : decode cX12_parts 41 = .ok (.ireturn, 1) := by decide +kernel
theorem dX12_parts_42 : decode cX12_parts 42 = .ok (.aload_n 0, 1) := by decide +kernel
theorem dX12_parts_43 : decode cX12_parts 43 = .ok (.invokevirtual 301, 3) := by decide +kernel
theorem dX12_parts_46 : decode cX12_parts 46 = .ok (.aload_n 0, 1) := by decide +kernel
theorem dX12_parts_47 : decode cX12_parts 47 = .ok (.aload_n 0, 1) := by decide +kernel
theorem dX12_parts_48 : decode cX12_parts 48 = .ok (.iload_n 1, 1) := by decide +kernel
theorem dX12_parts_49 : decode cX12_parts 49 = .ok (.invokevirtual 629, 3) := by decide +kernel
theorem dX12_parts_52 : decode cX12_parts 52 = .ok (.invokevirtual 326, 3) := by decide +kernel
theorem dX12_parts_55 : decode cX12_parts 55 = .ok (.aload_n 0, 1) := by decide +kernel
theorem dX12_parts_56 : decode cX12_parts 56 = .ok (.aload_n 0, 1) := by decide +kernel
theorem dX12_parts_57 : decode cX12_parts 57 = .ok (.iload_n 1, 1) := by decide +kernel
theorem dX12_parts_58 : decode cX12_parts 58 = .ok (.invokevirtual 620, 3) := by decide +kernel
theorem dX12_parts_61 : decode cX12_parts 61 = .ok (.invokevirtual 116, 3) := by decide +kernel
theorem dX12_parts_64 : decode cX12_parts 64 = .ok (.istore_n 2, 1) := by decide +kernel
theorem dX12_parts_65 : decode cX12_parts 65 = .ok (.iconst 0, 1) := by decide +kernel
theorem dX12_parts_66 : decode cX12_parts 66 = .ok (.istore_n 3, 1) := by decide +kernel
theorem dX12_parts_67 : decode cX12_parts 67 = .ok (.iload_n 3, 1) := by decide +kernel
theorem dX12_parts_68 : decode cX12_parts 68 = .ok (.aload_n 0, 1) := by decide +kernel
theorem dX12_parts_69 : decode cX12_parts 69 = .ok (.getfield 259, 3) := by decide +kernel
theorem dX12_parts_72 : decode cX12_parts 72 = .ok (.if_icmp .ge 135, 3) := by decide +kernel
theorem dX12_parts_75 : decode cX12_parts 75 = .ok (.iconst 0, 1) := by decide +kernel
theorem dX12_parts_76 : decode cX12_parts 76 = .ok (.istore 4, 2) := by decide +kernel
theorem dX12_parts_78 : decode cX12_parts 78 = .ok (.iconst 0, 1) := by decide +kernel
theorem dX12_parts_79 : decode cX12_parts 79 = .ok (.istore 5, 2) := by decide +kernel
theorem dX12_parts_81 : decode cX12_parts 81 = .ok (.iload 5, 2) := by decide +kernel
theorem dX12_parts_83 : decode cX12_parts 83 = .ok (.aload_n 0, 1) := by decide +kernel
theorem dX12_parts_84 : decode cX12_parts 84 = .ok (.getfield 259, 3) := by decide +kernel
theorem dX12_parts_87 : decode cX12_parts 87 = .ok (.if_icmp .ge 39, 3) := by decide +kernel
theorem dX12_parts_90 : decode cX12_parts 90 = .ok (.iload 4, 2) := by decide +kernel
theorem dX12_parts_92 : decode cX12_parts 92 = .ok (.aload_n 0, 1) := by decide +kernel
theorem dX12_parts_93 : decode cX12_parts 93 = .ok (.aload_n 0, 1) := by decide +kernel
theorem dX12_parts_94 : decode cX12_parts 94 = .ok (.getfield 262, 3) := by decide +kernel
theorem dX12_parts_97 : decode cX12_parts 97 = .ok (.iload 5, 2) := by decide +kernel
theorem dX12_parts_99 : decode cX12_parts 99 = .ok (.iaload, 1) := by decide +kernel
theorem dX12_parts_100 : decode cX12_parts 100 = .ok (.aload_n 0, 1) := by decide +kernel
theorem dX12_parts_101 : decode cX12_parts 101 = .ok (.getfield 262, 3) := by decide +kernel
theorem dX12_parts_104 : decode cX12_parts 104 = .ok (.iload_n 3, 1) := by decide +kernel
theorem dX12_parts_105 : decode cX12_parts 105 = .ok (.iaload, 1) := by decide +kernel
theorem dX12_parts_106 : decode cX12_parts 106 = .ok (.invokevirtual 647, 3) := by decide +kernel
theorem dX12_parts_109 : decode cX12_parts 109 = .ok (.ifCond .eq 7, 3) := by decide +kernel
theorem dX12_parts_112 : decode cX12_parts 112 = .ok (.iconst 1, 1) := by decide +kernel
theorem dX12_parts_113 : decode cX12_parts 113 = .ok (.goto 4, 3) := by decide +kernel
theorem dX12_parts_116 : decode cX12_parts 116 = .ok (.iconst 0, 1) := by decide +kernel
theorem dX12_parts_117 : decode cX12_parts 117 = .ok (.iadd, 1) := by decide +kernel
theorem dX12_parts_118 : decode cX12_parts 118 = .ok (.istore 4, 2) := by decide +kernel
theorem dX12_parts_120 : decode cX12_parts 120 = .ok (.iinc 5 1, 3) := by decide +kernel
theorem dX12_parts_123 : decode cX12_parts 123 = .ok (.goto (-42), 3) := by decide +kernel
theorem dX12_parts_126 : decode cX12_parts 126 = .ok (.iconst 0, 1) := by decide +kernel
theorem dX12_parts_127 : decode cX12_parts 127 = .ok (.istore 5, 2) := by decide +kernel
theorem dX12_parts_129 : decode cX12_parts 129 = .ok (.iload_n 2, 1) := by decide +kernel
theorem dX12_parts_130 : decode cX12_parts 130 = .ok (.istore 6, 2) := by decide +kernel
theorem dX12_parts_132 : decode cX12_parts 132 = .ok (.aload_n 0, 1) := by decide +kernel
theorem dX12_parts_133 : decode cX12_parts 133 = .ok (.iload 6, 2) := by decide +kernel
theorem dX12_parts_135 : decode cX12_parts 135 = .ok (.aload_n 0, 1) := by decide +kernel
theorem dX12_parts_136 : decode cX12_parts 136 = .ok (.getfield 262, 3) := by decide +kernel
theorem dX12_parts_139 : decode cX12_parts 139 = .ok (.iload_n 3, 1) := by decide +kernel
theorem dX12_parts_140 : decode cX12_parts 140 = .ok (.iaload, 1) := by decide +kernel
theorem dX12_parts_141 : decode cX12_parts 141 = .ok (.invokevirtual 242, 3) := by decide +kernel
theorem dX12_parts_144 : decode cX12_parts 144 = .ok (.istore 7, 2) := by decide +kernel
theorem dX12_parts_146 : decode cX12_parts 146 = .ok (.iload 7, 2) := by decide +kernel
theorem dX12_parts_148 : decode cX12_parts 148 = .ok (.iconst (-1), 1) := by decide +kernel
theorem dX12_parts_149 : decode cX12_parts 149 = .ok (.if_icmp .eq 27, 3) := by decide +kernel
theorem dX12_parts_152 : decode cX12_parts 152 = .ok (.iinc 5 1, 3) := by decide +kernel
theorem dX12_parts_155 : decode cX12_parts 155 = .ok (.iload 7, 2) := by decide +kernel
theorem dX12_parts_157 : decode cX12_parts 157 = .ok (.istore 6, 2) := by decide +kernel
theorem dX12_parts_159 : decode cX12_parts 159 = .ok (.aload_n 0, 1) := by decide +kernel
theorem dX12_parts_160 : decode cX12_parts 160 = .ok (.iload 6, 2) := by decide +kernel
theorem dX12_parts_162 : decode cX12_parts 162 = .ok (.aload_n 0, 1) := by decide +kernel
theorem dX12_parts_163 : decode cX12_parts 163 = .ok (.getfield 262, 3) := by decide +kernel
theorem dX12_parts_166 : decode cX12_parts 166 = .ok (.iload_n 3, 1) := by decide +kernel
theorem dX12_parts_167 : decode cX12_parts 167 = .ok (.iaload, 1) := by decide +kernel
theorem dX12_parts_168 : decode cX12_parts 168 = .ok (.invokevirtual 242, 3) := by decide +kernel
theorem dX12_parts_171 : decode cX12_parts 171 = .ok (.istore 7, 2) := by decide +kernel
theorem dX12_parts_173 : decode cX12_parts 173 = .ok (.goto (-27), 3) := by decide +kernel
theorem dX12_parts_176 : decode cX12_parts 176 = .ok (.aload_n 0, 1) := by decide +kernel
theorem dX12_parts_177 : decode cX12_parts 177 = .ok (.sipush 220, 3) := by decide +kernel
theorem dX12_parts_180 : decode cX12_parts 180 = .ok (.iload 4, 2) := by decide +kernel
theorem dX12_parts_182 : decode cX12_parts 182 = .ok (.iadd, 1) := by decide +kernel
theorem dX12_parts_183 : decode cX12_parts 183 = .ok (.aload_n 0, 1) := by decide +kernel
theorem dX12_parts_184 : decode cX12_parts 184 = .ok (.getfield 262, 3) := by decide +kernel
theorem dX12_parts_187 : decode cX12_parts 187 = .ok (.iload_n 3, 1) := by decide +kernel
theorem dX12_parts_188 : decode cX12_parts 188 = .ok (.iaload, 1) := by decide +kernel
theorem dX12_parts_189 : decode cX12_parts 189 = .ok (.invokevirtual 289, 3) := by decide +kernel
theorem dX12_parts_192 : decode cX12_parts 192 = .ok (.aload_n 0, 1) := by decide +kernel
theorem dX12_parts_193 : decode cX12_parts 193 = .ok (.getfield 534, 3) := by decide +kernel
theorem dX12_parts_196 : decode cX12_parts 196 = .ok (.iload 4, 2) := by decide +kernel
theorem dX12_parts_198 : decode cX12_parts 198 = .ok (.iload 5, 2) := by decide +kernel
theorem dX12_parts_200 : decode cX12_parts 200 = .ok (.iastore, 1) := by decide +kernel
theorem dX12_parts_201 : decode cX12_parts 201 = .ok (.iinc 3 1, 3) := by decide +kernel
theorem dX12_parts_204 : decode cX12_parts 204 = .ok (.goto (-137), 3) := by decide +kernel
theorem dX12_parts_207 : decode cX12_parts 207 = .ok (.aload_n 0, 1) := by decide +kernel
theorem dX12_parts_208 : decode cX12_parts 208 = .ok (.aload_n 0, 1) := by decide +kernel
theorem dX12_parts_209 : decode cX12_parts 209 = .ok (.getfield 259, 3) := by decide +kernel
theorem dX12_parts_212 : decode cX12_parts 212 = .ok (.putfield 644, 3) := by decide +kernel
theorem dX12_parts_215 : decode cX12_parts 215 = .ok (.aload_n 0, 1) := by decide +kernel
theorem dX12_parts_216 : decode cX12_parts 216 = .ok (.getfield 644, 3) := by decide +kernel
theorem dX12_parts_219 : decode cX12_parts 219 = .ok (.ireturn, 1) := by decide +kernel
theorem dX12_part_0 : decode cX12_part 0 = .ok (.aload_n 0, 1) := by decide +kernel
theorem dX12_part_1 : decode cX12_part 1 = .ok (.iconst 0, 1) := by decide +kernel
theorem dX12_part_2 : decode cX12_part 2 = .ok (.putfield 1, 3) := by decide +kernel
theorem dX12_part_5 : decode cX12_part 5 = .ok (.iload_n 1, 1) := by decide +kernel
theorem dX12_part_6 : decode cX12_part 6 = .ok (.i2l, 1) := by decide +kernel
theorem dX12_part_7 : decode cX12_part 7 = .ok (.lconst 0, 1) := by decide +kernel
theorem dX12_part_8 : decode cX12_part 8 = .ok (.aload_n 0, 1) := by decide +kernel
theorem dX12_part_9 : decode cX12_part 9 = .ok (.getfield 644, 3) := by decide +kernel
theorem dX12_part_12 : decode cX12_part 12 = .ok (.iconst 1, 1) := by decide +kernel
theorem dX12_part_13 : decode cX12_part 13 = .ok (.isub, 1) := by decide +kernel
theorem dX12_part_14 : decode cX12_part 14 = .ok (.i2l, 1) := by decide +kernel
theorem dX12_part_15 : decode cX12_part 15 = .ok (.invokestatic 571, 3) := by decide +kernel
theorem dX12_part_18 : decode cX12_part 18 = .ok (.ifCond .eq 13, 3) := by decide +kernel
theorem dX12_part_21 : decode cX12_part 21 = .ok (.iload_n 2, 1) := by decide +kernel
theorem dX12_part_22 : decode cX12_part 22 = .ok (.i2l, 1) := by decide +kernel
theorem dX12_part_23 : decode cX12_part 23 = .ok (.lconst 0, 1) := by decide +kernel
theorem dX12_part_24 : decode cX12_part 24 = .ok (.lconst 1, 1) := by decide +kernel
theorem dX12_part_25 : decode cX12_part 25 = .ok (.invokestatic 571, 3) := by decide +kernel
theorem dX12_part_28 : decode cX12_part 28 = .ok (.ifCond .ne 6, 3) := by decide +kernel
theorem dX12_part_31 : decode cX12_part 31 = .ok (.bipush (-102), 2) := by decide +kernel
theorem dX12_part_33 : decode cX12_part 33 = .ok (.ireturn, 1) := by decide +kernel
theorem dX12_part_34 : decode cX12_part 34 = .ok (.iload_n 2, 1) := by decide +kernel
theorem dX12_part_35 : decode cX12_part 35 = .ok (.ifCond .ne 16, 3) := by decide +kernel
theorem dX12_part_38 : decode cX12_part 38 = .ok (.aload_n 0, 1) := by decide +kernel
theorem dX12_part_39 : decode cX12_part 39 = .ok (.getfield 277, 3) := by decide +kernel
theorem dX12_part_42 : decode cX12_part 42 = .ok (.sipush 220, 3) := by decide +kernel
theorem dX12_part_45 : decode cX12_part 45 = .ok (.iload_n 1, 1) := by decide +kernel
theorem dX12_part_46 : decode cX12_part 46 = .ok (.iadd, 1) := by decide +kernel
theorem dX12_part_47 : decode cX12_part 47 = .ok (.iaload, 1) := by decide +kernel
theorem dX12_part_48 : decode cX12_part 48 = .ok (.goto 9, 3) := by decide +kernel
theorem dX12_part_51 : decode cX12_part 51 = .ok (.aload_n 0, 1) := by decide +kernel
theorem dX12_part_52 : decode cX12_part 52 = .ok (.getfield 534, 3) := by decide +kernel
theorem dX12_part_55 : decode cX12_part 55 = .ok (.iload_n 1, 1) := by decide +kernel
theorem dX12_part_56 : decode cX12_part 56 = .ok (.iaload, 1) := by decide +kernel
theorem dX12_part_57 : decode cX12_part 57 = .ok (.ireturn, 1) := by decide +kernel
theorem dX12_write_0 : decode cX12_write 0 = .ok (.aload_n 0, 1) := by decide +kernel
theorem dX12_write_1 : decode cX12_write 1 = .ok (.iconst 0, 1) := by decide +kernel
theorem dX12_write_2 : decode cX12_write 2 = .ok (.putfield 1, 3) := by decide +kernel
theorem dX12_write_5 : decode cX12_write 5 = .ok (.aload_n 0, 1) := by decide +kernel
theorem dX12_write_6 : decode cX12_write 6 = .ok (.iload_n 1, 1) := by decide +kernel
theorem dX12_write_7 : decode cX12_write 7 = .ok (.invokevirtual 581, 3) := by decide +kernel
theorem dX12_write_10 : decode cX12_write 10 = .ok (.ifCond .ne 6, 3) := by decide +kernel
theorem dX12_write_13 : decode cX12_write 13 = .ok (.bipush (-101), 2) := by decide +kernel
theorem dX12_write_15 : decode cX12_write 15 = .ok (.ireturn, 1) := by decide +kernel
theorem dX12_write_16 : decode cX12_write 16 = .ok (.iload_n 2, 1) := by decide +kernel
theorem dX12_write_17 : decode cX12_write 17 = .ok (.i2l, 1) := by decide +kernel
theorem dX12_write_18 : decode cX12_write 18 = .ok (.lconst 0, 1) := by decide +kernel
theorem dX12_write_19 : decode cX12_write 19 = .ok (.ldc2_w 658, 3) := by decide +kernel
theorem dX12_write_22 : decode cX12_write 22 = .ok (.invokestatic 571, 3) := by decide +kernel
theorem dX12_write_25 : decode cX12_write 25 = .ok (.ifCond .ne 6, 3) := by decide +kernel
theorem dX12_write_28 : decode cX12_write 28 = .ok (.bipush (-102), 2) := by decide +kernel
theorem dX12_write_30 : decode cX12_write 30 = .ok (.ireturn, 1) := by decide +kernel
theorem dX12_write_31 : decode cX12_write 31 = .ok (.aload_n 0, 1) := by decide +kernel
theorem dX12_write_32 : decode cX12_write 32 = .ok (.invokevirtual 301, 3) := by decide +kernel
theorem dX12_write_35 : decode cX12_write 35 = .ok (.aload_n 0, 1) := by decide +kernel
theorem dX12_write_36 : decode cX12_write 36 = .ok (.lconst 1, 1) := by decide +kernel
theorem dX12_write_37 : decode cX12_write 37 = .ok (.invokevirtual 41, 3) := by decide +kernel
theorem dX12_write_40 : decode cX12_write 40 = .ok (.istore_n 3, 1) := by decide +kernel
theorem dX12_write_41 : decode cX12_write 41 = .ok (.iconst 0, 1) := by decide +kernel
theorem dX12_write_42 : decode cX12_write 42 = .ok (.istore 4, 2) := by decide +kernel
theorem dX12_write_44 : decode cX12_write 44 = .ok (.iload 4, 2) := by decide +kernel
theorem dX12_write_46 : decode cX12_write 46 = .ok (.iload_n 2, 1) := by decide +kernel
theorem dX12_write_47 : decode cX12_write 47 = .ok (.if_icmp .ge 22, 3) := by decide +kernel
theorem dX12_write_50 : decode cX12_write 50 = .ok (.aload_n 0, 1) := by decide +kernel
theorem dX12_write_51 : decode cX12_write 51 = .ok (.iload_n 3, 1) := by decide +kernel
theorem dX12_write_52 : decode cX12_write 52 = .ok (.aload_n 0, 1) := by decide +kernel
theorem dX12_write_53 : decode cX12_write 53 = .ok (.ldc2_w 660, 3) := by decide +kernel
theorem dX12_write_56 : decode cX12_write 56 = .ok (.invokevirtual 41, 3) := by decide +kernel
theorem dX12_write_59 : decode cX12_write 59 = .ok (.invokevirtual 98, 3) := by decide +kernel
theorem dX12_write_62 : decode cX12_write 62 = .ok (.istore_n 3, 1) := by decide +kernel
theorem dX12_write_63 : decode cX12_write 63 = .ok (.iinc 4 1, 3) := by decide +kernel
theorem dX12_write_66 : decode cX12_write 66 = .ok (.goto (-22), 3) := by decide +kernel
theorem dX12_write_69 : decode cX12_write 69 = .ok (.aload_n 0, 1) := by decide +kernel
theorem dX12_write_70 : decode cX12_write 70 = .ok (.iload_n 1, 1) := by decide +kernel
theorem dX12_write_71 : decode cX12_write 71 = .ok (.iload_n 3, 1) := by decide +kernel
theorem dX12_write_72 : decode cX12_write 72 = .ok (.invokevirtual 444, 3) := by decide +kernel
theorem dX12_write_75 : decode cX12_write 75 = .ok (.istore 4, 2) := by decide +kernel
theorem dX12_write_77 : decode cX12_write 77 = .ok (.aload_n 0, 1) := by decide +kernel
theorem dX12_write_78 : decode cX12_write 78 = .ok (.iconst 0, 1) := by decide +kernel
theorem dX12_write_79 : decode cX12_write 79 = .ok (.putfield 650, 3) := by decide +kernel
theorem dX12_write_82 : decode cX12_write 82 = .ok (.aload_n 0, 1) := by decide +kernel
theorem dX12_write_83 : decode cX12_write 83 = .ok (.iload 4, 2) := by decide +kernel
theorem dX12_write_85 : decode cX12_write 85 = .ok (.invokevirtual 27, 3) := by decide +kernel
theorem dX12_write_88 : decode cX12_write 88 = .ok (.ifCond .ge 9, 3) := by decide +kernel
theorem dX12_write_91 : decode cX12_write 91 = .ok (.aload_n 0, 1) := by decide +kernel
theorem dX12_write_92 : decode cX12_write 92 = .ok (.bipush 45, 2) := by decide +kernel
theorem dX12_write_94 : decode cX12_write 94 = .ok (.invokevirtual 662, 3) := by decide +kernel
theorem dX12_write_97 : decode cX12_write 97 = .ok (.aload_n 0, 1) := by decide +kernel
theorem dX12_write_98 : decode cX12_write 98 = .ok (.iload 4, 2) := by decide +kernel
theorem dX12_write_100 : decode cX12_write 100 = .ok (.invokevirtual 665, 3) := by decide +kernel
theorem dX12_write_103 : decode cX12_write 103 = .ok (.aload_n 0, 1) := by decide +kernel
theorem dX12_write_104 : decode cX12_write 104 = .ok (.getfield 653, 3) := by decide +kernel
theorem dX12_write_107 : decode cX12_write 107 = .ok (.iload_n 2, 1) := by decide +kernel
theorem dX12_write_108 : decode cX12_write 108 = .ok (.if_icmp .gt 26, 3) := by decide +kernel
theorem dX12_write_111 : decode cX12_write 111 = .ok (.aload_n 0, 1) := by decide +kernel
theorem dX12_write_112 : decode cX12_write 112 = .ok (.getfield 540, 3) := by decide +kernel
theorem dX12_write_115 : decode cX12_write 115 = .ok (.aload_n 0, 1) := by decide +kernel
theorem dX12_write_116 : decode cX12_write 116 = .ok (.getfield 653, 3) := by decide +kernel
theorem dX12_write_119 : decode cX12_write 119 = .ok (.iconst 0, 1) := by decide +kernel
theorem dX12_write_120 : decode cX12_write 120 = .ok (.bastore, 1) := by decide +kernel
theorem dX12_write_121 : decode cX12_write 121 = .ok (.aload_n 0, 1) := by decide +kernel
theorem dX12_write_122 : decode cX12_write 122 = .ok (.dup, 1) := by decide +kernel
theorem dX12_write_123 : decode cX12_write 123 = .ok (.getfield 653, 3) := by decide +kernel
theorem dX12_write_126 : decode cX12_write 126 = .ok (.iconst 1, 1) := by decide +kernel
theorem dX12_write_127 : decode cX12_write 127 = .ok (.iadd, 1) := by decide +kernel
theorem dX12_write_128 : decode cX12_write 128 = .ok (.putfield 653, 3) := by decide +kernel
theorem dX12_write_131 : decode cX12_write 131 = .ok (.goto (-28), 3) := by decide +kernel
theorem dX12_write_134 : decode cX12_write 134 = .ok (.aload_n 0, 1) := by decide +kernel
theorem dX12_write_135 : decode cX12_write 135 = .ok (.getfield 653, 3) := by decide +kernel
theorem dX12_write_138 : decode cX12_write 138 = .ok (.iconst 1, 1) := by decide +kernel
theorem dX12_write_139 : decode cX12_write 139 = .ok (.isub, 1) := by decide +kernel
theorem dX12_write_140 : decode cX12_write 140 = .ok (.istore 5, 2) := by decide +kernel
theorem dX12_write_142 : decode cX12_write 142 = .ok (.iload 5, 2) := by decide +kernel
theorem dX12_write_144 : decode cX12_write 144 = .ok (.ifCond .lt 39, 3) := by decide +kernel
theorem dX12_write_147 : decode cX12_write 147 = .ok (.aload_n 0, 1) := by decide +kernel
theorem dX12_write_148 : decode cX12_write 148 = .ok (.bipush 48, 2) := by decide +kernel
theorem dX12_write_150 : decode cX12_write 150 = .ok (.aload_n 0, 1) := by decide +kernel
theorem dX12_write_151 : decode cX12_write 151 = .ok (.getfield 540, 3) := by decide +kernel
theorem dX12_write_154 : decode cX12_write 154 = .ok (.iload 5, 2) := by decide +kernel
theorem dX12_write_156 : decode cX12_write 156 = .ok (.baload, 1) := by decide +kernel
theorem dX12_write_157 : decode cX12_write 157 = .ok (.iadd, 1) := by decide +kernel
theorem dX12_write_158 : decode cX12_write 158 = .ok (.invokevirtual 662, 3) := by decide +kernel
theorem dX12_write_161 : decode cX12_write 161 = .ok (.iload 5, 2) := by decide +kernel
theorem dX12_write_163 : decode cX12_write 163 = .ok (.iload_n 2, 1) := by decide +kernel
theorem dX12_write_164 : decode cX12_write 164 = .ok (.if_icmp .ne 13, 3) := by decide +kernel
theorem dX12_write_167 : decode cX12_write 167 = .ok (.iload_n 2, 1) := by decide +kernel
theorem dX12_write_168 : decode cX12_write 168 = .ok (.ifCond .le 9, 3) := by decide +kernel
theorem dX12_write_171 : decode cX12_write 171 = .ok (.aload_n 0, 1) := by decide +kernel
theorem dX12_write_172 : decode cX12_write 172 = .ok (.bipush 46, 2) := by decide +kernel
theorem dX12_write_174 : decode cX12_write 174 = .ok (.invokevirtual 662, 3) := by decide +kernel
theorem dX12_write_177 : decode cX12_write 177 = .ok (.iinc 5 (-1), 3) := by decide +kernel
theorem dX12_write_180 : decode cX12_write 180 = .ok (.goto (-38), 3) := by decide +kernel
theorem dX12_write_183 : decode cX12_write 183 = .ok (.aload_n 0, 1) := by decide +kernel
theorem dX12_write_184 : decode cX12_write 184 = .ok (.getfield 650, 3) := by decide +kernel
theorem dX12_write_187 : decode cX12_write 187 = .ok (.ireturn, 1) := by decide +kernel
theorem dX12_writeLeast_0 : decode cX12_writeLeast 0 = .ok (.aload_n 0, 1) := by decide +kernel
theorem dX12_writeLeast_1 : decode cX12_writeLeast 1 = .ok (.iconst 0, 1) := by decide +kernel
theorem dX12_writeLeast_2 : decode cX12_writeLeast 2 = .ok (.putfield 1, 3) := by decide +kernel
theorem dX12_writeLeast_5 : decode cX12_writeLeast 5 = .ok (.aload_n 0, 1) := by decide +kernel
theorem dX12_writeLeast_6 : decode cX12_writeLeast 6 = .ok (.iload_n 1, 1) := by decide +kernel
theorem dX12_writeLeast_7 : decode cX12_writeLeast 7 = .ok (.invokevirtual 581, 3) := by decide +kernel
theorem dX12_writeLeast_10 : decode cX12_writeLeast 10 = .ok (.ifCond .eq 11, 3) := by decide +kernel
theorem dX12_writeLeast_13 : decode cX12_writeLeast 13 = .ok (.aload_n 0, 1) := by decide +kernel
theorem dX12_writeLeast_14 : decode cX12_writeLeast 14 = .ok (.iload_n 1, 1) := by decide +kernel
theorem dX12_writeLeast_15 : decode cX12_writeLeast 15 = .ok (.invokevirtual 668, 3) := by decide +kernel
theorem dX12_writeLeast_18 : decode cX12_writeLeast 18 = .ok (.goto 5, 3) := by decide +kernel
theorem dX12_writeLeast_21 : decode cX12_writeLeast 21 = .ok (.bipush (-101), 2) := by decide +kernel
theorem dX12_writeLeast_23 : decode cX12_writeLeast 23 = .ok (.ireturn, 1) := by decide +kernel
theorem dX12_writePart_0 : decode cX12_writePart 0 = .ok (.aload_n 0, 1) := by decide +kernel
theorem dX12_writePart_1 : decode cX12_writePart 1 = .ok (.iconst 0, 1) := by decide +kernel
theorem dX12_writePart_2 : decode cX12_writePart 2 = .ok (.putfield 1, 3) := by decide +kernel
theorem dX12_writePart_5 : decode cX12_writePart 5 = .ok (.iload_n 1, 1) := by decide +kernel
theorem dX12_writePart_6 : decode cX12_writePart 6 = .ok (.i2l, 1) := by decide +kernel
theorem dX12_writePart_7 : decode cX12_writePart 7 = .ok (.lconst 0, 1) := by decide +kernel
theorem dX12_writePart_8 : decode cX12_writePart 8 = .ok (.aload_n 0, 1) := by decide +kernel
theorem dX12_writePart_9 : decode cX12_writePart 9 = .ok (.getfield 644, 3) := by decide +kernel
theorem dX12_writePart_12 : decode cX12_writePart 12 = .ok (.iconst 1, 1) := by decide +kernel
theorem dX12_writePart_13 : decode cX12_writePart 13 = .ok (.isub, 1) := by decide +kernel
theorem dX12_writePart_14 : decode cX12_writePart 14 = .ok (.i2l, 1) := by decide +kernel
theorem dX12_writePart_15 : decode cX12_writePart 15 = .ok (.invokestatic 571, 3) := by decide +kernel
theorem dX12_writePart_18 : decode cX12_writePart 18 = .ok (.ifCond .eq 15, 3) := by decide +kernel
theorem dX12_writePart_21 : decode cX12_writePart 21 = .ok (.aload_n 0, 1) := by decide +kernel
theorem dX12_writePart_22 : decode cX12_writePart 22 = .ok (.sipush 220, 3) := by decide +kernel
theorem dX12_writePart_25 : decode cX12_writePart 25 = .ok (.iload_n 1, 1) := by decide +kernel
theorem dX12_writePart_26 : decode cX12_writePart 26 = .ok (.iadd, 1) := by decide +kernel
theorem dX12_writePart_27 : decode cX12_writePart 27 = .ok (.invokevirtual 668, 3) := by decide +kernel
theorem dX12_writePart_30 : decode cX12_writePart 30 = .ok (.goto 5, 3) := by decide +kernel
theorem dX12_writePart_33 : decode cX12_writePart 33 = .ok (.bipush (-102), 2) := by decide +kernel
theorem dX12_writePart_35 : decode cX12_writePart 35 = .ok (.ireturn, 1) := by decide +kernel
theorem dX12_at_0 : decode cX12_at 0 = .ok (.aload_n 0, 1) := by decide +kernel
theorem dX12_at_1 : decode cX12_at 1 = .ok (.iconst 0, 1) := by decide +kernel
theorem dX12_at_2 : decode cX12_at 2 = .ok (.putfield 1, 3) := by decide +kernel
theorem dX12_at_5 : decode cX12_at 5 = .ok (.iload_n 1, 1) := by decide +kernel
theorem dX12_at_6 : decode cX12_at 6 = .ok (.i2l, 1) := by decide +kernel
theorem dX12_at_7 : decode cX12_at 7 = .ok (.lconst 0, 1) := by decide +kernel
theorem dX12_at_8 : decode cX12_at 8 = .ok (.aload_n 0, 1) := by decide +kernel
theorem dX12_at_9 : decode cX12_at 9 = .ok (.getfield 650, 3) := by decide +kernel
theorem dX12_at_12 : decode cX12_at 12 = .ok (.iconst 1, 1) := by decide +kernel
theorem dX12_at_13 : decode cX12_at 13 = .ok (.isub, 1) := by decide +kernel
theorem dX12_at_14 : decode cX12_at 14 = .ok (.i2l, 1) := by decide +kernel
theorem dX12_at_15 : decode cX12_at 15 = .ok (.invokestatic 571, 3) := by decide +kernel
theorem dX12_at_18 : decode cX12_at 18 = .ok (.ifCond .eq 16, 3) := by decide +kernel
theorem dX12_at_21 : decode cX12_at 21 = .ok (.aload_n 0, 1) := by decide +kernel
theorem dX12_at_22 : decode cX12_at 22 = .ok (.getfield 537, 3) := by decide +kernel
theorem dX12_at_25 : decode cX12_at 25 = .ok (.iload_n 1, 1) := by decide +kernel
theorem dX12_at_26 : decode cX12_at 26 = .ok (.baload, 1) := by decide +kernel
theorem dX12_at_27 : decode cX12_at 27 = .ok (.sipush 255, 3) := by decide +kernel
theorem dX12_at_30 : decode cX12_at 30 = .ok (.iand, 1) := by decide +kernel
theorem dX12_at_31 : decode cX12_at 31 = .ok (.goto 4, 3) := by decide +kernel
theorem dX12_at_34 : decode cX12_at 34 = .ok (.iconst (-1), 1) := by decide +kernel
theorem dX12_at_35 : decode cX12_at 35 = .ok (.ireturn, 1) := by decide +kernel
theorem dX12_feed_0 : decode cX12_feed 0 = .ok (.aload_n 0, 1) := by decide +kernel
theorem dX12_feed_1 : decode cX12_feed 1 = .ok (.aload_n 0, 1) := by decide +kernel
theorem dX12_feed_2 : decode cX12_feed 2 = .ok (.getfield 671, 3) := by decide +kernel
theorem dX12_feed_5 : decode cX12_feed 5 = .ok (.bipush 20, 2) := by decide +kernel
theorem dX12_feed_7 : decode cX12_feed 7 = .ok (.iadd, 1) := by decide +kernel
theorem dX12_feed_8 : decode cX12_feed 8 = .ok (.sipush 300, 3) := by decide +kernel
theorem dX12_feed_11 : decode cX12_feed 11 = .ok (.if_icmp .le 7, 3) := by decide +kernel
theorem dX12_feed_14 : decode cX12_feed 14 = .ok (.iconst 1, 1) := by decide +kernel
theorem dX12_feed_15 : decode cX12_feed 15 = .ok (.goto 4, 3) := by decide +kernel
theorem dX12_feed_18 : decode cX12_feed 18 = .ok (.iconst 0, 1) := by decide +kernel
theorem dX12_feed_19 : decode cX12_feed 19 = .ok (.putfield 1, 3) := by decide +kernel
theorem dX12_feed_22 : decode cX12_feed 22 = .ok (.aload_n 0, 1) := by decide +kernel
theorem dX12_feed_23 : decode cX12_feed 23 = .ok (.getfield 1, 3) := by decide +kernel
theorem dX12_feed_26 : decode cX12_feed 26 = .ok (.ifCond .le 5, 3) := by decide +kernel
theorem dX12_feed_29 : decode cX12_feed 29 = .ok (.iconst 0, 1) := by decide +kernel
theorem dX12_feed_30 : decode cX12_feed 30 = .ok (.ireturn, 1) := by decide +kernel
theorem dX12_feed_31 : decode cX12_feed 31 = .ok (.iconst 0, 1) := by decide +kernel
theorem dX12_feed_32 : decode cX12_feed 32 = .ok (.istore 6, 2) := by decide +kernel
theorem dX12_feed_34 : decode cX12_feed 34 = .ok (.iload 6, 2) := by decide +kernel
theorem dX12_feed_36 : decode cX12_feed 36 = .ok (.bipush 20, 2) := by decide +kernel
theorem dX12_feed_38 : decode cX12_feed 38 = .ok (.if_icmp .ge 90, 3) := by decide +kernel
theorem dX12_feed_41 : decode cX12_feed 41 = .ok (.iload 6, 2) := by decide +kernel
theorem dX12_feed_43 : decode cX12_feed 43 = .ok (.iconst 4, 1) := by decide +kernel
theorem dX12_feed_44 : decode cX12_feed 44 = .ok (.if_icmp .ge 7, 3) := by decide +kernel
theorem dX12_feed_47 : decode cX12_feed 47 = .ok (.iload_n 1, 1) := by decide +kernel
theorem dX12_feed_48 : decode cX12_feed 48 = .ok (.goto 39, 3) := by decide +kernel
theorem dX12_feed_51 : decode cX12_feed 51 = .ok (.iload 6, 2) := by decide +kernel
theorem dX12_feed_53 : decode cX12_feed 53 = .ok (.bipush 8, 2) := by decide +kernel
theorem dX12_feed_55 : decode cX12_feed 55 = .ok (.if_icmp .ge 7, 3) := by decide +kernel
theorem dX12_feed_58 : decode cX12_feed 58 = .ok (.iload_n 2, 1) := by decide +kernel
theorem dX12_feed_59 : decode cX12_feed 59 = .ok (.goto 28, 3) := by decide +kernel
theorem dX12_feed_62 : decode cX12_feed 62 = .ok (.iload 6, 2) := by decide +kernel
theorem dX12_feed_64 : decode cX12_feed 64 = .ok (.bipush 12, 2) := by decide +kernel
theorem dX12_feed_66 : decode cX12_feed 66 = .ok (.if_icmp .ge 7, 3) := by decide +kernel
theorem dX12_feed_69 : decode cX12_feed 69 = .ok (.iload_n 3, 1) := by decide +kernel
theorem dX12_feed_70 : decode cX12_feed 70 = .ok (.goto 17, 3) := by decide +kernel
theorem dX12_feed_73 : decode cX12_feed 73 = .ok (.iload 6, 2) := by decide +kernel
theorem dX12_feed_75 : decode cX12_feed 75 = .ok (.bipush 16, 2) := by decide +kernel
theorem dX12_feed_77 : decode cX12_feed 77 = .ok (.if_icmp .ge 8, 3) := by decide +kernel
theorem dX12_feed_80 : decode cX12_feed 80 = .ok (.iload 4, 2) := by decide +kernel
theorem dX12_feed_82 : decode cX12_feed 82 = .ok (.goto 5, 3) := by decide +kernel
theorem dX12_feed_85 : decode cX12_feed 85 = .ok (.iload 5, 2) := by decide +kernel
theorem dX12_feed_87 : decode cX12_feed 87 = .ok (.istore 7, 2) := by decide +kernel
theorem dX12_feed_89 : decode cX12_feed 89 = .ok (.aload_n 0, 1) := by decide +kernel
theorem dX12_feed_90 : decode cX12_feed 90 = .ok (.getfield 524, 3) := by decide +kernel
theorem dX12_feed_93 : decode cX12_feed 93 = .ok (.aload_n 0, 1) := by decide +kernel
theorem dX12_feed_94 : decode cX12_feed 94 = .ok (.getfield 671, 3) := by decide +kernel
theorem dX12_feed_97 : decode cX12_feed 97 = .ok (.iload 7, 2) := by decide +kernel
theorem dX12_feed_99 : decode cX12_feed 99 = .ok (.bipush 24, 2) := by decide +kernel
theorem dX12_feed_101 : decode cX12_feed 101 = .ok (.bipush 8, 2) := by decide +kernel
theorem dX12_feed_103 : decode cX12_feed 103 = .ok (.iload 6, 2) := by decide +kernel
theorem dX12_feed_105 : decode cX12_feed 105 = .ok (.iconst 4, 1) := by decide +kernel
theorem dX12_feed_106 : decode cX12_feed 106 = .ok (.irem, 1) := by decide +kernel
theorem dX12_feed_107 : decode cX12_feed 107 = .ok (.imul, 1) := by decide +kernel
theorem dX12_feed_108 : decode cX12_feed 108 = .ok (.isub, 1) := by decide +kernel
theorem dX12_feed_109 : decode cX12_feed 109 = .ok (.ishr, 1) := by decide +kernel
theorem dX12_feed_110 : decode cX12_feed 110 = .ok (.i2b, 1) := by decide +kernel
theorem dX12_feed_111 : decode cX12_feed 111 = .ok (.bastore, 1) := by decide +kernel
theorem dX12_feed_112 : decode cX12_feed 112 = .ok (.aload_n 0, 1) := by decide +kernel
theorem dX12_feed_113 : decode cX12_feed 113 = .ok (.dup, 1) := by decide +kernel
theorem dX12_feed_114 : decode cX12_feed 114 = .ok (.getfield 671, 3) := by decide +kernel
theorem dX12_feed_117 : decode cX12_feed 117 = .ok (.iconst 1, 1) := by decide +kernel
theorem dX12_feed_118 : decode cX12_feed 118 = .ok (.iadd, 1) := by decide +kernel
theorem dX12_feed_119 : decode cX12_feed 119 = .ok (.putfield 671, 3) := by decide +kernel
theorem dX12_feed_122 : decode cX12_feed 122 = .ok (.iinc 6 1, 3) := by decide +kernel
theorem dX12_feed_125 : decode cX12_feed 125 = .ok (.goto (-91), 3) := by decide +kernel
theorem dX12_feed_128 : decode cX12_feed 128 = .ok (.aload_n 0, 1) := by decide +kernel
theorem dX12_feed_129 : decode cX12_feed 129 = .ok (.getfield 671, 3) := by decide +kernel
theorem dX12_feed_132 : decode cX12_feed 132 = .ok (.ireturn, 1) := by decide +kernel
theorem dX12_end_0 : decode cX12_end 0 = .ok (.aload_n 0, 1) := by decide +kernel
theorem dX12_end_1 : decode cX12_end 1 = .ok (.iload_n 1, 1) := by decide +kernel
theorem dX12_end_2 : decode cX12_end 2 = .ok (.i2l, 1) := by decide +kernel
theorem dX12_end_3 : decode cX12_end 3 = .ok (.lconst 0, 1) := by decide +kernel
theorem dX12_end_4 : decode cX12_end 4 = .ok (.aload_n 0, 1) := by decide +kernel
theorem dX12_end_5 : decode cX12_end 5 = .ok (.getfield 671, 3) := by decide +kernel
theorem dX12_end_8 : decode cX12_end 8 = .ok (.i2l, 1) := by decide +kernel
theorem dX12_end_9 : decode cX12_end 9 = .ok (.invokestatic 571, 3) := by decide +kernel
theorem dX12_end_12 : decode cX12_end 12 = .ok (.ifCond .eq 7, 3) := by decide +kernel
theorem dX12_end_15 : decode cX12_end 15 = .ok (.iconst 0, 1) := by decide +kernel
theorem dX12_end_16 : decode cX12_end 16 = .ok (.goto 4, 3) := by decide +kernel
theorem dX12_end_19 : decode cX12_end 19 = .ok (.iconst 1, 1) := by decide +kernel
theorem dX12_end_20 : decode cX12_end 20 = .ok (.putfield 1, 3) := by decide +kernel
theorem dX12_end_23 : decode cX12_end 23 = .ok (.aload_n 0, 1) := by decide +kernel
theorem dX12_end_24 : decode cX12_end 24 = .ok (.aload_n 0, 1) := by decide +kernel
theorem dX12_end_25 : decode cX12_end 25 = .ok (.getfield 1, 3) := by decide +kernel
theorem dX12_end_28 : decode cX12_end 28 = .ok (.ifCond .le 10, 3) := by decide +kernel
theorem dX12_end_31 : decode cX12_end 31 = .ok (.aload_n 0, 1) := by decide +kernel
theorem dX12_end_32 : decode cX12_end 32 = .ok (.getfield 671, 3) := by decide +kernel
theorem dX12_end_35 : decode cX12_end 35 = .ok (.goto 4, 3) := by decide +kernel
theorem dX12_end_38 : decode cX12_end 38 = .ok (.iload_n 1, 1) := by decide +kernel
theorem dX12_end_39 : decode cX12_end 39 = .ok (.putfield 671, 3) := by decide +kernel
theorem dX12_end_42 : decode cX12_end 42 = .ok (.return_, 1) := by decide +kernel
theorem dX12_signAt_0 : decode cX12_signAt 0 = .ok (.iload_n 1, 1) := by decide +kernel
theorem dX12_signAt_1 : decode cX12_signAt 1 = .ok (.aload_n 0, 1) := by decide +kernel
theorem dX12_signAt_2 : decode cX12_signAt 2 = .ok (.getfield 674, 3) := by decide +kernel
theorem dX12_signAt_5 : decode cX12_signAt 5 = .ok (.if_icmp .ge 16, 3) := by decide +kernel
theorem dX12_signAt_8 : decode cX12_signAt 8 = .ok (.aload_n 0, 1) := by decide +kernel
theorem dX12_signAt_9 : decode cX12_signAt 9 = .ok (.getfield 528, 3) := by decide +kernel
theorem dX12_signAt_12 : decode cX12_signAt 12 = .ok (.iload_n 1, 1) := by decide +kernel
theorem dX12_signAt_13 : decode cX12_signAt 13 = .ok (.baload, 1) := by decide +kernel
theorem dX12_signAt_14 : decode cX12_signAt 14 = .ok (.sipush 255, 3) := by decide +kernel
theorem dX12_signAt_17 : decode cX12_signAt 17 = .ok (.iand, 1) := by decide +kernel
theorem dX12_signAt_18 : decode cX12_signAt 18 = .ok (.goto 4, 3) := by decide +kernel
theorem dX12_signAt_21 : decode cX12_signAt 21 = .ok (.iconst 0, 1) := by decide +kernel
theorem dX12_signAt_22 : decode cX12_signAt 22 = .ok (.ireturn, 1) := by decide +kernel
theorem dX12_isFigure_0 : decode cX12_isFigure 0 = .ok (.aload_n 0, 1) := by decide +kernel
theorem dX12_isFigure_1 : decode cX12_isFigure 1 = .ok (.iload_n 1, 1) := by decide +kernel
theorem dX12_isFigure_2 : decode cX12_isFigure 2 = .ok (.invokevirtual 677, 3) := by decide +kernel
theorem dX12_isFigure_5 : decode cX12_isFigure 5 = .ok (.i2l, 1) := by decide +kernel
theorem dX12_isFigure_6 : decode cX12_isFigure 6 = .ok (.ldc2_w 680, 3) := by decide +kernel
theorem dX12_isFigure_9 : decode cX12_isFigure 9 = .ok (.ldc2_w 682, 3) := by decide +kernel
theorem dX12_isFigure_12 : decode cX12_isFigure 12 = .ok (.invokestatic 571, 3) := by decide +kernel
theorem dX12_isFigure_15 : decode cX12_isFigure 15 = .ok (.ireturn, 1) := by decide +kernel
theorem dX12_next_0 : decode cX12_next 0 = .ok (.aload_n 0, 1) := by decide +kernel
theorem dX12_next_1 : decode cX12_next 1 = .ok (.getfield 684, 3) := by decide +kernel
theorem dX12_next_4 : decode cX12_next 4 = .ok (.aload_n 0, 1) := by decide +kernel
theorem dX12_next_5 : decode cX12_next 5 = .ok (.getfield 687, 3) := by decide +kernel
theorem dX12_next_8 : decode cX12_next 8 = .ok (.iadd, 1) := by decide +kernel
theorem dX12_next_9 : decode cX12_next 9 = .ok (.istore_n 1, 1) := by decide +kernel
theorem dX12_next_10 : decode cX12_next 10 = .ok (.iload_n 1, 1) := by decide +kernel
theorem dX12_next_11 : decode cX12_next 11 = .ok (.aload_n 0, 1) := by decide +kernel
theorem dX12_next_12 : decode cX12_next 12 = .ok (.getfield 674, 3) := by decide +kernel
theorem dX12_next_15 : decode cX12_next 15 = .ok (.if_icmp .ge 19, 3) := by decide +kernel
theorem dX12_next_18 : decode cX12_next 18 = .ok (.aload_n 0, 1) := by decide +kernel
theorem dX12_next_19 : decode cX12_next 19 = .ok (.iload_n 1, 1) := by decide +kernel
theorem dX12_next_20 : decode cX12_next 20 = .ok (.invokevirtual 677, 3) := by decide +kernel
theorem dX12_next_23 : decode cX12_next 23 = .ok (.bipush 32, 2) := by decide +kernel
theorem dX12_next_25 : decode cX12_next 25 = .ok (.if_icmp .ne 9, 3) := by decide +kernel
theorem dX12_next_28 : decode cX12_next 28 = .ok (.iinc 1 1, 3) := by decide +kernel
theorem dX12_next_31 : decode cX12_next 31 = .ok (.goto (-21), 3) := by decide +kernel
theorem dX12_next_34 : decode cX12_next 34 = .ok (.aload_n 0, 1) := by decide +kernel
theorem dX12_next_35 : decode cX12_next 35 = .ok (.iload_n 1, 1) := by decide +kernel
theorem dX12_next_36 : decode cX12_next 36 = .ok (.putfield 684, 3) := by decide +kernel
theorem dX12_next_39 : decode cX12_next 39 = .ok (.aload_n 0, 1) := by decide +kernel
theorem dX12_next_40 : decode cX12_next 40 = .ok (.iconst 1, 1) := by decide +kernel
theorem dX12_next_41 : decode cX12_next 41 = .ok (.putfield 687, 3) := by decide +kernel
theorem dX12_next_44 : decode cX12_next 44 = .ok (.aload_n 0, 1) := by decide +kernel
theorem dX12_next_45 : decode cX12_next 45 = .ok (.iconst 0, 1) := by decide +kernel
theorem dX12_next_46 : decode cX12_next 46 = .ok (.putfield 690, 3) := by decide +kernel
theorem dX12_next_49 : decode cX12_next 49 = .ok (.aload_n 0, 1) := by decide +kernel
theorem dX12_next_50 : decode cX12_next 50 = .ok (.iload_n 1, 1) := by decide +kernel
theorem dX12_next_51 : decode cX12_next 51 = .ok (.invokevirtual 677, 3) := by decide +kernel
theorem dX12_next_54 : decode cX12_next 54 = .ok (.istore_n 2, 1) := by decide +kernel
theorem dX12_next_55 : decode cX12_next 55 = .ok (.iload_n 1, 1) := by decide +kernel
theorem dX12_next_56 : decode cX12_next 56 = .ok (.aload_n 0, 1) := by decide +kernel
theorem dX12_next_57 : decode cX12_next 57 = .ok (.getfield 674, 3) := by decide +kernel
theorem dX12_next_60 : decode cX12_next 60 = .ok (.if_icmp .lt 16, 3) := by decide +kernel
theorem dX12_next_63 : decode cX12_next 63 = .ok (.aload_n 0, 1) := by decide +kernel
theorem dX12_next_64 : decode cX12_next 64 = .ok (.iconst 0, 1) := by decide +kernel
theorem dX12_next_65 : decode cX12_next 65 = .ok (.putfield 687, 3) := by decide +kernel
theorem dX12_next_68 : decode cX12_next 68 = .ok (.aload_n 0, 1) := by decide +kernel
theorem dX12_next_69 : decode cX12_next 69 = .ok (.iconst 0, 1) := by decide +kernel
theorem dX12_next_70 : decode cX12_next 70 = .ok (.putfield 693, 3) := by decide +kernel
theorem dX12_next_73 : decode cX12_next 73 = .ok (.goto 201, 3) := by decide +kernel
theorem dX12_next_76 : decode cX12_next 76 = .ok (.aload_n 0, 1) := by decide +kernel
theorem dX12_next_77 : decode cX12_next 77 = .ok (.iload_n 1, 1) := by decide +kernel
theorem dX12_next_78 : decode cX12_next 78 = .ok (.invokevirtual 696, 3) := by decide +kernel
theorem dX12_next_81 : decode cX12_next 81 = .ok (.ifCond .eq 96, 3) := by decide +kernel
theorem dX12_next_84 : decode cX12_next 84 = .ok (.aload_n 0, 1) := by decide +kernel
theorem dX12_next_85 : decode cX12_next 85 = .ok (.iconst 0, 1) := by decide +kernel
theorem dX12_next_86 : decode cX12_next 86 = .ok (.putfield 687, 3) := by decide +kernel
theorem dX12_next_89 : decode cX12_next 89 = .ok (.aload_n 0, 1) := by decide +kernel
theorem dX12_next_90 : decode cX12_next 90 = .ok (.iload_n 1, 1) := by decide +kernel
theorem dX12_next_91 : decode cX12_next 91 = .ok (.aload_n 0, 1) := by decide +kernel
theorem dX12_next_92 : decode cX12_next 92 = .ok (.getfield 687, 3) := by decide +kernel
theorem dX12_next_95 : decode cX12_next 95 = .ok (.iadd, 1) := by decide +kernel
theorem dX12_next_96 : decode cX12_next 96 = .ok (.invokevirtual 696, 3) := by decide +kernel
theorem dX12_next_99 : decode cX12_next 99 = .ok (.ifCond .eq 57, 3) := by decide +kernel
theorem dX12_next_102 : decode cX12_next 102 = .ok (.aload_n 0, 1) := by decide +kernel
theorem dX12_next_103 : decode cX12_next 103 = .ok (.aload_n 0, 1) := by decide +kernel
theorem dX12_next_104 : decode cX12_next 104 = .ok (.getfield 687, 3) := by decide +kernel
theorem dX12_next_107 : decode cX12_next 107 = .ok (.bipush 9, 2) := by decide +kernel
theorem dX12_next_109 : decode cX12_next 109 = .ok (.if_icmp .ge 27, 3) := by decide +kernel
theorem dX12_next_112 : decode cX12_next 112 = .ok (.bipush 10, 2) := by decide +kernel
theorem dX12_next_114 : decode cX12_next 114 = .ok (.aload_n 0, 1) := by decide +kernel
theorem dX12_next_115 : decode cX12_next 115 = .ok (.getfield 690, 3) := by decide +kernel
theorem dX12_next_118 : decode cX12_next 118 = .ok (.imul, 1) := by decide +kernel
theorem dX12_next_119 : decode cX12_next 119 = .ok (.aload_n 0, 1) := by decide +kernel
theorem dX12_next_120 : decode cX12_next 120 = .ok (.iload_n 1, 1) := by decide +kernel
theorem dX12_next_121 : decode cX12_next 121 = .ok (.aload_n 0, 1) := by decide +kernel
theorem dX12_next_122 : decode cX12_next 122 = .ok (.getfield 687, 3) := by decide +kernel
theorem dX12_next_125 : decode cX12_next 125 = .ok (.iadd, 1) := by decide +kernel
theorem dX12_next_126 : decode cX12_next 126 = .ok (.invokevirtual 677, 3) := by decide +kernel
theorem dX12_next_129 : decode cX12_next 129 = .ok (.iadd, 1) := by decide +kernel
theorem dX12_next_130 : decode cX12_next 130 = .ok (.bipush 48, 2) := by decide +kernel
theorem dX12_next_132 : decode cX12_next 132 = .ok (.isub, 1) := by decide +kernel
theorem dX12_next_133 : decode cX12_next 133 = .ok (.goto 7, 3) := by decide +kernel
theorem dX12_next_136 : decode cX12_next 136 = .ok (.aload_n 0, 1) := by decide +kernel
theorem dX12_next_137 : decode cX12_next 137 = .ok (.getfield 690, 3) := by decide +kernel
theorem dX12_next_140 : decode cX12_next 140 = .ok (.putfield 690, 3) := by decide +kernel
theorem dX12_next_143 : decode cX12_next 143 = .ok (.aload_n 0, 1) := by decide +kernel
theorem dX12_next_144 : decode cX12_next 144 = .ok (.dup, 1) := by decide +kernel
theorem dX12_next_145 : decode cX12_next 145 = .ok (.getfield 687, 3) := by decide +kernel
theorem dX12_next_148 : decode cX12_next 148 = .ok (.iconst 1, 1) := by decide +kernel
theorem dX12_next_149 : decode cX12_next 149 = .ok (.iadd, 1) := by decide +kernel
theorem dX12_next_150 : decode cX12_next 150 = .ok (.putfield 687, 3) := by decide +kernel
theorem dX12_next_153 : decode cX12_next 153 = .ok (.goto (-64), 3) := by decide +kernel
theorem dX12_next_156 : decode cX12_next 156 = .ok (.aload_n 0, 1) := by decide +kernel
theorem dX12_next_157 : decode cX12_next 157 = .ok (.aload_n 0, 1) := by decide +kernel
theorem dX12_next_158 : decode cX12_next 158 = .ok (.getfield 687, 3) := by decide +kernel
theorem dX12_next_161 : decode cX12_next 161 = .ok (.bipush 9, 2) := by decide +kernel
theorem dX12_next_163 : decode cX12_next 163 = .ok (.if_icmp .le 7, 3) := by decide +kernel
theorem dX12_next_166 : decode cX12_next 166 = .ok (.iconst (-1), 1) := by decide +kernel
theorem dX12_next_167 : decode cX12_next 167 = .ok (.goto 4, 3) := by decide +kernel
theorem dX12_next_170 : decode cX12_next 170 = .ok (.iconst 1, 1) := by decide +kernel
theorem dX12_next_171 : decode cX12_next 171 = .ok (.putfield 693, 3) := by decide +kernel
theorem dX12_next_174 : decode cX12_next 174 = .ok (.goto 100, 3) := by decide +kernel
theorem dX12_next_177 : decode cX12_next 177 = .ok (.iload_n 2, 1) := by decide +kernel
theorem dX12_next_178 : decode cX12_next 178 = .ok (.bipush 43, 2) := by decide +kernel
theorem dX12_next_180 : decode cX12_next 180 = .ok (.if_icmp .eq 75, 3) := by decide +kernel
theorem dX12_next_183 : decode cX12_next 183 = .ok (.iload_n 2, 1) := by decide +kernel
theorem dX12_next_184 : decode cX12_next 184 = .ok (.bipush 45, 2) := by decide +kernel
theorem dX12_next_186 : decode cX12_next 186 = .ok (.if_icmp .eq 69, 3) := by decide +kernel
theorem dX12_next_189 : decode cX12_next 189 = .ok (.iload_n 2, 1) := by decide +kernel
theorem dX12_next_190 : decode cX12_next 190 = .ok (.bipush 42, 2) := by decide +kernel
theorem dX12_next_192 : decode cX12_next 192 = .ok (.if_icmp .eq 63, 3) := by decide +kernel
theorem dX12_next_195 : decode cX12_next 195 = .ok (.iload_n 2, 1) := by decide +kernel
theorem dX12_next_196 : decode cX12_next 196 = .ok (.bipush 47, 2) := by decide +kernel
theorem dX12_next_198 : decode cX12_next 198 = .ok (.if_icmp .eq 57, 3) := by decide +kernel
theorem dX12_next_201 : decode cX12_next 201 = .ok (.iload_n 2, 1) := by decide +kernel
theorem dX12_next_202 : decode cX12_next 202 = .ok (.bipush 94, 2) := by decide +kernel
theorem dX12_next_204 : decode cX12_next 204 = .ok (.if_icmp .eq 51, 3) := by decide +kernel
theorem dX12_next_207 : decode cX12_next 207 = .ok (.iload_n 2, 1) := by decide +kernel
theorem dX12_next_208 : decode cX12_next 208 = .ok (.bipush 40, 2) := by decide +kernel
theorem dX12_next_210 : decode cX12_next 210 = .ok (.if_icmp .eq 45, 3) := by decide +kernel
theorem dX12_next_213 : decode cX12_next 213 = .ok (.iload_n 2, 1) := by decide +kernel
theorem dX12_next_214 : decode cX12_next 214 = .ok (.bipush 41, 2) := by decide +kernel
theorem dX12_next_216 : decode cX12_next 216 = .ok (.if_icmp .eq 39, 3) := by decide +kernel
theorem dX12_next_219 : decode cX12_next 219 = .ok (.iload_n 2, 1) := by decide +kernel
theorem dX12_next_220 : decode cX12_next 220 = .ok (.bipush 91, 2) := by decide +kernel
theorem dX12_next_222 : decode cX12_next 222 = .ok (.if_icmp .eq 33, 3) := by decide +kernel
theorem dX12_next_225 : decode cX12_next 225 = .ok (.iload_n 2, 1) := by decide +kernel
theorem dX12_next_226 : decode cX12_next 226 = .ok (.bipush 93, 2) := by decide +kernel
theorem dX12_next_228 : decode cX12_next 228 = .ok (.if_icmp .eq 27, 3) := by decide +kernel
theorem dX12_next_231 : decode cX12_next 231 = .ok (.iload_n 2, 1) := by decide +kernel
theorem dX12_next_232 : decode cX12_next 232 = .ok (.bipush 44, 2) := by decide +kernel
theorem dX12_next_234 : decode cX12_next 234 = .ok (.if_icmp .eq 21, 3) := by decide +kernel
theorem dX12_next_237 : decode cX12_next 237 = .ok (.iload_n 2, 1) := by decide +kernel
theorem dX12_next_238 : decode cX12_next 238 = .ok (.bipush 64, 2) := by decide +kernel
theorem dX12_next_240 : decode cX12_next 240 = .ok (.if_icmp .eq 15, 3) := by decide +kernel
theorem dX12_next_243 : decode cX12_next 243 = .ok (.iload_n 2, 1) := by decide +kernel
theorem dX12_next_244 : decode cX12_next 244 = .ok (.bipush 115, 2) := by decide +kernel
theorem dX12_next_246 : decode cX12_next 246 = .ok (.if_icmp .eq 9, 3) := by decide +kernel
theorem dX12_next_249 : decode cX12_next 249 = .ok (.iload_n 2, 1) := by decide +kernel
theorem dX12_next_250 : decode cX12_next 250 = .ok (.bipush 99, 2) := by decide +kernel
theorem dX12_next_252 : decode cX12_next 252 = .ok (.if_icmp .ne 7, 3) := by decide +kernel
theorem dX12_next_255 : decode cX12_next 255 = .ok (.iconst 1, 1) := by decide +kernel
theorem dX12_next_256 : decode cX12_next 256 = .ok (.goto 4, 3) := by decide +kernel
theorem dX12_next_259 : decode cX12_next 259 = .ok (.iconst 0, 1) := by decide +kernel
theorem dX12_next_260 : decode cX12_next 260 = .ok (.istore_n 3, 1) := by decide +kernel
theorem dX12_next_261 : decode cX12_next 261 = .ok (.aload_n 0, 1) := by decide +kernel
theorem dX12_next_262 : decode cX12_next 262 = .ok (.iload_n 3, 1) := by decide +kernel
theorem dX12_next_263 : decode cX12_next 263 = .ok (.ifCond .eq 7, 3) := by decide +kernel
theorem dX12_next_266 : decode cX12_next 266 = .ok (.iload_n 2, 1) := by decide +kernel
theorem dX12_next_267 : decode cX12_next 267 = .ok (.goto 4, 3) := by decide +kernel
theorem dX12_next_270 : decode cX12_next 270 = .ok (.iconst (-1), 1) := by decide +kernel
theorem dX12_next_271 : decode cX12_next 271 = .ok (.putfield 693, 3) := by decide +kernel
theorem dX12_next_274 : decode cX12_next 274 = .ok (.return_, 1) := by decide +kernel
theorem dX12_open_0 : decode cX12_open 0 = .ok (.aload_n 0, 1) := by decide +kernel
theorem dX12_open_1 : decode cX12_open 1 = .ok (.dup, 1) := by decide +kernel
theorem dX12_open_2 : decode cX12_open 2 = .ok (.getfield 708, 3) := by decide +kernel
theorem dX12_open_5 : decode cX12_open 5 = .ok (.iconst 1, 1) := by decide +kernel
theorem dX12_open_6 : decode cX12_open 6 = .ok (.iadd, 1) := by decide +kernel
theorem dX12_open_7 : decode cX12_open 7 = .ok (.putfield 708, 3) := by decide +kernel
theorem dX12_open_10 : decode cX12_open 10 = .ok (.aload_n 0, 1) := by decide +kernel
theorem dX12_open_11 : decode cX12_open 11 = .ok (.getfield 552, 3) := by decide +kernel
theorem dX12_open_14 : decode cX12_open 14 = .ok (.aload_n 0, 1) := by decide +kernel
theorem dX12_open_15 : decode cX12_open 15 = .ok (.getfield 708, 3) := by decide +kernel
theorem dX12_open_18 : decode cX12_open 18 = .ok (.iload_n 1, 1) := by decide +kernel
theorem dX12_open_19 : decode cX12_open 19 = .ok (.iastore, 1) := by decide +kernel
theorem dX12_open_20 : decode cX12_open 20 = .ok (.aload_n 0, 1) := by decide +kernel
theorem dX12_open_21 : decode cX12_open 21 = .ok (.getfield 555, 3) := by decide +kernel
theorem dX12_open_24 : decode cX12_open 24 = .ok (.aload_n 0, 1) := by decide +kernel
theorem dX12_open_25 : decode cX12_open 25 = .ok (.getfield 708, 3) := by decide +kernel
theorem dX12_open_28 : decode cX12_open 28 = .ok (.iload_n 2, 1) := by decide +kernel
theorem dX12_open_29 : decode cX12_open 29 = .ok (.iastore, 1) := by decide +kernel
theorem dX12_open_30 : decode cX12_open 30 = .ok (.aload_n 0, 1) := by decide +kernel
theorem dX12_open_31 : decode cX12_open 31 = .ok (.getfield 558, 3) := by decide +kernel
theorem dX12_open_34 : decode cX12_open 34 = .ok (.aload_n 0, 1) := by decide +kernel
theorem dX12_open_35 : decode cX12_open 35 = .ok (.getfield 708, 3) := by decide +kernel
theorem dX12_open_38 : decode cX12_open 38 = .ok (.iconst 0, 1) := by decide +kernel
theorem dX12_open_39 : decode cX12_open 39 = .ok (.iastore, 1) := by decide +kernel
theorem dX12_open_40 : decode cX12_open 40 = .ok (.aload_n 0, 1) := by decide +kernel
theorem dX12_open_41 : decode cX12_open 41 = .ok (.getfield 565, 3) := by decide +kernel
theorem dX12_open_44 : decode cX12_open 44 = .ok (.aload_n 0, 1) := by decide +kernel
theorem dX12_open_45 : decode cX12_open 45 = .ok (.getfield 708, 3) := by decide +kernel
theorem dX12_open_48 : decode cX12_open 48 = .ok (.iconst 0, 1) := by decide +kernel
theorem dX12_open_49 : decode cX12_open 49 = .ok (.iastore, 1) := by decide +kernel
theorem dX12_open_50 : decode cX12_open 50 = .ok (.aload_n 0, 1) := by decide +kernel
theorem dX12_open_51 : decode cX12_open 51 = .ok (.getfield 561, 3) := by decide +kernel
theorem dX12_open_54 : decode cX12_open 54 = .ok (.aload_n 0, 1) := by decide +kernel
theorem dX12_open_55 : decode cX12_open 55 = .ok (.getfield 708, 3) := by decide +kernel
theorem dX12_open_58 : decode cX12_open 58 = .ok (.aload_n 0, 1) := by decide +kernel
theorem dX12_open_59 : decode cX12_open 59 = .ok (.getfield 693, 3) := by decide +kernel
theorem dX12_open_62 : decode cX12_open 62 = .ok (.bipush 45, 2) := by decide +kernel
theorem dX12_open_64 : decode cX12_open 64 = .ok (.if_icmp .ne 7, 3) := by decide +kernel
theorem dX12_open_67 : decode cX12_open 67 = .ok (.iconst 1, 1) := by decide +kernel
theorem dX12_open_68 : decode cX12_open 68 = .ok (.goto 4, 3) := by decide +kernel
theorem dX12_open_71 : decode cX12_open 71 = .ok (.iconst 0, 1) := by decide +kernel
theorem dX12_open_72 : decode cX12_open 72 = .ok (.bastore, 1) := by decide +kernel
theorem dX12_open_73 : decode cX12_open 73 = .ok (.aload_n 0, 1) := by decide +kernel
theorem dX12_open_74 : decode cX12_open 74 = .ok (.getfield 561, 3) := by decide +kernel
theorem dX12_open_77 : decode cX12_open 77 = .ok (.aload_n 0, 1) := by decide +kernel
theorem dX12_open_78 : decode cX12_open 78 = .ok (.getfield 708, 3) := by decide +kernel
theorem dX12_open_81 : decode cX12_open 81 = .ok (.baload, 1) := by decide +kernel
theorem dX12_open_82 : decode cX12_open 82 = .ok (.ifCond .eq 7, 3) := by decide +kernel
theorem dX12_open_85 : decode cX12_open 85 = .ok (.aload_n 0, 1) := by decide +kernel
theorem dX12_open_86 : decode cX12_open 86 = .ok (.invokevirtual 705, 3) := by decide +kernel
theorem dX12_open_89 : decode cX12_open 89 = .ok (.return_, 1) := by decide +kernel
theorem dX12_readAtom_0 : decode cX12_readAtom 0 = .ok (.aload_n 0, 1) := by decide +kernel
theorem dX12_readAtom_1 : decode cX12_readAtom 1 = .ok (.getfield 693, 3) := by decide +kernel
theorem dX12_readAtom_4 : decode cX12_readAtom 4 = .ok (.iconst 1, 1) := by decide +kernel
theorem dX12_readAtom_5 : decode cX12_readAtom 5 = .ok (.if_icmp .ne 19, 3) := by decide +kernel
theorem dX12_readAtom_8 : decode cX12_readAtom 8 = .ok (.aload_n 0, 1) := by decide +kernel
theorem dX12_readAtom_9 : decode cX12_readAtom 9 = .ok (.iconst 1, 1) := by decide +kernel
theorem dX12_readAtom_10 : decode cX12_readAtom 10 = .ok (.aload_n 0, 1) := by decide +kernel
theorem dX12_readAtom_11 : decode cX12_readAtom 11 = .ok (.getfield 690, 3) := by decide +kernel
theorem dX12_readAtom_14 : decode cX12_readAtom 14 = .ok (.iconst 0, 1) := by decide +kernel
theorem dX12_readAtom_15 : decode cX12_readAtom 15 = .ok (.invokevirtual 711, 3) := by decide +kernel
theorem dX12_readAtom_18 : decode cX12_readAtom 18 = .ok (.aload_n 0, 1) := by decide +kernel
theorem dX12_readAtom_19 : decode cX12_readAtom 19 = .ok (.invokevirtual 705, 3) := by decide +kernel
theorem dX12_readAtom_22 : decode cX12_readAtom 22 = .ok (.iconst 1, 1) := by decide +kernel
theorem dX12_readAtom_23 : decode cX12_readAtom 23 = .ok (.ireturn, 1) := by decide +kernel
theorem dX12_readAtom_24 : decode cX12_readAtom 24 = .ok (.aload_n 0, 1) := by decide +kernel
theorem dX12_readAtom_25 : decode cX12_readAtom 25 = .ok (.getfield 693, 3) := by decide +kernel
theorem dX12_readAtom_28 : decode cX12_readAtom 28 = .ok (.bipush 64, 2) := by decide +kernel
theorem dX12_readAtom_30 : decode cX12_readAtom 30 = .ok (.if_icmp .ne 26, 3) := by decide +kernel
theorem dX12_readAtom_33 : decode cX12_readAtom 33 = .ok (.aload_n 0, 1) := by decide +kernel
theorem dX12_readAtom_34 : decode cX12_readAtom 34 = .ok (.invokevirtual 705, 3) := by decide +kernel
theorem dX12_readAtom_37 : decode cX12_readAtom 37 = .ok (.aload_n 0, 1) := by decide +kernel
theorem dX12_readAtom_38 : decode cX12_readAtom 38 = .ok (.iconst 2, 1) := by decide +kernel
theorem dX12_readAtom_39 : decode cX12_readAtom 39 = .ok (.aload_n 0, 1) := by decide +kernel
theorem dX12_readAtom_40 : decode cX12_readAtom 40 = .ok (.iconst 0, 1) := by decide +kernel
theorem dX12_readAtom_41 : decode cX12_readAtom 41 = .ok (.aload_n 0, 1) := by decide +kernel
theorem dX12_readAtom_42 : decode cX12_readAtom 42 = .ok (.getfield 568, 3) := by decide +kernel
theorem dX12_readAtom_45 : decode cX12_readAtom 45 = .ok (.iconst 1, 1) := by decide +kernel
theorem dX12_readAtom_46 : decode cX12_readAtom 46 = .ok (.isub, 1) := by decide +kernel
theorem dX12_readAtom_47 : decode cX12_readAtom 47 = .ok (.invokevirtual 715, 3) := by decide +kernel
theorem dX12_readAtom_50 : decode cX12_readAtom 50 = .ok (.iconst 0, 1) := by decide +kernel
theorem dX12_readAtom_51 : decode cX12_readAtom 51 = .ok (.invokevirtual 711, 3) := by decide +kernel
theorem dX12_readAtom_54 : decode cX12_readAtom 54 = .ok (.iconst 1, 1) := by decide +kernel
theorem dX12_readAtom_55 : decode cX12_readAtom 55 = .ok (.ireturn, 1) := by decide +kernel
theorem dX12_readAtom_56 : decode cX12_readAtom 56 = .ok (.aload_n 0, 1) := by decide +kernel
theorem dX12_readAtom_57 : decode cX12_readAtom 57 = .ok (.getfield 693, 3) := by decide +kernel
theorem dX12_readAtom_60 : decode cX12_readAtom 60 = .ok (.bipush 115, 2) := by decide +kernel
theorem dX12_readAtom_62 : decode cX12_readAtom 62 = .ok (.if_icmp .eq 12, 3) := by decide +kernel
theorem dX12_readAtom_65 : decode cX12_readAtom 65 = .ok (.aload_n 0, 1) := by decide +kernel
theorem dX12_readAtom_66 : decode cX12_readAtom 66 = .ok (.getfield 693, 3) := by decide +kernel
theorem dX12_readAtom_69 : decode cX12_readAtom 69 = .ok (.bipush 99, 2) := by decide +kernel
theorem dX12_readAtom_71 : decode cX12_readAtom 71 = .ok (.if_icmp .ne 112, 3) := by decide +kernel
theorem dX12_readAtom_74 : decode cX12_readAtom 74 = .ok (.aload_n 0, 1) := by decide +kernel
theorem dX12_readAtom_75 : decode cX12_readAtom 75 = .ok (.getfield 693, 3) := by decide +kernel
theorem dX12_readAtom_78 : decode cX12_readAtom 78 = .ok (.bipush 115, 2) := by decide +kernel
theorem dX12_readAtom_80 : decode cX12_readAtom 80 = .ok (.if_icmp .ne 7, 3) := by decide +kernel
theorem dX12_readAtom_83 : decode cX12_readAtom 83 = .ok (.iconst 1, 1) := by decide +kernel
theorem dX12_readAtom_84 : decode cX12_readAtom 84 = .ok (.goto 4, 3) := by decide +kernel
theorem dX12_readAtom_87 : decode cX12_readAtom 87 = .ok (.iconst 0, 1) := by decide +kernel
theorem dX12_readAtom_88 : decode cX12_readAtom 88 = .ok (.istore_n 1, 1) := by decide +kernel
theorem dX12_readAtom_89 : decode cX12_readAtom 89 = .ok (.aload_n 0, 1) := by decide +kernel
theorem dX12_readAtom_90 : decode cX12_readAtom 90 = .ok (.invokevirtual 705, 3) := by decide +kernel
theorem dX12_readAtom_93 : decode cX12_readAtom 93 = .ok (.aload_n 0, 1) := by decide +kernel
theorem dX12_readAtom_94 : decode cX12_readAtom 94 = .ok (.bipush 40, 2) := by decide +kernel
theorem dX12_readAtom_96 : decode cX12_readAtom 96 = .ok (.invokevirtual 718, 3) := by decide +kernel
theorem dX12_readAtom_99 : decode cX12_readAtom 99 = .ok (.aload_n 0, 1) := by decide +kernel
theorem dX12_readAtom_100 : decode cX12_readAtom 100 = .ok (.getfield 702, 3) := by decide +kernel
theorem dX12_readAtom_103 : decode cX12_readAtom 103 = .ok (.ifCond .ne 16, 3) := by decide +kernel
theorem dX12_readAtom_106 : decode cX12_readAtom 106 = .ok (.aload_n 0, 1) := by decide +kernel
theorem dX12_readAtom_107 : decode cX12_readAtom 107 = .ok (.getfield 693, 3) := by decide +kernel
theorem dX12_readAtom_110 : decode cX12_readAtom 110 = .ok (.bipush 45, 2) := by decide +kernel
theorem dX12_readAtom_112 : decode cX12_readAtom 112 = .ok (.if_icmp .ne 7, 3) := by decide +kernel
theorem dX12_readAtom_115 : decode cX12_readAtom 115 = .ok (.iconst 1, 1) := by decide +kernel
theorem dX12_readAtom_116 : decode cX12_readAtom 116 = .ok (.goto 4, 3) := by decide +kernel
theorem dX12_readAtom_119 : decode cX12_readAtom 119 = .ok (.iconst 0, 1) := by decide +kernel
theorem dX12_readAtom_120 : decode cX12_readAtom 120 = .ok (.istore_n 2, 1) := by decide +kernel
theorem dX12_readAtom_121 : decode cX12_readAtom 121 = .ok (.iload_n 2, 1) := by decide +kernel
theorem dX12_readAtom_122 : decode cX12_readAtom 122 = .ok (.ifCond .eq 7, 3) := by decide +kernel
theorem dX12_readAtom_125 : decode cX12_readAtom 125 = .ok (.aload_n 0, 1) := by decide +kernel
theorem dX12_readAtom_126 : decode cX12_readAtom 126 = .ok (.invokevirtual 705, 3) := by decide +kernel
theorem dX12_readAtom_129 : decode cX12_readAtom 129 = .ok (.aload_n 0, 1) := by decide +kernel
theorem dX12_readAtom_130 : decode cX12_readAtom 130 = .ok (.iconst 0, 1) := by decide +kernel
theorem dX12_readAtom_131 : decode cX12_readAtom 131 = .ok (.ldc_w 721, 3) := by decide +kernel
theorem dX12_readAtom_134 : decode cX12_readAtom 134 = .ok (.invokevirtual 715, 3) := by decide +kernel
theorem dX12_readAtom_137 : decode cX12_readAtom 137 = .ok (.istore_n 3, 1) := by decide +kernel
theorem dX12_readAtom_138 : decode cX12_readAtom 138 = .ok (.aload_n 0, 1) := by decide +kernel
theorem dX12_readAtom_139 : decode cX12_readAtom 139 = .ok (.bipush 47, 2) := by decide +kernel
theorem dX12_readAtom_141 : decode cX12_readAtom 141 = .ok (.invokevirtual 718, 3) := by decide +kernel
theorem dX12_readAtom_144 : decode cX12_readAtom 144 = .ok (.aload_n 0, 1) := by decide +kernel
theorem dX12_readAtom_145 : decode cX12_readAtom 145 = .ok (.iconst 1, 1) := by decide +kernel
theorem dX12_readAtom_146 : decode cX12_readAtom 146 = .ok (.bipush 120, 2) := by decide +kernel
theorem dX12_readAtom_148 : decode cX12_readAtom 148 = .ok (.invokevirtual 715, 3) := by decide +kernel
theorem dX12_readAtom_151 : decode cX12_readAtom 151 = .ok (.istore 4, 2) := by decide +kernel
theorem dX12_readAtom_153 : decode cX12_readAtom 153 = .ok (.aload_n 0, 1) := by decide +kernel
theorem dX12_readAtom_154 : decode cX12_readAtom 154 = .ok (.bipush 41, 2) := by decide +kernel
theorem dX12_readAtom_156 : decode cX12_readAtom 156 = .ok (.invokevirtual 718, 3) := by decide +kernel
theorem dX12_readAtom_159 : decode cX12_readAtom 159 = .ok (.aload_n 0, 1) := by decide +kernel
theorem dX12_readAtom_160 : decode cX12_readAtom 160 = .ok (.iconst 4, 1) := by decide +kernel
theorem dX12_readAtom_161 : decode cX12_readAtom 161 = .ok (.iload_n 2, 1) := by decide +kernel
theorem dX12_readAtom_162 : decode cX12_readAtom 162 = .ok (.ifCond .eq 9, 3) := by decide +kernel
theorem dX12_readAtom_165 : decode cX12_readAtom 165 = .ok (.iconst 0, 1) := by decide +kernel
theorem dX12_readAtom_166 : decode cX12_readAtom 166 = .ok (.iload_n 3, 1) := by decide +kernel
theorem dX12_readAtom_167 : decode cX12_readAtom 167 = .ok (.isub, 1) := by decide +kernel
theorem dX12_readAtom_168 : decode cX12_readAtom 168 = .ok (.goto 4, 3) := by decide +kernel
theorem dX12_readAtom_171 : decode cX12_readAtom 171 = .ok (.iload_n 3, 1) := by decide +kernel
theorem dX12_readAtom_172 : decode cX12_readAtom 172 = .ok (.iconst 2, 1) := by decide +kernel
theorem dX12_readAtom_173 : decode cX12_readAtom 173 = .ok (.iload 4, 2) := by decide +kernel
theorem dX12_readAtom_175 : decode cX12_readAtom 175 = .ok (.imul, 1) := by decide +kernel
theorem dX12_readAtom_176 : decode cX12_readAtom 176 = .ok (.iload_n 1, 1) := by decide +kernel
theorem dX12_readAtom_177 : decode cX12_readAtom 177 = .ok (.iadd, 1) := by decide +kernel
theorem dX12_readAtom_178 : decode cX12_readAtom 178 = .ok (.invokevirtual 711, 3) := by decide +kernel
theorem dX12_readAtom_181 : decode cX12_readAtom 181 = .ok (.iconst 1, 1) := by decide +kernel
theorem dX12_readAtom_182 : decode cX12_readAtom 182 = .ok (.ireturn, 1) := by decide +kernel
theorem dX12_readAtom_183 : decode cX12_readAtom 183 = .ok (.aload_n 0, 1) := by decide +kernel
theorem dX12_readAtom_184 : decode cX12_readAtom 184 = .ok (.getfield 693, 3) := by decide +kernel
theorem dX12_readAtom_187 : decode cX12_readAtom 187 = .ok (.bipush 40, 2) := by decide +kernel
theorem dX12_readAtom_189 : decode cX12_readAtom 189 = .ok (.if_icmp .eq 12, 3) := by decide +kernel
theorem dX12_readAtom_192 : decode cX12_readAtom 192 = .ok (.aload_n 0, 1) := by decide +kernel
theorem dX12_readAtom_193 : decode cX12_readAtom 193 = .ok (.getfield 693, 3) := by decide +kernel
theorem dX12_readAtom_196 : decode cX12_readAtom 196 = .ok (.bipush 91, 2) := by decide +kernel
theorem dX12_readAtom_198 : decode cX12_readAtom 198 = .ok (.if_icmp .ne 58, 3) := by decide +kernel
theorem dX12_readAtom_201 : decode cX12_readAtom 201 = .ok (.aload_n 0, 1) := by decide +kernel
theorem dX12_readAtom_202 : decode cX12_readAtom 202 = .ok (.getfield 708, 3) := by decide +kernel
theorem dX12_readAtom_205 : decode cX12_readAtom 205 = .ok (.bipush 10, 2) := by decide +kernel
theorem dX12_readAtom_207 : decode cX12_readAtom 207 = .ok (.if_icmp .ge 49, 3) := by decide +kernel
theorem dX12_readAtom_210 : decode cX12_readAtom 210 = .ok (.aload_n 0, 1) := by decide +kernel
theorem dX12_readAtom_211 : decode cX12_readAtom 211 = .ok (.getfield 693, 3) := by decide +kernel
theorem dX12_readAtom_214 : decode cX12_readAtom 214 = .ok (.istore_n 1, 1) := by decide +kernel
theorem dX12_readAtom_215 : decode cX12_readAtom 215 = .ok (.aload_n 0, 1) := by decide +kernel
theorem dX12_readAtom_216 : decode cX12_readAtom 216 = .ok (.invokevirtual 705, 3) := by decide +kernel
theorem dX12_readAtom_219 : decode cX12_readAtom 219 = .ok (.iconst 0, 1) := by decide +kernel
theorem dX12_readAtom_220 : decode cX12_readAtom 220 = .ok (.istore_n 2, 1) := by decide +kernel
theorem dX12_readAtom_221 : decode cX12_readAtom 221 = .ok (.iload_n 1, 1) := by decide +kernel
theorem dX12_readAtom_222 : decode cX12_readAtom 222 = .ok (.bipush 91, 2) := by decide +kernel
theorem dX12_readAtom_224 : decode cX12_readAtom 224 = .ok (.if_icmp .ne 17, 3) := by decide +kernel
theorem dX12_readAtom_227 : decode cX12_readAtom 227 = .ok (.aload_n 0, 1) := by decide +kernel
theorem dX12_readAtom_228 : decode cX12_readAtom 228 = .ok (.iconst 2, 1) := by decide +kernel
theorem dX12_readAtom_229 : decode cX12_readAtom 229 = .ok (.bipush 12, 2) := by decide +kernel
theorem dX12_readAtom_231 : decode cX12_readAtom 231 = .ok (.invokevirtual 715, 3) := by decide +kernel
theorem dX12_readAtom_234 : decode cX12_readAtom 234 = .ok (.istore_n 2, 1) := by decide +kernel
theorem dX12_readAtom_235 : decode cX12_readAtom 235 = .ok (.aload_n 0, 1) := by decide +kernel
theorem dX12_readAtom_236 : decode cX12_readAtom 236 = .ok (.bipush 44, 2) := by decide +kernel
theorem dX12_readAtom_238 : decode cX12_readAtom 238 = .ok (.invokevirtual 718, 3) := by decide +kernel
theorem dX12_readAtom_241 : decode cX12_readAtom 241 = .ok (.aload_n 0, 1) := by decide +kernel
theorem dX12_readAtom_242 : decode cX12_readAtom 242 = .ok (.getfield 702, 3) := by decide +kernel
theorem dX12_readAtom_245 : decode cX12_readAtom 245 = .ok (.ifCond .ne 9, 3) := by decide +kernel
theorem dX12_readAtom_248 : decode cX12_readAtom 248 = .ok (.aload_n 0, 1) := by decide +kernel
theorem dX12_readAtom_249 : decode cX12_readAtom 249 = .ok (.iload_n 1, 1) := by decide +kernel
theorem dX12_readAtom_250 : decode cX12_readAtom 250 = .ok (.iload_n 2, 1) := by decide +kernel
theorem dX12_readAtom_251 : decode cX12_readAtom 251 = .ok (.invokevirtual 722, 3) := by decide +kernel
theorem dX12_readAtom_254 : decode cX12_readAtom 254 = .ok (.iconst 0, 1) := by decide +kernel
theorem dX12_readAtom_255 : decode cX12_readAtom 255 = .ok (.ireturn, 1) := by decide +kernel
theorem dX12_readAtom_256 : decode cX12_readAtom 256 = .ok (.aload_n 0, 1) := by decide +kernel
theorem dX12_readAtom_257 : decode cX12_readAtom 257 = .ok (.iconst 1, 1) := by decide +kernel
theorem dX12_readAtom_258 : decode cX12_readAtom 258 = .ok (.putfield 702, 3) := by decide +kernel
theorem dX12_readAtom_261 : decode cX12_readAtom 261 = .ok (.iconst 0, 1) := by decide +kernel
theorem dX12_readAtom_262 : decode cX12_readAtom 262 = .ok (.ireturn, 1) := by decide +kernel
theorem dX12_readText_0 : decode cX12_readText 0 = .ok (.aload_n 0, 1) := by decide +kernel
theorem dX12_readText_1 : decode cX12_readText 1 = .ok (.iconst 0, 1) := by decide +kernel
theorem dX12_readText_2 : decode cX12_readText 2 = .ok (.putfield 684, 3) := by decide +kernel
theorem dX12_readText_5 : decode cX12_readText 5 = .ok (.aload_n 0, 1) := by decide +kernel
theorem dX12_readText_6 : decode cX12_readText 6 = .ok (.iconst 0, 1) := by decide +kernel
theorem dX12_readText_7 : decode cX12_readText 7 = .ok (.putfield 687, 3) := by decide +kernel
theorem dX12_readText_10 : decode cX12_readText 10 = .ok (.aload_n 0, 1) := by decide +kernel
theorem dX12_readText_11 : decode cX12_readText 11 = .ok (.iconst 0, 1) := by decide +kernel
theorem dX12_readText_12 : decode cX12_readText 12 = .ok (.putfield 702, 3) := by decide +kernel
theorem dX12_readText_15 : decode cX12_readText 15 = .ok (.aload_n 0, 1) := by decide +kernel
theorem dX12_readText_16 : decode cX12_readText 16 = .ok (.iconst 0, 1) := by decide +kernel
theorem dX12_readText_17 : decode cX12_readText 17 = .ok (.putfield 699, 3) := by decide +kernel
theorem dX12_readText_20 : decode cX12_readText 20 = .ok (.aload_n 0, 1) := by decide +kernel
theorem dX12_readText_21 : decode cX12_readText 21 = .ok (.iconst (-1), 1) := by decide +kernel
theorem dX12_readText_22 : decode cX12_readText 22 = .ok (.putfield 708, 3) := by decide +kernel
theorem dX12_readText_25 : decode cX12_readText 25 = .ok (.aload_n 0, 1) := by decide +kernel
theorem dX12_readText_26 : decode cX12_readText 26 = .ok (.invokevirtual 705, 3) := by decide +kernel
theorem dX12_readText_29 : decode cX12_readText 29 = .ok (.aload_n 0, 1) := by decide +kernel
theorem dX12_readText_30 : decode cX12_readText 30 = .ok (.iconst 0, 1) := by decide +kernel
theorem dX12_readText_31 : decode cX12_readText 31 = .ok (.iconst 0, 1) := by decide +kernel
theorem dX12_readText_32 : decode cX12_readText 32 = .ok (.invokevirtual 722, 3) := by decide +kernel
theorem dX12_readText_35 : decode cX12_readText 35 = .ok (.iconst 1, 1) := by decide +kernel
theorem dX12_readText_36 : decode cX12_readText 36 = .ok (.istore_n 1, 1) := by decide +kernel
theorem dX12_readText_37 : decode cX12_readText 37 = .ok (.iload_n 1, 1) := by decide +kernel
theorem dX12_readText_38 : decode cX12_readText 38 = .ok (.ifCond .eq 139, 3) := by decide +kernel
theorem dX12_readText_41 : decode cX12_readText 41 = .ok (.aload_n 0, 1) := by decide +kernel
theorem dX12_readText_42 : decode cX12_readText 42 = .ok (.getfield 702, 3) := by decide +kernel
theorem dX12_readText_45 : decode cX12_readText 45 = .ok (.ifCond .ne 132, 3) := by decide +kernel
theorem dX12_readText_48 : decode cX12_readText 48 = .ok (.aload_n 0, 1) := by decide +kernel
theorem dX12_readText_49 : decode cX12_readText 49 = .ok (.invokevirtual 725, 3) := by decide +kernel
theorem dX12_readText_52 : decode cX12_readText 52 = .ok (.istore_n 2, 1) := by decide +kernel
theorem dX12_readText_53 : decode cX12_readText 53 = .ok (.iload_n 2, 1) := by decide +kernel
theorem dX12_readText_54 : decode cX12_readText 54 = .ok (.ifCond .eq 120, 3) := by decide +kernel
theorem dX12_readText_57 : decode cX12_readText 57 = .ok (.aload_n 0, 1) := by decide +kernel
theorem dX12_readText_58 : decode cX12_readText 58 = .ok (.getfield 702, 3) := by decide +kernel
theorem dX12_readText_61 : decode cX12_readText 61 = .ok (.ifCond .ne 113, 3) := by decide +kernel
theorem dX12_readText_64 : decode cX12_readText 64 = .ok (.aload_n 0, 1) := by decide +kernel
theorem dX12_readText_65 : decode cX12_readText 65 = .ok (.invokevirtual 729, 3) := by decide +kernel
theorem dX12_readText_68 : decode cX12_readText 68 = .ok (.ifCond .ne 106, 3) := by decide +kernel
theorem dX12_readText_71 : decode cX12_readText 71 = .ok (.aload_n 0, 1) := by decide +kernel
theorem dX12_readText_72 : decode cX12_readText 72 = .ok (.getfield 552, 3) := by decide +kernel
theorem dX12_readText_75 : decode cX12_readText 75 = .ok (.aload_n 0, 1) := by decide +kernel
theorem dX12_readText_76 : decode cX12_readText 76 = .ok (.getfield 708, 3) := by decide +kernel
theorem dX12_readText_79 : decode cX12_readText 79 = .ok (.iaload, 1) := by decide +kernel
theorem dX12_readText_80 : decode cX12_readText 80 = .ok (.istore_n 3, 1) := by decide +kernel
theorem dX12_readText_81 : decode cX12_readText 81 = .ok (.iload_n 3, 1) := by decide +kernel
theorem dX12_readText_82 : decode cX12_readText 82 = .ok (.ifCond .eq 7, 3) := by decide +kernel
theorem dX12_readText_85 : decode cX12_readText 85 = .ok (.iconst 1, 1) := by decide +kernel
theorem dX12_readText_86 : decode cX12_readText 86 = .ok (.goto 4, 3) := by decide +kernel
theorem dX12_readText_89 : decode cX12_readText 89 = .ok (.iconst 0, 1) := by decide +kernel
theorem dX12_readText_90 : decode cX12_readText 90 = .ok (.istore_n 2, 1) := by decide +kernel
theorem dX12_readText_91 : decode cX12_readText 91 = .ok (.iload_n 3, 1) := by decide +kernel
theorem dX12_readText_92 : decode cX12_readText 92 = .ok (.ifCond .ne 31, 3) := by decide +kernel
theorem dX12_readText_95 : decode cX12_readText 95 = .ok (.aload_n 0, 1) := by decide +kernel
theorem dX12_readText_96 : decode cX12_readText 96 = .ok (.aload_n 0, 1) := by decide +kernel
theorem dX12_readText_97 : decode cX12_readText 97 = .ok (.getfield 702, 3) := by decide +kernel
theorem dX12_readText_100 : decode cX12_readText 100 = .ok (.ifCond .ne 10, 3) := by decide +kernel
theorem dX12_readText_103 : decode cX12_readText 103 = .ok (.aload_n 0, 1) := by decide +kernel
theorem dX12_readText_104 : decode cX12_readText 104 = .ok (.getfield 693, 3) := by decide +kernel
theorem dX12_readText_107 : decode cX12_readText 107 = .ok (.ifCond .eq 7, 3) := by decide +kernel
theorem dX12_readText_110 : decode cX12_readText 110 = .ok (.iconst 1, 1) := by decide +kernel
theorem dX12_readText_111 : decode cX12_readText 111 = .ok (.goto 4, 3) := by decide +kernel
theorem dX12_readText_114 : decode cX12_readText 114 = .ok (.iconst 0, 1) := by decide +kernel
theorem dX12_readText_115 : decode cX12_readText 115 = .ok (.putfield 702, 3) := by decide +kernel
theorem dX12_readText_118 : decode cX12_readText 118 = .ok (.iconst 0, 1) := by decide +kernel
theorem dX12_readText_119 : decode cX12_readText 119 = .ok (.istore_n 1, 1) := by decide +kernel
theorem dX12_readText_120 : decode cX12_readText 120 = .ok (.goto 51, 3) := by decide +kernel
theorem dX12_readText_123 : decode cX12_readText 123 = .ok (.aload_n 0, 1) := by decide +kernel
theorem dX12_readText_124 : decode cX12_readText 124 = .ok (.iload_n 3, 1) := by decide +kernel
theorem dX12_readText_125 : decode cX12_readText 125 = .ok (.bipush 40, 2) := by decide +kernel
theorem dX12_readText_127 : decode cX12_readText 127 = .ok (.if_icmp .ne 8, 3) := by decide +kernel
theorem dX12_readText_130 : decode cX12_readText 130 = .ok (.bipush 41, 2) := by decide +kernel
theorem dX12_readText_132 : decode cX12_readText 132 = .ok (.goto 5, 3) := by decide +kernel
theorem dX12_readText_135 : decode cX12_readText 135 = .ok (.bipush 93, 2) := by decide +kernel
theorem dX12_readText_137 : decode cX12_readText 137 = .ok (.invokevirtual 718, 3) := by decide +kernel
theorem dX12_readText_140 : decode cX12_readText 140 = .ok (.iload_n 3, 1) := by decide +kernel
theorem dX12_readText_141 : decode cX12_readText 141 = .ok (.bipush 91, 2) := by decide +kernel
theorem dX12_readText_143 : decode cX12_readText 143 = .ok (.if_icmp .ne 18, 3) := by decide +kernel
theorem dX12_readText_146 : decode cX12_readText 146 = .ok (.aload_n 0, 1) := by decide +kernel
theorem dX12_readText_147 : decode cX12_readText 147 = .ok (.iconst 3, 1) := by decide +kernel
theorem dX12_readText_148 : decode cX12_readText 148 = .ok (.aload_n 0, 1) := by decide +kernel
theorem dX12_readText_149 : decode cX12_readText 149 = .ok (.getfield 555, 3) := by decide +kernel
theorem dX12_readText_152 : decode cX12_readText 152 = .ok (.aload_n 0, 1) := by decide +kernel
theorem dX12_readText_153 : decode cX12_readText 153 = .ok (.getfield 708, 3) := by decide +kernel
theorem dX12_readText_156 : decode cX12_readText 156 = .ok (.iaload, 1) := by decide +kernel
theorem dX12_readText_157 : decode cX12_readText 157 = .ok (.iconst 0, 1) := by decide +kernel
theorem dX12_readText_158 : decode cX12_readText 158 = .ok (.invokevirtual 711, 3) := by decide +kernel
theorem dX12_readText_161 : decode cX12_readText 161 = .ok (.aload_n 0, 1) := by decide +kernel
theorem dX12_readText_162 : decode cX12_readText 162 = .ok (.dup, 1) := by decide +kernel
theorem dX12_readText_163 : decode cX12_readText 163 = .ok (.getfield 708, 3) := by decide +kernel
theorem dX12_readText_166 : decode cX12_readText 166 = .ok (.iconst 1, 1) := by decide +kernel
theorem dX12_readText_167 : decode cX12_readText 167 = .ok (.isub, 1) := by decide +kernel
theorem dX12_readText_168 : decode cX12_readText 168 = .ok (.putfield 708, 3) := by decide +kernel
theorem dX12_readText_171 : decode cX12_readText 171 = .ok (.goto (-118), 3) := by decide +kernel
theorem dX12_readText_174 : decode cX12_readText 174 = .ok (.goto (-137), 3) := by decide +kernel
theorem dX12_readText_177 : decode cX12_readText 177 = .ok (.return_, 1) := by decide +kernel
theorem dX12_read_0 : decode cX12_read 0 = .ok (.aload_n 0, 1) := by decide +kernel
theorem dX12_read_1 : decode cX12_read 1 = .ok (.iconst 0, 1) := by decide +kernel
theorem dX12_read_2 : decode cX12_read 2 = .ok (.putfield 1, 3) := by decide +kernel
theorem dX12_read_5 : decode cX12_read 5 = .ok (.aload_n 0, 1) := by decide +kernel
theorem dX12_read_6 : decode cX12_read 6 = .ok (.aload_n 0, 1) := by decide +kernel
theorem dX12_read_7 : decode cX12_read 7 = .ok (.getfield 671, 3) := by decide +kernel
theorem dX12_read_10 : decode cX12_read 10 = .ok (.putfield 674, 3) := by decide +kernel
theorem dX12_read_13 : decode cX12_read 13 = .ok (.aload_n 0, 1) := by decide +kernel
theorem dX12_read_14 : decode cX12_read 14 = .ok (.iconst 0, 1) := by decide +kernel
theorem dX12_read_15 : decode cX12_read 15 = .ok (.putfield 671, 3) := by decide +kernel
theorem dX12_read_18 : decode cX12_read 18 = .ok (.iconst 0, 1) := by decide +kernel
theorem dX12_read_19 : decode cX12_read 19 = .ok (.istore_n 1, 1) := by decide +kernel
theorem dX12_read_20 : decode cX12_read 20 = .ok (.iload_n 1, 1) := by decide +kernel
theorem dX12_read_21 : decode cX12_read 21 = .ok (.aload_n 0, 1) := by decide +kernel
theorem dX12_read_22 : decode cX12_read 22 = .ok (.getfield 674, 3) := by decide +kernel
theorem dX12_read_25 : decode cX12_read 25 = .ok (.if_icmp .ge 21, 3) := by decide +kernel
theorem dX12_read_28 : decode cX12_read 28 = .ok (.aload_n 0, 1) := by decide +kernel
theorem dX12_read_29 : decode cX12_read 29 = .ok (.getfield 528, 3) := by decide +kernel
theorem dX12_read_32 : decode cX12_read 32 = .ok (.iload_n 1, 1) := by decide +kernel
theorem dX12_read_33 : decode cX12_read 33 = .ok (.aload_n 0, 1) := by decide +kernel
theorem dX12_read_34 : decode cX12_read 34 = .ok (.getfield 524, 3) := by decide +kernel
theorem dX12_read_37 : decode cX12_read 37 = .ok (.iload_n 1, 1) := by decide +kernel
theorem dX12_read_38 : decode cX12_read 38 = .ok (.baload, 1) := by decide +kernel
theorem dX12_read_39 : decode cX12_read 39 = .ok (.bastore, 1) := by decide +kernel
theorem dX12_read_40 : decode cX12_read 40 = .ok (.iinc 1 1, 3) := by decide +kernel
theorem dX12_read_43 : decode cX12_read 43 = .ok (.goto (-23), 3) := by decide +kernel
theorem dX12_read_46 : decode cX12_read 46 = .ok (.aload_n 0, 1) := by decide +kernel
theorem dX12_read_47 : decode cX12_read 47 = .ok (.invokevirtual 735, 3) := by decide +kernel
theorem dX12_read_50 : decode cX12_read 50 = .ok (.aload_n 0, 1) := by decide +kernel
theorem dX12_read_51 : decode cX12_read 51 = .ok (.getfield 702, 3) := by decide +kernel
theorem dX12_read_54 : decode cX12_read 54 = .ok (.ifCond .eq 12, 3) := by decide +kernel
theorem dX12_read_57 : decode cX12_read 57 = .ok (.sipush (-1000), 3) := by decide +kernel
theorem dX12_read_60 : decode cX12_read 60 = .ok (.aload_n 0, 1) := by decide +kernel
theorem dX12_read_61 : decode cX12_read 61 = .ok (.getfield 684, 3) := by decide +kernel
theorem dX12_read_64 : decode cX12_read 64 = .ok (.isub, 1) := by decide +kernel
theorem dX12_read_65 : decode cX12_read 65 = .ok (.ireturn, 1) := by decide +kernel
theorem dX12_read_66 : decode cX12_read 66 = .ok (.aload_n 0, 1) := by decide +kernel
theorem dX12_read_67 : decode cX12_read 67 = .ok (.invokevirtual 738, 3) := by decide +kernel
theorem dX12_read_70 : decode cX12_read 70 = .ok (.istore_n 1, 1) := by decide +kernel
theorem dX12_read_71 : decode cX12_read 71 = .ok (.iload_n 1, 1) := by decide +kernel
theorem dX12_read_72 : decode cX12_read 72 = .ok (.ifCond .ge 5, 3) := by decide +kernel
theorem dX12_read_75 : decode cX12_read 75 = .ok (.iload_n 1, 1) := by decide +kernel
theorem dX12_read_76 : decode cX12_read 76 = .ok (.ireturn, 1) := by decide +kernel
theorem dX12_read_77 : decode cX12_read 77 = .ok (.aload_n 0, 1) := by decide +kernel
theorem dX12_read_78 : decode cX12_read 78 = .ok (.getfield 568, 3) := by decide +kernel
theorem dX12_read_81 : decode cX12_read 81 = .ok (.bipush 100, 2) := by decide +kernel
theorem dX12_read_83 : decode cX12_read 83 = .ok (.if_icmp .ne 6, 3) := by decide +kernel
theorem dX12_read_86 : decode cX12_read 86 = .ok (.bipush (-106), 2) := by decide +kernel
theorem dX12_read_88 : decode cX12_read 88 = .ok (.ireturn, 1) := by decide +kernel
theorem dX12_read_89 : decode cX12_read 89 = .ok (.aload_n 0, 1) := by decide +kernel
theorem dX12_read_90 : decode cX12_read 90 = .ok (.aload_n 0, 1) := by decide +kernel
theorem dX12_read_91 : decode cX12_read 91 = .ok (.getfield 568, 3) := by decide +kernel
theorem dX12_read_94 : decode cX12_read 94 = .ok (.bipush 120, 2) := by decide +kernel
theorem dX12_read_96 : decode cX12_read 96 = .ok (.invokevirtual 611, 3) := by decide +kernel
theorem dX12_read_99 : decode cX12_read 99 = .ok (.aload_n 0, 1) := by decide +kernel
theorem dX12_read_100 : decode cX12_read 100 = .ok (.iconst 0, 1) := by decide +kernel
theorem dX12_read_101 : decode cX12_read 101 = .ok (.invokevirtual 578, 3) := by decide +kernel
theorem dX12_read_104 : decode cX12_read 104 = .ok (.ireturn, 1) := by decide +kernel
def w0r : List Cond := [Cond.code yX12_in cX12_in 6 (some .boolean), Cond.fieldLink RX12 7 "AlgebraicRealsModel" "heap" "[I", Cond.code yX12_size cX12_size 2 (some .int), Cond.code yX12_signOf cX12_signOf 2 (some .int), Cond.fieldLink RX12 11 "AlgebraicRealsModel" "top" "I", Cond.code yX12_shut cX12_shut 5 (some .int), Cond.constantLong RX12 14 (2147483647), Cond.methodLink RX12 16 yX12_shut, Cond.instanceMethod yX12_shut, Cond.selects RX12 yX12_shut yX12_shut, Cond.initialized RX12, Cond.code yX12_whole cX12_whole 6 (some .int), Cond.methodLink RX12 20 yX12_size, Cond.instanceMethod yX12_size, Cond.selects RX12 yX12_size yX12_size, Cond.code yX12_copy cX12_copy 5 (some .int), Cond.methodLink RX12 24 yX12_copy, Cond.instanceMethod yX12_copy, Cond.selects RX12 yX12_copy yX12_copy, Cond.code yX12_negated cX12_negated 3 (some .int), Cond.code yX12_sizeCompare cX12_sizeCompare 5 (some .int), Cond.code yX12_raised cX12_raised 10 (some .int), Cond.code yX12_lowered cX12_lowered 12 (some .int), Cond.fieldLink RX12 45 "AlgebraicRealsModel" "quotient" "I", Cond.fieldLink RX12 48 "AlgebraicRealsModel" "left" "I", Cond.constant RX12 55 (1073741824), Cond.methodLink RX12 30 yX12_sizeCompare, Cond.instanceMethod yX12_sizeCompare, Cond.selects RX12 yX12_sizeCompare yX12_sizeCompare, Cond.methodLink RX12 41 yX12_whole, Cond.instanceMethod yX12_whole, Cond.selects RX12 yX12_whole yX12_whole, Cond.methodLink RX12 51 yX12_divideShort, Cond.instanceMethod yX12_divideShort, Cond.selects RX12 yX12_divideShort yX12_divideShort, Cond.code yX12_divideShort cX12_divideShort 12 none, Cond.methodLink RX12 56 yX12_raised, Cond.instanceMethod yX12_raised, Cond.selects RX12 yX12_raised yX12_raised, Cond.methodLink RX12 59 yX12_lowered, Cond.instanceMethod yX12_lowered, Cond.selects RX12 yX12_lowered yX12_lowered, Cond.code yX12_divide cX12_divide 26 none, Cond.methodLink RX12 62 yX12_divide, Cond.instanceMethod yX12_divide, Cond.selects RX12 yX12_divide yX12_divide, Cond.code yX12_over cX12_over 3 (some .int), Cond.fieldLink RX12 68 "AlgebraicRealsModel" "kept" "[I", Cond.methodLink RX12 71 yX12_bring, Cond.instanceMethod yX12_bring, Cond.selects RX12 yX12_bring yX12_bring, Cond.code yX12_bring cX12_bring 5 none, Cond.code yX12_keepNumbers cX12_keepNumbers 5 none, Cond.methodLink RX12 74 yX12_keepNumbers, Cond.instanceMethod yX12_keepNumbers, Cond.selects RX12 yX12_keepNumbers yX12_keepNumbers, Cond.code yX12_keepNumber cX12_keepNumber 3 (some .int), Cond.methodLink RX12 27 yX12_signOf, Cond.instanceMethod yX12_signOf, Cond.selects RX12 yX12_signOf yX12_signOf, Cond.methodLink RX12 77 yX12_keepNumber, Cond.instanceMethod yX12_keepNumber, Cond.selects RX12 yX12_keepNumber yX12_keepNumber, Cond.code yX12_greatestDivisor cX12_greatestDivisor 6 (some .int), Cond.code yX12_degree cX12_degree 2 (some .int), Cond.code yX12_co cX12_co 3 (some .int), Cond.methodLink RX12 80 yX12_degree, Cond.instanceMethod yX12_degree, Cond.selects RX12 yX12_degree yX12_degree, Cond.methodLink RX12 83 yX12_co, Cond.instanceMethod yX12_co, Cond.selects RX12 yX12_co yX12_co, Cond.code yX12_leading cX12_leading 2 (some .int), Cond.fieldLink RX12 86 "AlgebraicRealsModel" "row" "[I", Cond.code yX12_polynomialOf cX12_polynomialOf 5 (some .int), Cond.methodLink RX12 89 yX12_polynomialOf, Cond.instanceMethod yX12_polynomialOf, Cond.selects RX12 yX12_polynomialOf yX12_polynomialOf, Cond.code yX12_copyPolynomial cX12_copyPolynomial 3 (some .int), Cond.methodLink RX12 92 yX12_copyPolynomial, Cond.instanceMethod yX12_copyPolynomial, Cond.selects RX12 yX12_copyPolynomial yX12_copyPolynomial, Cond.code yX12_keepPolynomials cX12_keepPolynomials 6 none, Cond.methodLink RX12 95 yX12_keepPolynomials, Cond.instanceMethod yX12_keepPolynomials, Cond.selects RX12 yX12_keepPolynomials yX12_keepPolynomials, Cond.code yX12_keepPolynomial cX12_keepPolynomial 3 (some .int), Cond.methodLink RX12 104 yX12_greatestDivisor, Cond.instanceMethod yX12_greatestDivisor, Cond.selects RX12 yX12_greatestDivisor yX12_greatestDivisor, Cond.methodLink RX12 107 yX12_leading, Cond.instanceMethod yX12_leading, Cond.selects RX12 yX12_leading yX12_leading, Cond.methodLink RX12 34 yX12_negated, Cond.instanceMethod yX12_negated, Cond.selects RX12 yX12_negated yX12_negated, Cond.methodLink RX12 110 yX12_over, Cond.instanceMethod yX12_over, Cond.selects RX12 yX12_over yX12_over, Cond.methodLink RX12 113 yX12_keepPolynomial, Cond.instanceMethod yX12_keepPolynomial, Cond.selects RX12 yX12_keepPolynomial yX12_keepPolynomial, Cond.code yX12_least cX12_least 7 (some .int), Cond.code yX12_bits cX12_bits 4 (some .int), Cond.code yX12_clear cX12_clear 1 none, Cond.fieldLink RX12 283 "AlgebraicRealsModel" "most" "I", Cond.methodLink RX12 143 yX12_bits, Cond.instanceMethod yX12_bits, Cond.selects RX12 yX12_bits yX12_bits, Cond.code yX12_isGreat cX12_isGreat 3 (some .boolean), Cond.fieldLink RX12 277 "AlgebraicRealsModel" "storeDegree" "[I", Cond.fieldLink RX12 280 "AlgebraicRealsModel" "store" "[I", Cond.code yX12_save cX12_save 7 none, Cond.fieldLink RX12 292 "AlgebraicRealsModel" "rank" "[I", Cond.methodLink RX12 286 yX12_isGreat, Cond.instanceMethod yX12_isGreat, Cond.selects RX12 yX12_isGreat yX12_isGreat, Cond.methodLink RX12 289 yX12_save, Cond.instanceMethod yX12_save, Cond.selects RX12 yX12_save yX12_save, Cond.code yX12_put cX12_put 4 (some .int), Cond.methodLink RX12 295 yX12_put, Cond.instanceMethod yX12_put, Cond.selects RX12 yX12_put yX12_put, Cond.code yX12_putFraction cX12_putFraction 7 (some .int), Cond.code yX12_divisorOf cX12_divisorOf 10 (some .long), Cond.methodLink RX12 481 yX12_divisorOf, Cond.static yX12_divisorOf, Cond.code yX12_coprime cX12_coprime 3 (some .int), Cond.fieldLink RX12 485 "AlgebraicRealsModel" "cycle" "[J", Cond.fieldLink RX12 492 "AlgebraicRealsModel" "ring" "[J", Cond.methodLink RX12 489 yX12_moebius, Cond.static yX12_moebius, Cond.code yX12_moebius cX12_moebius 4 (some .int), Cond.code yX12_makeCycle cX12_makeCycle 7 (some .int), Cond.constantLong RX12 208 (-1), Cond.fieldLink RX12 501 "AlgebraicRealsModel" "waves" "[J", Cond.fieldLink RX12 504 "AlgebraicRealsModel" "before" "[J", Cond.fieldLink RX12 507 "AlgebraicRealsModel" "latest" "[J", Cond.constantLong RX12 510 (2), Cond.methodLink RX12 301 yX12_clear, Cond.instanceMethod yX12_clear, Cond.selects RX12 yX12_clear yX12_clear, Cond.methodLink RX12 407 yX12_putFraction, Cond.instanceMethod yX12_putFraction, Cond.selects RX12 yX12_putFraction yX12_putFraction, Cond.methodLink RX12 495 yX12_coprime, Cond.static yX12_coprime, Cond.methodLink RX12 498 yX12_makeCycle, Cond.instanceMethod yX12_makeCycle, Cond.selects RX12 yX12_makeCycle yX12_makeCycle, Cond.methodLink RX12 116 yX12_least, Cond.instanceMethod yX12_least, Cond.selects RX12 yX12_least yX12_least, Cond.code yX12_putCosine cX12_putCosine 10 (some .int), Cond.constantLong RX12 512 (4), Cond.methodLink RX12 514 yX12_putCosine, Cond.instanceMethod yX12_putCosine, Cond.selects RX12 yX12_putCosine yX12_putCosine, Cond.code yX12_putTurn cX12_putTurn 14 (some .int), Cond.fieldLink RX12 568 "AlgebraicRealsModel" "numbers" "I", Cond.code yX12_finish cX12_finish 2 (some .int), Cond.fieldLink RX12 1 "AlgebraicRealsModel" "thrown" "I", Cond.methodLink RX12 578 yX12_finish, Cond.instanceMethod yX12_finish, Cond.selects RX12 yX12_finish yX12_finish, Cond.code yX12_fraction cX12_fraction 5 (some .int), Cond.constantLong RX12 602 (120), Cond.methodLink RX12 571 yX12_in, Cond.static yX12_in, Cond.methodLink RX12 604 yX12_putTurn, Cond.instanceMethod yX12_putTurn, Cond.selects RX12 yX12_putTurn yX12_putTurn, Cond.code yX12_turn cX12_turn 5 (some .int), Cond.code yX12_thrown cX12_thrown 1 (some .int), Cond.methodLink RX12 517 objectInit, Cond.instanceMethod objectInit, Cond.code objectInit ⟨#[0xb1]⟩ 1 none, Cond.constant RX12 522 (6000000), Cond.arrayClass .int, Cond.fieldLink RX12 125 "AlgebraicRealsModel" "chain" "[I", Cond.fieldLink RX12 189 "AlgebraicRealsModel" "small" "[I", Cond.fieldLink RX12 186 "AlgebraicRealsModel" "toPart" "[I", Cond.fieldLink RX12 198 "AlgebraicRealsModel" "turns" "[I", Cond.fieldLink RX12 262 "AlgebraicRealsModel" "parts1" "[I", Cond.constant RX12 523 (70980), Cond.fieldLink RX12 350 "AlgebraicRealsModel" "ringA" "[I", Cond.fieldLink RX12 356 "AlgebraicRealsModel" "ringB" "[I", Cond.fieldLink RX12 344 "AlgebraicRealsModel" "element" "[I", Cond.fieldLink RX12 347 "AlgebraicRealsModel" "unit" "[I", Cond.fieldLink RX12 362 "AlgebraicRealsModel" "rows" "[I", Cond.fieldLink RX12 365 "AlgebraicRealsModel" "firstOf" "[I", Cond.fieldLink RX12 392 "AlgebraicRealsModel" "shape" "[I", Cond.fieldLink RX12 374 "AlgebraicRealsModel" "held" "[I", Cond.fieldLink RX12 453 "AlgebraicRealsModel" "plain" "[I", Cond.arrayClass .long, Cond.arrayClass .byte, Cond.fieldLink RX12 524 "AlgebraicRealsModel" "tape" "[B", Cond.fieldLink RX12 528 "AlgebraicRealsModel" "text" "[B", Cond.fieldLink RX12 531 "AlgebraicRealsModel" "given" "[J", Cond.fieldLink RX12 534 "AlgebraicRealsModel" "often" "[I", Cond.fieldLink RX12 537 "AlgebraicRealsModel" "written" "[B", Cond.fieldLink RX12 540 "AlgebraicRealsModel" "figures" "[B", Cond.fieldLink RX12 543 "AlgebraicRealsModel" "acts" "[I", Cond.fieldLink RX12 546 "AlgebraicRealsModel" "actA" "[I", Cond.fieldLink RX12 549 "AlgebraicRealsModel" "actB" "[I", Cond.fieldLink RX12 552 "AlgebraicRealsModel" "openKind" "[I", Cond.fieldLink RX12 555 "AlgebraicRealsModel" "openRoot" "[I", Cond.fieldLink RX12 558 "AlgebraicRealsModel" "openSum" "[I", Cond.arrayClass .boolean, Cond.fieldLink RX12 561 "AlgebraicRealsModel" "openLess" "[Z", Cond.fieldLink RX12 565 "AlgebraicRealsModel" "openProduct" "[I", Cond.code yX12_init cX12_init 2 none, Cond.code yX12_isNumber cX12_isNumber 2 (some .boolean), Cond.fieldLink RX12 575 "AlgebraicRealsModel" "polynomials" "I", Cond.code yX12_isPolynomial cX12_isPolynomial 2 (some .boolean), Cond.constantLong RX12 584 (3), Cond.methodLink RX12 581 yX12_isNumber, Cond.instanceMethod yX12_isNumber, Cond.selects RX12 yX12_isNumber yX12_isNumber, Cond.fieldLink RX12 131 "AlgebraicRealsModel" "chainSize" "I", Cond.fieldLink RX12 338 "AlgebraicRealsModel" "sizeA" "I", Cond.fieldLink RX12 341 "AlgebraicRealsModel" "sizeB" "I", Cond.fieldLink RX12 383 "AlgebraicRealsModel" "timesA" "I", Cond.fieldLink RX12 386 "AlgebraicRealsModel" "timesB" "I", Cond.fieldLink RX12 335 "AlgebraicRealsModel" "modular" "Z", Cond.fieldLink RX12 359 "AlgebraicRealsModel" "rowCount" "I", Cond.fieldLink RX12 152 "AlgebraicRealsModel" "exponent" "I", Cond.fieldLink RX12 155 "AlgebraicRealsModel" "prime" "I", Cond.fieldLink RX12 389 "AlgebraicRealsModel" "shapeSize" "I", Cond.fieldLink RX12 323 "AlgebraicRealsModel" "spanFrom" "I", Cond.fieldLink RX12 317 "AlgebraicRealsModel" "spanTo" "I", Cond.fieldLink RX12 320 "AlgebraicRealsModel" "spanOver" "I", Cond.fieldLink RX12 413 "AlgebraicRealsModel" "low" "I", Cond.fieldLink RX12 416 "AlgebraicRealsModel" "high" "I", Cond.fieldLink RX12 259 "AlgebraicRealsModel" "partCount" "I", Cond.fieldLink RX12 192 "AlgebraicRealsModel" "smalls" "I", Cond.fieldLink RX12 248 "AlgebraicRealsModel" "wantsAll" "Z", Cond.fieldLink RX12 183 "AlgebraicRealsModel" "toParts" "I", Cond.fieldLink RX12 222 "AlgebraicRealsModel" "upper" "I", Cond.fieldLink RX12 225 "AlgebraicRealsModel" "lower" "I", Cond.code yX12_apply cX12_apply 4 (some .int), Cond.code yX12_plain cX12_plain 3 (some .int), Cond.constantLong RX12 590 (-8), Cond.constantLong RX12 592 (8), Cond.code yX12_power cX12_power 3 (some .int), Cond.constantLong RX12 597 (12), Cond.code yX12_root cX12_root 3 (some .int), Cond.code yX12_beside cX12_beside 3 (some .int), Cond.methodLink RX12 617 yX12_isPolynomial, Cond.instanceMethod yX12_isPolynomial, Cond.selects RX12 yX12_isPolynomial yX12_isPolynomial, Cond.code yX12_value cX12_value 5 (some .int), Cond.fieldLink RX12 626 "AlgebraicRealsModel" "rootCount" "I", Cond.code yX12_rootOf cX12_rootOf 7 (some .int), Cond.fieldLink RX12 638 "AlgebraicRealsModel" "apartTimes" "I", Cond.code yX12_common cX12_common 4 (some .int), Cond.code yX12_drop cX12_drop 1 (some .int), Cond.code yX12_compare cX12_compare 3 (some .int), Cond.code yX12_sign cX12_sign 2 (some .int), Cond.code yX12_about cX12_about 6 (some .int), Cond.code yX12_within cX12_within 6 (some .int), Cond.code yX12_polynomial cX12_polynomial 1 (some .int), Cond.code yX12_coefficient cX12_coefficient 5 (some .int), Cond.code yX12_roots cX12_roots 3 (some .int), Cond.code yX12_between cX12_between 6 (some .int), Cond.fieldLink RX12 644 "AlgebraicRealsModel" "partsTold" "I", Cond.code yX12_parts cX12_parts 8 (some .int), Cond.code yX12_part cX12_part 3 (some .int), Cond.constantLong RX12 658 (80), Cond.constantLong RX12 660 (10), Cond.fieldLink RX12 650 "AlgebraicRealsModel" "writtenSize" "I", Cond.fieldLink RX12 653 "AlgebraicRealsModel" "figureCount" "I", Cond.constantLong RX12 656 (1000000000), Cond.code yX12_write cX12_write 6 (some .int), Cond.code yX12_writeLeast cX12_writeLeast 2 (some .int), Cond.code yX12_writePart cX12_writePart 2 (some .int), Cond.code yX12_at cX12_at 2 (some .int), Cond.fieldLink RX12 671 "AlgebraicRealsModel" "taped" "I", Cond.code yX12_feed cX12_feed 8 (some .int), Cond.code yX12_end cX12_end 2 none, Cond.fieldLink RX12 674 "AlgebraicRealsModel" "textSize" "I", Cond.fieldLink RX12 702 "AlgebraicRealsModel" "wrong" "Z", Cond.fieldLink RX12 684 "AlgebraicRealsModel" "tokenAt" "I", Cond.methodLink RX12 735 yX12_readText, Cond.instanceMethod yX12_readText, Cond.selects RX12 yX12_readText yX12_readText, Cond.code yX12_readText cX12_readText 4 none, Cond.fieldLink RX12 687 "AlgebraicRealsModel" "tokenSize" "I", Cond.fieldLink RX12 699 "AlgebraicRealsModel" "actCount" "I", Cond.fieldLink RX12 708 "AlgebraicRealsModel" "depth" "I", Cond.fieldLink RX12 693 "AlgebraicRealsModel" "token" "I", Cond.methodLink RX12 705 yX12_next, Cond.instanceMethod yX12_next, Cond.selects RX12 yX12_next yX12_next, Cond.code yX12_next cX12_next 4 none, Cond.fieldLink RX12 690 "AlgebraicRealsModel" "tokenValue" "I", Cond.methodLink RX12 677 yX12_signAt, Cond.instanceMethod yX12_signAt, Cond.selects RX12 yX12_signAt yX12_signAt, Cond.code yX12_signAt cX12_signAt 2 (some .int), Cond.methodLink RX12 696 yX12_isFigure, Cond.instanceMethod yX12_isFigure, Cond.selects RX12 yX12_isFigure yX12_isFigure, Cond.code yX12_isFigure cX12_isFigure 2 (some .boolean), Cond.constantLong RX12 680 (48), Cond.constantLong RX12 682 (57), Cond.methodLink RX12 722 yX12_open, Cond.instanceMethod yX12_open, Cond.selects RX12 yX12_open yX12_open, Cond.code yX12_open cX12_open 3 none, Cond.methodLink RX12 725 yX12_readAtom, Cond.instanceMethod yX12_readAtom, Cond.selects RX12 yX12_readAtom yX12_readAtom, Cond.code yX12_readAtom cX12_readAtom 5 (some .boolean), Cond.constant RX12 721 (999999999), Cond.code yX12_read cX12_read 2 (some .int)] ++ wsX120
theorem mc_in : Cond.code yX12_in cX12_in 6 (some .boolean) ∈ w0r := List.mem_append_left _ (List.mem_of_getElem? (i := 0) rfl)
theorem mf_7 : Cond.fieldLink RX12 7 "AlgebraicRealsModel" "heap" "[I" ∈ w0r := List.mem_append_left _ (List.mem_of_getElem? (i := 1) rfl)
theorem mc_size : Cond.code yX12_size cX12_size 2 (some .int) ∈ w0r := List.mem_append_left _ (List.mem_of_getElem? (i := 2) rfl)
theorem mc_signOf : Cond.code yX12_signOf cX12_signOf 2 (some .int) ∈ w0r := List.mem_append_left _ (List.mem_of_getElem? (i := 3) rfl)
theorem mf_11 : Cond.fieldLink RX12 11 "AlgebraicRealsModel" "top" "I" ∈ w0r := List.mem_append_left _ (List.mem_of_getElem? (i := 4) rfl)
theorem mc_shut : Cond.code yX12_shut cX12_shut 5 (some .int) ∈ w0r := List.mem_append_left _ (List.mem_of_getElem? (i := 5) rfl)
theorem mj_14 : Cond.constantLong RX12 14 (2147483647) ∈ w0r := List.mem_append_left _ (List.mem_of_getElem? (i := 6) rfl)
theorem ml_16 : Cond.methodLink RX12 16 yX12_shut ∈ w0r := List.mem_append_left _ (List.mem_of_getElem? (i := 7) rfl)
theorem mi_shut : Cond.instanceMethod yX12_shut ∈ w0r := List.mem_append_left _ (List.mem_of_getElem? (i := 8) rfl)
theorem ms_shut : Cond.selects RX12 yX12_shut yX12_shut ∈ w0r := List.mem_append_left _ (List.mem_of_getElem? (i := 9) rfl)
theorem mn_RX12 : Cond.initialized RX12 ∈ w0r := List.mem_append_left _ (List.mem_of_getElem? (i := 10) rfl)
theorem mc_whole : Cond.code yX12_whole cX12_whole 6 (some .int) ∈ w0r := List.mem_append_left _ (List.mem_of_getElem? (i := 11) rfl)
theorem ml_20 : Cond.methodLink RX12 20 yX12_size ∈ w0r := List.mem_append_left _ (List.mem_of_getElem? (i := 12) rfl)
theorem mi_size : Cond.instanceMethod yX12_size ∈ w0r := List.mem_append_left _ (List.mem_of_getElem? (i := 13) rfl)
theorem ms_size : Cond.selects RX12 yX12_size yX12_size ∈ w0r := List.mem_append_left _ (List.mem_of_getElem? (i := 14) rfl)
theorem mc_copy : Cond.code yX12_copy cX12_copy 5 (some .int) ∈ w0r := List.mem_append_left _ (List.mem_of_getElem? (i := 15) rfl)
theorem ml_24 : Cond.methodLink RX12 24 yX12_copy ∈ w0r := List.mem_append_left _ (List.mem_of_getElem? (i := 16) rfl)
theorem mi_copy : Cond.instanceMethod yX12_copy ∈ w0r := List.mem_append_left _ (List.mem_of_getElem? (i := 17) rfl)
theorem ms_copy : Cond.selects RX12 yX12_copy yX12_copy ∈ w0r := List.mem_append_left _ (List.mem_of_getElem? (i := 18) rfl)
theorem mc_negated : Cond.code yX12_negated cX12_negated 3 (some .int) ∈ w0r := List.mem_append_left _ (List.mem_of_getElem? (i := 19) rfl)
theorem mc_sizeCompare : Cond.code yX12_sizeCompare cX12_sizeCompare 5 (some .int) ∈ w0r := List.mem_append_left _ (List.mem_of_getElem? (i := 20) rfl)
theorem mc_raised : Cond.code yX12_raised cX12_raised 10 (some .int) ∈ w0r := List.mem_append_left _ (List.mem_of_getElem? (i := 21) rfl)
theorem mc_lowered : Cond.code yX12_lowered cX12_lowered 12 (some .int) ∈ w0r := List.mem_append_left _ (List.mem_of_getElem? (i := 22) rfl)
theorem mf_45 : Cond.fieldLink RX12 45 "AlgebraicRealsModel" "quotient" "I" ∈ w0r := List.mem_append_left _ (List.mem_of_getElem? (i := 23) rfl)
theorem mf_48 : Cond.fieldLink RX12 48 "AlgebraicRealsModel" "left" "I" ∈ w0r := List.mem_append_left _ (List.mem_of_getElem? (i := 24) rfl)
theorem mk_55 : Cond.constant RX12 55 (1073741824) ∈ w0r := List.mem_append_left _ (List.mem_of_getElem? (i := 25) rfl)
theorem ml_30 : Cond.methodLink RX12 30 yX12_sizeCompare ∈ w0r := List.mem_append_left _ (List.mem_of_getElem? (i := 26) rfl)
theorem mi_sizeCompare : Cond.instanceMethod yX12_sizeCompare ∈ w0r := List.mem_append_left _ (List.mem_of_getElem? (i := 27) rfl)
theorem ms_sizeCompare : Cond.selects RX12 yX12_sizeCompare yX12_sizeCompare ∈ w0r := List.mem_append_left _ (List.mem_of_getElem? (i := 28) rfl)
theorem ml_41 : Cond.methodLink RX12 41 yX12_whole ∈ w0r := List.mem_append_left _ (List.mem_of_getElem? (i := 29) rfl)
theorem mi_whole : Cond.instanceMethod yX12_whole ∈ w0r := List.mem_append_left _ (List.mem_of_getElem? (i := 30) rfl)
theorem ms_whole : Cond.selects RX12 yX12_whole yX12_whole ∈ w0r := List.mem_append_left _ (List.mem_of_getElem? (i := 31) rfl)
theorem ml_51 : Cond.methodLink RX12 51 yX12_divideShort ∈ w0r := List.mem_append_left _ (List.mem_of_getElem? (i := 32) rfl)
theorem mi_divideShort : Cond.instanceMethod yX12_divideShort ∈ w0r := List.mem_append_left _ (List.mem_of_getElem? (i := 33) rfl)
theorem ms_divideShort : Cond.selects RX12 yX12_divideShort yX12_divideShort ∈ w0r := List.mem_append_left _ (List.mem_of_getElem? (i := 34) rfl)
theorem mc_divideShort : Cond.code yX12_divideShort cX12_divideShort 12 none ∈ w0r := List.mem_append_left _ (List.mem_of_getElem? (i := 35) rfl)
theorem ml_56 : Cond.methodLink RX12 56 yX12_raised ∈ w0r := List.mem_append_left _ (List.mem_of_getElem? (i := 36) rfl)
theorem mi_raised : Cond.instanceMethod yX12_raised ∈ w0r := List.mem_append_left _ (List.mem_of_getElem? (i := 37) rfl)
theorem ms_raised : Cond.selects RX12 yX12_raised yX12_raised ∈ w0r := List.mem_append_left _ (List.mem_of_getElem? (i := 38) rfl)
theorem ml_59 : Cond.methodLink RX12 59 yX12_lowered ∈ w0r := List.mem_append_left _ (List.mem_of_getElem? (i := 39) rfl)
theorem mi_lowered : Cond.instanceMethod yX12_lowered ∈ w0r := List.mem_append_left _ (List.mem_of_getElem? (i := 40) rfl)
theorem ms_lowered : Cond.selects RX12 yX12_lowered yX12_lowered ∈ w0r := List.mem_append_left _ (List.mem_of_getElem? (i := 41) rfl)
theorem mc_divide : Cond.code yX12_divide cX12_divide 26 none ∈ w0r := List.mem_append_left _ (List.mem_of_getElem? (i := 42) rfl)
theorem ml_62 : Cond.methodLink RX12 62 yX12_divide ∈ w0r := List.mem_append_left _ (List.mem_of_getElem? (i := 43) rfl)
theorem mi_divide : Cond.instanceMethod yX12_divide ∈ w0r := List.mem_append_left _ (List.mem_of_getElem? (i := 44) rfl)
theorem ms_divide : Cond.selects RX12 yX12_divide yX12_divide ∈ w0r := List.mem_append_left _ (List.mem_of_getElem? (i := 45) rfl)
theorem mc_over : Cond.code yX12_over cX12_over 3 (some .int) ∈ w0r := List.mem_append_left _ (List.mem_of_getElem? (i := 46) rfl)
theorem mf_68 : Cond.fieldLink RX12 68 "AlgebraicRealsModel" "kept" "[I" ∈ w0r := List.mem_append_left _ (List.mem_of_getElem? (i := 47) rfl)
theorem ml_71 : Cond.methodLink RX12 71 yX12_bring ∈ w0r := List.mem_append_left _ (List.mem_of_getElem? (i := 48) rfl)
theorem mi_bring : Cond.instanceMethod yX12_bring ∈ w0r := List.mem_append_left _ (List.mem_of_getElem? (i := 49) rfl)
theorem ms_bring : Cond.selects RX12 yX12_bring yX12_bring ∈ w0r := List.mem_append_left _ (List.mem_of_getElem? (i := 50) rfl)
theorem mc_bring : Cond.code yX12_bring cX12_bring 5 none ∈ w0r := List.mem_append_left _ (List.mem_of_getElem? (i := 51) rfl)
theorem mc_keepNumbers : Cond.code yX12_keepNumbers cX12_keepNumbers 5 none ∈ w0r := List.mem_append_left _ (List.mem_of_getElem? (i := 52) rfl)
theorem ml_74 : Cond.methodLink RX12 74 yX12_keepNumbers ∈ w0r := List.mem_append_left _ (List.mem_of_getElem? (i := 53) rfl)
theorem mi_keepNumbers : Cond.instanceMethod yX12_keepNumbers ∈ w0r := List.mem_append_left _ (List.mem_of_getElem? (i := 54) rfl)
theorem ms_keepNumbers : Cond.selects RX12 yX12_keepNumbers yX12_keepNumbers ∈ w0r := List.mem_append_left _ (List.mem_of_getElem? (i := 55) rfl)
theorem mc_keepNumber : Cond.code yX12_keepNumber cX12_keepNumber 3 (some .int) ∈ w0r := List.mem_append_left _ (List.mem_of_getElem? (i := 56) rfl)
theorem ml_27 : Cond.methodLink RX12 27 yX12_signOf ∈ w0r := List.mem_append_left _ (List.mem_of_getElem? (i := 57) rfl)
theorem mi_signOf : Cond.instanceMethod yX12_signOf ∈ w0r := List.mem_append_left _ (List.mem_of_getElem? (i := 58) rfl)
theorem ms_signOf : Cond.selects RX12 yX12_signOf yX12_signOf ∈ w0r := List.mem_append_left _ (List.mem_of_getElem? (i := 59) rfl)
theorem ml_77 : Cond.methodLink RX12 77 yX12_keepNumber ∈ w0r := List.mem_append_left _ (List.mem_of_getElem? (i := 60) rfl)
theorem mi_keepNumber : Cond.instanceMethod yX12_keepNumber ∈ w0r := List.mem_append_left _ (List.mem_of_getElem? (i := 61) rfl)
theorem ms_keepNumber : Cond.selects RX12 yX12_keepNumber yX12_keepNumber ∈ w0r := List.mem_append_left _ (List.mem_of_getElem? (i := 62) rfl)
theorem mc_greatestDivisor : Cond.code yX12_greatestDivisor cX12_greatestDivisor 6 (some .int) ∈ w0r := List.mem_append_left _ (List.mem_of_getElem? (i := 63) rfl)
theorem mc_degree : Cond.code yX12_degree cX12_degree 2 (some .int) ∈ w0r := List.mem_append_left _ (List.mem_of_getElem? (i := 64) rfl)
theorem mc_co : Cond.code yX12_co cX12_co 3 (some .int) ∈ w0r := List.mem_append_left _ (List.mem_of_getElem? (i := 65) rfl)
theorem ml_80 : Cond.methodLink RX12 80 yX12_degree ∈ w0r := List.mem_append_left _ (List.mem_of_getElem? (i := 66) rfl)
theorem mi_degree : Cond.instanceMethod yX12_degree ∈ w0r := List.mem_append_left _ (List.mem_of_getElem? (i := 67) rfl)
theorem ms_degree : Cond.selects RX12 yX12_degree yX12_degree ∈ w0r := List.mem_append_left _ (List.mem_of_getElem? (i := 68) rfl)
theorem ml_83 : Cond.methodLink RX12 83 yX12_co ∈ w0r := List.mem_append_left _ (List.mem_of_getElem? (i := 69) rfl)
theorem mi_co : Cond.instanceMethod yX12_co ∈ w0r := List.mem_append_left _ (List.mem_of_getElem? (i := 70) rfl)
theorem ms_co : Cond.selects RX12 yX12_co yX12_co ∈ w0r := List.mem_append_left _ (List.mem_of_getElem? (i := 71) rfl)
theorem mc_leading : Cond.code yX12_leading cX12_leading 2 (some .int) ∈ w0r := List.mem_append_left _ (List.mem_of_getElem? (i := 72) rfl)
theorem mf_86 : Cond.fieldLink RX12 86 "AlgebraicRealsModel" "row" "[I" ∈ w0r := List.mem_append_left _ (List.mem_of_getElem? (i := 73) rfl)
theorem mc_polynomialOf : Cond.code yX12_polynomialOf cX12_polynomialOf 5 (some .int) ∈ w0r := List.mem_append_left _ (List.mem_of_getElem? (i := 74) rfl)
theorem ml_89 : Cond.methodLink RX12 89 yX12_polynomialOf ∈ w0r := List.mem_append_left _ (List.mem_of_getElem? (i := 75) rfl)
theorem mi_polynomialOf : Cond.instanceMethod yX12_polynomialOf ∈ w0r := List.mem_append_left _ (List.mem_of_getElem? (i := 76) rfl)
theorem ms_polynomialOf : Cond.selects RX12 yX12_polynomialOf yX12_polynomialOf ∈ w0r := List.mem_append_left _ (List.mem_of_getElem? (i := 77) rfl)
theorem mc_copyPolynomial : Cond.code yX12_copyPolynomial cX12_copyPolynomial 3 (some .int) ∈ w0r := List.mem_append_left _ (List.mem_of_getElem? (i := 78) rfl)
theorem ml_92 : Cond.methodLink RX12 92 yX12_copyPolynomial ∈ w0r := List.mem_append_left _ (List.mem_of_getElem? (i := 79) rfl)
theorem mi_copyPolynomial : Cond.instanceMethod yX12_copyPolynomial ∈ w0r := List.mem_append_left _ (List.mem_of_getElem? (i := 80) rfl)
theorem ms_copyPolynomial : Cond.selects RX12 yX12_copyPolynomial yX12_copyPolynomial ∈ w0r := List.mem_append_left _ (List.mem_of_getElem? (i := 81) rfl)
theorem mc_keepPolynomials : Cond.code yX12_keepPolynomials cX12_keepPolynomials 6 none ∈ w0r := List.mem_append_left _ (List.mem_of_getElem? (i := 82) rfl)
theorem ml_95 : Cond.methodLink RX12 95 yX12_keepPolynomials ∈ w0r := List.mem_append_left _ (List.mem_of_getElem? (i := 83) rfl)
theorem mi_keepPolynomials : Cond.instanceMethod yX12_keepPolynomials ∈ w0r := List.mem_append_left _ (List.mem_of_getElem? (i := 84) rfl)
theorem ms_keepPolynomials : Cond.selects RX12 yX12_keepPolynomials yX12_keepPolynomials ∈ w0r := List.mem_append_left _ (List.mem_of_getElem? (i := 85) rfl)
theorem mc_keepPolynomial : Cond.code yX12_keepPolynomial cX12_keepPolynomial 3 (some .int) ∈ w0r := List.mem_append_left _ (List.mem_of_getElem? (i := 86) rfl)
theorem ml_104 : Cond.methodLink RX12 104 yX12_greatestDivisor ∈ w0r := List.mem_append_left _ (List.mem_of_getElem? (i := 87) rfl)
theorem mi_greatestDivisor : Cond.instanceMethod yX12_greatestDivisor ∈ w0r := List.mem_append_left _ (List.mem_of_getElem? (i := 88) rfl)
theorem ms_greatestDivisor : Cond.selects RX12 yX12_greatestDivisor yX12_greatestDivisor ∈ w0r := List.mem_append_left _ (List.mem_of_getElem? (i := 89) rfl)
theorem ml_107 : Cond.methodLink RX12 107 yX12_leading ∈ w0r := List.mem_append_left _ (List.mem_of_getElem? (i := 90) rfl)
theorem mi_leading : Cond.instanceMethod yX12_leading ∈ w0r := List.mem_append_left _ (List.mem_of_getElem? (i := 91) rfl)
theorem ms_leading : Cond.selects RX12 yX12_leading yX12_leading ∈ w0r := List.mem_append_left _ (List.mem_of_getElem? (i := 92) rfl)
theorem ml_34 : Cond.methodLink RX12 34 yX12_negated ∈ w0r := List.mem_append_left _ (List.mem_of_getElem? (i := 93) rfl)
theorem mi_negated : Cond.instanceMethod yX12_negated ∈ w0r := List.mem_append_left _ (List.mem_of_getElem? (i := 94) rfl)
theorem ms_negated : Cond.selects RX12 yX12_negated yX12_negated ∈ w0r := List.mem_append_left _ (List.mem_of_getElem? (i := 95) rfl)
theorem ml_110 : Cond.methodLink RX12 110 yX12_over ∈ w0r := List.mem_append_left _ (List.mem_of_getElem? (i := 96) rfl)
theorem mi_over : Cond.instanceMethod yX12_over ∈ w0r := List.mem_append_left _ (List.mem_of_getElem? (i := 97) rfl)
theorem ms_over : Cond.selects RX12 yX12_over yX12_over ∈ w0r := List.mem_append_left _ (List.mem_of_getElem? (i := 98) rfl)
theorem ml_113 : Cond.methodLink RX12 113 yX12_keepPolynomial ∈ w0r := List.mem_append_left _ (List.mem_of_getElem? (i := 99) rfl)
theorem mi_keepPolynomial : Cond.instanceMethod yX12_keepPolynomial ∈ w0r := List.mem_append_left _ (List.mem_of_getElem? (i := 100) rfl)
theorem ms_keepPolynomial : Cond.selects RX12 yX12_keepPolynomial yX12_keepPolynomial ∈ w0r := List.mem_append_left _ (List.mem_of_getElem? (i := 101) rfl)
theorem mc_least : Cond.code yX12_least cX12_least 7 (some .int) ∈ w0r := List.mem_append_left _ (List.mem_of_getElem? (i := 102) rfl)
theorem mc_bits : Cond.code yX12_bits cX12_bits 4 (some .int) ∈ w0r := List.mem_append_left _ (List.mem_of_getElem? (i := 103) rfl)
theorem mc_clear : Cond.code yX12_clear cX12_clear 1 none ∈ w0r := List.mem_append_left _ (List.mem_of_getElem? (i := 104) rfl)
theorem mf_283 : Cond.fieldLink RX12 283 "AlgebraicRealsModel" "most" "I" ∈ w0r := List.mem_append_left _ (List.mem_of_getElem? (i := 105) rfl)
theorem ml_143 : Cond.methodLink RX12 143 yX12_bits ∈ w0r := List.mem_append_left _ (List.mem_of_getElem? (i := 106) rfl)
theorem mi_bits : Cond.instanceMethod yX12_bits ∈ w0r := List.mem_append_left _ (List.mem_of_getElem? (i := 107) rfl)
theorem ms_bits : Cond.selects RX12 yX12_bits yX12_bits ∈ w0r := List.mem_append_left _ (List.mem_of_getElem? (i := 108) rfl)
theorem mc_isGreat : Cond.code yX12_isGreat cX12_isGreat 3 (some .boolean) ∈ w0r := List.mem_append_left _ (List.mem_of_getElem? (i := 109) rfl)
theorem mf_277 : Cond.fieldLink RX12 277 "AlgebraicRealsModel" "storeDegree" "[I" ∈ w0r := List.mem_append_left _ (List.mem_of_getElem? (i := 110) rfl)
theorem mf_280 : Cond.fieldLink RX12 280 "AlgebraicRealsModel" "store" "[I" ∈ w0r := List.mem_append_left _ (List.mem_of_getElem? (i := 111) rfl)
theorem mc_save : Cond.code yX12_save cX12_save 7 none ∈ w0r := List.mem_append_left _ (List.mem_of_getElem? (i := 112) rfl)
theorem mf_292 : Cond.fieldLink RX12 292 "AlgebraicRealsModel" "rank" "[I" ∈ w0r := List.mem_append_left _ (List.mem_of_getElem? (i := 113) rfl)
theorem ml_286 : Cond.methodLink RX12 286 yX12_isGreat ∈ w0r := List.mem_append_left _ (List.mem_of_getElem? (i := 114) rfl)
theorem mi_isGreat : Cond.instanceMethod yX12_isGreat ∈ w0r := List.mem_append_left _ (List.mem_of_getElem? (i := 115) rfl)
theorem ms_isGreat : Cond.selects RX12 yX12_isGreat yX12_isGreat ∈ w0r := List.mem_append_left _ (List.mem_of_getElem? (i := 116) rfl)
theorem ml_289 : Cond.methodLink RX12 289 yX12_save ∈ w0r := List.mem_append_left _ (List.mem_of_getElem? (i := 117) rfl)
theorem mi_save : Cond.instanceMethod yX12_save ∈ w0r := List.mem_append_left _ (List.mem_of_getElem? (i := 118) rfl)
theorem ms_save : Cond.selects RX12 yX12_save yX12_save ∈ w0r := List.mem_append_left _ (List.mem_of_getElem? (i := 119) rfl)
theorem mc_put : Cond.code yX12_put cX12_put 4 (some .int) ∈ w0r := List.mem_append_left _ (List.mem_of_getElem? (i := 120) rfl)
theorem ml_295 : Cond.methodLink RX12 295 yX12_put ∈ w0r := List.mem_append_left _ (List.mem_of_getElem? (i := 121) rfl)
theorem mi_put : Cond.instanceMethod yX12_put ∈ w0r := List.mem_append_left _ (List.mem_of_getElem? (i := 122) rfl)
theorem ms_put : Cond.selects RX12 yX12_put yX12_put ∈ w0r := List.mem_append_left _ (List.mem_of_getElem? (i := 123) rfl)
theorem mc_putFraction : Cond.code yX12_putFraction cX12_putFraction 7 (some .int) ∈ w0r := List.mem_append_left _ (List.mem_of_getElem? (i := 124) rfl)
theorem mc_divisorOf : Cond.code yX12_divisorOf cX12_divisorOf 10 (some .long) ∈ w0r := List.mem_append_left _ (List.mem_of_getElem? (i := 125) rfl)
theorem ml_481 : Cond.methodLink RX12 481 yX12_divisorOf ∈ w0r := List.mem_append_left _ (List.mem_of_getElem? (i := 126) rfl)
theorem mt_divisorOf : Cond.static yX12_divisorOf ∈ w0r := List.mem_append_left _ (List.mem_of_getElem? (i := 127) rfl)
theorem mc_coprime : Cond.code yX12_coprime cX12_coprime 3 (some .int) ∈ w0r := List.mem_append_left _ (List.mem_of_getElem? (i := 128) rfl)
theorem mf_485 : Cond.fieldLink RX12 485 "AlgebraicRealsModel" "cycle" "[J" ∈ w0r := List.mem_append_left _ (List.mem_of_getElem? (i := 129) rfl)
theorem mf_492 : Cond.fieldLink RX12 492 "AlgebraicRealsModel" "ring" "[J" ∈ w0r := List.mem_append_left _ (List.mem_of_getElem? (i := 130) rfl)
theorem ml_489 : Cond.methodLink RX12 489 yX12_moebius ∈ w0r := List.mem_append_left _ (List.mem_of_getElem? (i := 131) rfl)
theorem mt_moebius : Cond.static yX12_moebius ∈ w0r := List.mem_append_left _ (List.mem_of_getElem? (i := 132) rfl)
theorem mc_moebius : Cond.code yX12_moebius cX12_moebius 4 (some .int) ∈ w0r := List.mem_append_left _ (List.mem_of_getElem? (i := 133) rfl)
theorem mc_makeCycle : Cond.code yX12_makeCycle cX12_makeCycle 7 (some .int) ∈ w0r := List.mem_append_left _ (List.mem_of_getElem? (i := 134) rfl)
theorem mj_208 : Cond.constantLong RX12 208 (-1) ∈ w0r := List.mem_append_left _ (List.mem_of_getElem? (i := 135) rfl)
theorem mf_501 : Cond.fieldLink RX12 501 "AlgebraicRealsModel" "waves" "[J" ∈ w0r := List.mem_append_left _ (List.mem_of_getElem? (i := 136) rfl)
theorem mf_504 : Cond.fieldLink RX12 504 "AlgebraicRealsModel" "before" "[J" ∈ w0r := List.mem_append_left _ (List.mem_of_getElem? (i := 137) rfl)
theorem mf_507 : Cond.fieldLink RX12 507 "AlgebraicRealsModel" "latest" "[J" ∈ w0r := List.mem_append_left _ (List.mem_of_getElem? (i := 138) rfl)
theorem mj_510 : Cond.constantLong RX12 510 (2) ∈ w0r := List.mem_append_left _ (List.mem_of_getElem? (i := 139) rfl)
theorem ml_301 : Cond.methodLink RX12 301 yX12_clear ∈ w0r := List.mem_append_left _ (List.mem_of_getElem? (i := 140) rfl)
theorem mi_clear : Cond.instanceMethod yX12_clear ∈ w0r := List.mem_append_left _ (List.mem_of_getElem? (i := 141) rfl)
theorem ms_clear : Cond.selects RX12 yX12_clear yX12_clear ∈ w0r := List.mem_append_left _ (List.mem_of_getElem? (i := 142) rfl)
theorem ml_407 : Cond.methodLink RX12 407 yX12_putFraction ∈ w0r := List.mem_append_left _ (List.mem_of_getElem? (i := 143) rfl)
theorem mi_putFraction : Cond.instanceMethod yX12_putFraction ∈ w0r := List.mem_append_left _ (List.mem_of_getElem? (i := 144) rfl)
theorem ms_putFraction : Cond.selects RX12 yX12_putFraction yX12_putFraction ∈ w0r := List.mem_append_left _ (List.mem_of_getElem? (i := 145) rfl)
theorem ml_495 : Cond.methodLink RX12 495 yX12_coprime ∈ w0r := List.mem_append_left _ (List.mem_of_getElem? (i := 146) rfl)
theorem mt_coprime : Cond.static yX12_coprime ∈ w0r := List.mem_append_left _ (List.mem_of_getElem? (i := 147) rfl)
theorem ml_498 : Cond.methodLink RX12 498 yX12_makeCycle ∈ w0r := List.mem_append_left _ (List.mem_of_getElem? (i := 148) rfl)
theorem mi_makeCycle : Cond.instanceMethod yX12_makeCycle ∈ w0r := List.mem_append_left _ (List.mem_of_getElem? (i := 149) rfl)
theorem ms_makeCycle : Cond.selects RX12 yX12_makeCycle yX12_makeCycle ∈ w0r := List.mem_append_left _ (List.mem_of_getElem? (i := 150) rfl)
theorem ml_116 : Cond.methodLink RX12 116 yX12_least ∈ w0r := List.mem_append_left _ (List.mem_of_getElem? (i := 151) rfl)
theorem mi_least : Cond.instanceMethod yX12_least ∈ w0r := List.mem_append_left _ (List.mem_of_getElem? (i := 152) rfl)
theorem ms_least : Cond.selects RX12 yX12_least yX12_least ∈ w0r := List.mem_append_left _ (List.mem_of_getElem? (i := 153) rfl)
theorem mc_putCosine : Cond.code yX12_putCosine cX12_putCosine 10 (some .int) ∈ w0r := List.mem_append_left _ (List.mem_of_getElem? (i := 154) rfl)
theorem mj_512 : Cond.constantLong RX12 512 (4) ∈ w0r := List.mem_append_left _ (List.mem_of_getElem? (i := 155) rfl)
theorem ml_514 : Cond.methodLink RX12 514 yX12_putCosine ∈ w0r := List.mem_append_left _ (List.mem_of_getElem? (i := 156) rfl)
theorem mi_putCosine : Cond.instanceMethod yX12_putCosine ∈ w0r := List.mem_append_left _ (List.mem_of_getElem? (i := 157) rfl)
theorem ms_putCosine : Cond.selects RX12 yX12_putCosine yX12_putCosine ∈ w0r := List.mem_append_left _ (List.mem_of_getElem? (i := 158) rfl)
theorem mc_putTurn : Cond.code yX12_putTurn cX12_putTurn 14 (some .int) ∈ w0r := List.mem_append_left _ (List.mem_of_getElem? (i := 159) rfl)
theorem mf_568 : Cond.fieldLink RX12 568 "AlgebraicRealsModel" "numbers" "I" ∈ w0r := List.mem_append_left _ (List.mem_of_getElem? (i := 160) rfl)
theorem mc_finish : Cond.code yX12_finish cX12_finish 2 (some .int) ∈ w0r := List.mem_append_left _ (List.mem_of_getElem? (i := 161) rfl)
theorem mf_1 : Cond.fieldLink RX12 1 "AlgebraicRealsModel" "thrown" "I" ∈ w0r := List.mem_append_left _ (List.mem_of_getElem? (i := 162) rfl)
theorem ml_578 : Cond.methodLink RX12 578 yX12_finish ∈ w0r := List.mem_append_left _ (List.mem_of_getElem? (i := 163) rfl)
theorem mi_finish : Cond.instanceMethod yX12_finish ∈ w0r := List.mem_append_left _ (List.mem_of_getElem? (i := 164) rfl)
theorem ms_finish : Cond.selects RX12 yX12_finish yX12_finish ∈ w0r := List.mem_append_left _ (List.mem_of_getElem? (i := 165) rfl)
theorem mc_fraction : Cond.code yX12_fraction cX12_fraction 5 (some .int) ∈ w0r := List.mem_append_left _ (List.mem_of_getElem? (i := 166) rfl)
theorem mj_602 : Cond.constantLong RX12 602 (120) ∈ w0r := List.mem_append_left _ (List.mem_of_getElem? (i := 167) rfl)
theorem ml_571 : Cond.methodLink RX12 571 yX12_in ∈ w0r := List.mem_append_left _ (List.mem_of_getElem? (i := 168) rfl)
theorem mt_in : Cond.static yX12_in ∈ w0r := List.mem_append_left _ (List.mem_of_getElem? (i := 169) rfl)
theorem ml_604 : Cond.methodLink RX12 604 yX12_putTurn ∈ w0r := List.mem_append_left _ (List.mem_of_getElem? (i := 170) rfl)
theorem mi_putTurn : Cond.instanceMethod yX12_putTurn ∈ w0r := List.mem_append_left _ (List.mem_of_getElem? (i := 171) rfl)
theorem ms_putTurn : Cond.selects RX12 yX12_putTurn yX12_putTurn ∈ w0r := List.mem_append_left _ (List.mem_of_getElem? (i := 172) rfl)
theorem mc_turn : Cond.code yX12_turn cX12_turn 5 (some .int) ∈ w0r := List.mem_append_left _ (List.mem_of_getElem? (i := 173) rfl)
theorem mc_thrown : Cond.code yX12_thrown cX12_thrown 1 (some .int) ∈ w0r := List.mem_append_left _ (List.mem_of_getElem? (i := 174) rfl)
theorem ml_517 : Cond.methodLink RX12 517 objectInit ∈ w0r := List.mem_append_left _ (List.mem_of_getElem? (i := 175) rfl)
theorem mi_tInit : Cond.instanceMethod objectInit ∈ w0r := List.mem_append_left _ (List.mem_of_getElem? (i := 176) rfl)
theorem mc_tInit : Cond.code objectInit ⟨#[0xb1]⟩ 1 none ∈ w0r := List.mem_append_left _ (List.mem_of_getElem? (i := 177) rfl)
theorem mk_522 : Cond.constant RX12 522 (6000000) ∈ w0r := List.mem_append_left _ (List.mem_of_getElem? (i := 178) rfl)
theorem mar_int : Cond.arrayClass .int ∈ w0r := List.mem_append_left _ (List.mem_of_getElem? (i := 179) rfl)
theorem mf_125 : Cond.fieldLink RX12 125 "AlgebraicRealsModel" "chain" "[I" ∈ w0r := List.mem_append_left _ (List.mem_of_getElem? (i := 180) rfl)
theorem mf_189 : Cond.fieldLink RX12 189 "AlgebraicRealsModel" "small" "[I" ∈ w0r := List.mem_append_left _ (List.mem_of_getElem? (i := 181) rfl)
theorem mf_186 : Cond.fieldLink RX12 186 "AlgebraicRealsModel" "toPart" "[I" ∈ w0r := List.mem_append_left _ (List.mem_of_getElem? (i := 182) rfl)
theorem mf_198 : Cond.fieldLink RX12 198 "AlgebraicRealsModel" "turns" "[I" ∈ w0r := List.mem_append_left _ (List.mem_of_getElem? (i := 183) rfl)
theorem mf_262 : Cond.fieldLink RX12 262 "AlgebraicRealsModel" "parts1" "[I" ∈ w0r := List.mem_append_left _ (List.mem_of_getElem? (i := 184) rfl)
theorem mk_523 : Cond.constant RX12 523 (70980) ∈ w0r := List.mem_append_left _ (List.mem_of_getElem? (i := 185) rfl)
theorem mf_350 : Cond.fieldLink RX12 350 "AlgebraicRealsModel" "ringA" "[I" ∈ w0r := List.mem_append_left _ (List.mem_of_getElem? (i := 186) rfl)
theorem mf_356 : Cond.fieldLink RX12 356 "AlgebraicRealsModel" "ringB" "[I" ∈ w0r := List.mem_append_left _ (List.mem_of_getElem? (i := 187) rfl)
theorem mf_344 : Cond.fieldLink RX12 344 "AlgebraicRealsModel" "element" "[I" ∈ w0r := List.mem_append_left _ (List.mem_of_getElem? (i := 188) rfl)
theorem mf_347 : Cond.fieldLink RX12 347 "AlgebraicRealsModel" "unit" "[I" ∈ w0r := List.mem_append_left _ (List.mem_of_getElem? (i := 189) rfl)
theorem mf_362 : Cond.fieldLink RX12 362 "AlgebraicRealsModel" "rows" "[I" ∈ w0r := List.mem_append_left _ (List.mem_of_getElem? (i := 190) rfl)
theorem mf_365 : Cond.fieldLink RX12 365 "AlgebraicRealsModel" "firstOf" "[I" ∈ w0r := List.mem_append_left _ (List.mem_of_getElem? (i := 191) rfl)
theorem mf_392 : Cond.fieldLink RX12 392 "AlgebraicRealsModel" "shape" "[I" ∈ w0r := List.mem_append_left _ (List.mem_of_getElem? (i := 192) rfl)
theorem mf_374 : Cond.fieldLink RX12 374 "AlgebraicRealsModel" "held" "[I" ∈ w0r := List.mem_append_left _ (List.mem_of_getElem? (i := 193) rfl)
theorem mf_453 : Cond.fieldLink RX12 453 "AlgebraicRealsModel" "plain" "[I" ∈ w0r := List.mem_append_left _ (List.mem_of_getElem? (i := 194) rfl)
theorem mar_long : Cond.arrayClass .long ∈ w0r := List.mem_append_left _ (List.mem_of_getElem? (i := 195) rfl)
theorem mar_byte : Cond.arrayClass .byte ∈ w0r := List.mem_append_left _ (List.mem_of_getElem? (i := 196) rfl)
theorem mf_524 : Cond.fieldLink RX12 524 "AlgebraicRealsModel" "tape" "[B" ∈ w0r := List.mem_append_left _ (List.mem_of_getElem? (i := 197) rfl)
theorem mf_528 : Cond.fieldLink RX12 528 "AlgebraicRealsModel" "text" "[B" ∈ w0r := List.mem_append_left _ (List.mem_of_getElem? (i := 198) rfl)
theorem mf_531 : Cond.fieldLink RX12 531 "AlgebraicRealsModel" "given" "[J" ∈ w0r := List.mem_append_left _ (List.mem_of_getElem? (i := 199) rfl)
theorem mf_534 : Cond.fieldLink RX12 534 "AlgebraicRealsModel" "often" "[I" ∈ w0r := List.mem_append_left _ (List.mem_of_getElem? (i := 200) rfl)
theorem mf_537 : Cond.fieldLink RX12 537 "AlgebraicRealsModel" "written" "[B" ∈ w0r := List.mem_append_left _ (List.mem_of_getElem? (i := 201) rfl)
theorem mf_540 : Cond.fieldLink RX12 540 "AlgebraicRealsModel" "figures" "[B" ∈ w0r := List.mem_append_left _ (List.mem_of_getElem? (i := 202) rfl)
theorem mf_543 : Cond.fieldLink RX12 543 "AlgebraicRealsModel" "acts" "[I" ∈ w0r := List.mem_append_left _ (List.mem_of_getElem? (i := 203) rfl)
theorem mf_546 : Cond.fieldLink RX12 546 "AlgebraicRealsModel" "actA" "[I" ∈ w0r := List.mem_append_left _ (List.mem_of_getElem? (i := 204) rfl)
theorem mf_549 : Cond.fieldLink RX12 549 "AlgebraicRealsModel" "actB" "[I" ∈ w0r := List.mem_append_left _ (List.mem_of_getElem? (i := 205) rfl)
theorem mf_552 : Cond.fieldLink RX12 552 "AlgebraicRealsModel" "openKind" "[I" ∈ w0r := List.mem_append_left _ (List.mem_of_getElem? (i := 206) rfl)
theorem mf_555 : Cond.fieldLink RX12 555 "AlgebraicRealsModel" "openRoot" "[I" ∈ w0r := List.mem_append_left _ (List.mem_of_getElem? (i := 207) rfl)
theorem mf_558 : Cond.fieldLink RX12 558 "AlgebraicRealsModel" "openSum" "[I" ∈ w0r := List.mem_append_left _ (List.mem_of_getElem? (i := 208) rfl)
theorem mar_boolean : Cond.arrayClass .boolean ∈ w0r := List.mem_append_left _ (List.mem_of_getElem? (i := 209) rfl)
theorem mf_561 : Cond.fieldLink RX12 561 "AlgebraicRealsModel" "openLess" "[Z" ∈ w0r := List.mem_append_left _ (List.mem_of_getElem? (i := 210) rfl)
theorem mf_565 : Cond.fieldLink RX12 565 "AlgebraicRealsModel" "openProduct" "[I" ∈ w0r := List.mem_append_left _ (List.mem_of_getElem? (i := 211) rfl)
theorem mc_init : Cond.code yX12_init cX12_init 2 none ∈ w0r := List.mem_append_left _ (List.mem_of_getElem? (i := 212) rfl)
theorem mc_isNumber : Cond.code yX12_isNumber cX12_isNumber 2 (some .boolean) ∈ w0r := List.mem_append_left _ (List.mem_of_getElem? (i := 213) rfl)
theorem mf_575 : Cond.fieldLink RX12 575 "AlgebraicRealsModel" "polynomials" "I" ∈ w0r := List.mem_append_left _ (List.mem_of_getElem? (i := 214) rfl)
theorem mc_isPolynomial : Cond.code yX12_isPolynomial cX12_isPolynomial 2 (some .boolean) ∈ w0r := List.mem_append_left _ (List.mem_of_getElem? (i := 215) rfl)
theorem mj_584 : Cond.constantLong RX12 584 (3) ∈ w0r := List.mem_append_left _ (List.mem_of_getElem? (i := 216) rfl)
theorem ml_581 : Cond.methodLink RX12 581 yX12_isNumber ∈ w0r := List.mem_append_left _ (List.mem_of_getElem? (i := 217) rfl)
theorem mi_isNumber : Cond.instanceMethod yX12_isNumber ∈ w0r := List.mem_append_left _ (List.mem_of_getElem? (i := 218) rfl)
theorem ms_isNumber : Cond.selects RX12 yX12_isNumber yX12_isNumber ∈ w0r := List.mem_append_left _ (List.mem_of_getElem? (i := 219) rfl)
theorem mf_131 : Cond.fieldLink RX12 131 "AlgebraicRealsModel" "chainSize" "I" ∈ w0r := List.mem_append_left _ (List.mem_of_getElem? (i := 220) rfl)
theorem mf_338 : Cond.fieldLink RX12 338 "AlgebraicRealsModel" "sizeA" "I" ∈ w0r := List.mem_append_left _ (List.mem_of_getElem? (i := 221) rfl)
theorem mf_341 : Cond.fieldLink RX12 341 "AlgebraicRealsModel" "sizeB" "I" ∈ w0r := List.mem_append_left _ (List.mem_of_getElem? (i := 222) rfl)
theorem mf_383 : Cond.fieldLink RX12 383 "AlgebraicRealsModel" "timesA" "I" ∈ w0r := List.mem_append_left _ (List.mem_of_getElem? (i := 223) rfl)
theorem mf_386 : Cond.fieldLink RX12 386 "AlgebraicRealsModel" "timesB" "I" ∈ w0r := List.mem_append_left _ (List.mem_of_getElem? (i := 224) rfl)
theorem mf_335 : Cond.fieldLink RX12 335 "AlgebraicRealsModel" "modular" "Z" ∈ w0r := List.mem_append_left _ (List.mem_of_getElem? (i := 225) rfl)
theorem mf_359 : Cond.fieldLink RX12 359 "AlgebraicRealsModel" "rowCount" "I" ∈ w0r := List.mem_append_left _ (List.mem_of_getElem? (i := 226) rfl)
theorem mf_152 : Cond.fieldLink RX12 152 "AlgebraicRealsModel" "exponent" "I" ∈ w0r := List.mem_append_left _ (List.mem_of_getElem? (i := 227) rfl)
theorem mf_155 : Cond.fieldLink RX12 155 "AlgebraicRealsModel" "prime" "I" ∈ w0r := List.mem_append_left _ (List.mem_of_getElem? (i := 228) rfl)
theorem mf_389 : Cond.fieldLink RX12 389 "AlgebraicRealsModel" "shapeSize" "I" ∈ w0r := List.mem_append_left _ (List.mem_of_getElem? (i := 229) rfl)
theorem mf_323 : Cond.fieldLink RX12 323 "AlgebraicRealsModel" "spanFrom" "I" ∈ w0r := List.mem_append_left _ (List.mem_of_getElem? (i := 230) rfl)
theorem mf_317 : Cond.fieldLink RX12 317 "AlgebraicRealsModel" "spanTo" "I" ∈ w0r := List.mem_append_left _ (List.mem_of_getElem? (i := 231) rfl)
theorem mf_320 : Cond.fieldLink RX12 320 "AlgebraicRealsModel" "spanOver" "I" ∈ w0r := List.mem_append_left _ (List.mem_of_getElem? (i := 232) rfl)
theorem mf_413 : Cond.fieldLink RX12 413 "AlgebraicRealsModel" "low" "I" ∈ w0r := List.mem_append_left _ (List.mem_of_getElem? (i := 233) rfl)
theorem mf_416 : Cond.fieldLink RX12 416 "AlgebraicRealsModel" "high" "I" ∈ w0r := List.mem_append_left _ (List.mem_of_getElem? (i := 234) rfl)
theorem mf_259 : Cond.fieldLink RX12 259 "AlgebraicRealsModel" "partCount" "I" ∈ w0r := List.mem_append_left _ (List.mem_of_getElem? (i := 235) rfl)
theorem mf_192 : Cond.fieldLink RX12 192 "AlgebraicRealsModel" "smalls" "I" ∈ w0r := List.mem_append_left _ (List.mem_of_getElem? (i := 236) rfl)
theorem mf_248 : Cond.fieldLink RX12 248 "AlgebraicRealsModel" "wantsAll" "Z" ∈ w0r := List.mem_append_left _ (List.mem_of_getElem? (i := 237) rfl)
theorem mf_183 : Cond.fieldLink RX12 183 "AlgebraicRealsModel" "toParts" "I" ∈ w0r := List.mem_append_left _ (List.mem_of_getElem? (i := 238) rfl)
theorem mf_222 : Cond.fieldLink RX12 222 "AlgebraicRealsModel" "upper" "I" ∈ w0r := List.mem_append_left _ (List.mem_of_getElem? (i := 239) rfl)
theorem mf_225 : Cond.fieldLink RX12 225 "AlgebraicRealsModel" "lower" "I" ∈ w0r := List.mem_append_left _ (List.mem_of_getElem? (i := 240) rfl)
theorem mc_apply : Cond.code yX12_apply cX12_apply 4 (some .int) ∈ w0r := List.mem_append_left _ (List.mem_of_getElem? (i := 241) rfl)
theorem mc_plain : Cond.code yX12_plain cX12_plain 3 (some .int) ∈ w0r := List.mem_append_left _ (List.mem_of_getElem? (i := 242) rfl)
theorem mj_590 : Cond.constantLong RX12 590 (-8) ∈ w0r := List.mem_append_left _ (List.mem_of_getElem? (i := 243) rfl)
theorem mj_592 : Cond.constantLong RX12 592 (8) ∈ w0r := List.mem_append_left _ (List.mem_of_getElem? (i := 244) rfl)
theorem mc_power : Cond.code yX12_power cX12_power 3 (some .int) ∈ w0r := List.mem_append_left _ (List.mem_of_getElem? (i := 245) rfl)
theorem mj_597 : Cond.constantLong RX12 597 (12) ∈ w0r := List.mem_append_left _ (List.mem_of_getElem? (i := 246) rfl)
theorem mc_root : Cond.code yX12_root cX12_root 3 (some .int) ∈ w0r := List.mem_append_left _ (List.mem_of_getElem? (i := 247) rfl)
theorem mc_beside : Cond.code yX12_beside cX12_beside 3 (some .int) ∈ w0r := List.mem_append_left _ (List.mem_of_getElem? (i := 248) rfl)
theorem ml_617 : Cond.methodLink RX12 617 yX12_isPolynomial ∈ w0r := List.mem_append_left _ (List.mem_of_getElem? (i := 249) rfl)
theorem mi_isPolynomial : Cond.instanceMethod yX12_isPolynomial ∈ w0r := List.mem_append_left _ (List.mem_of_getElem? (i := 250) rfl)
theorem ms_isPolynomial : Cond.selects RX12 yX12_isPolynomial yX12_isPolynomial ∈ w0r := List.mem_append_left _ (List.mem_of_getElem? (i := 251) rfl)
theorem mc_value : Cond.code yX12_value cX12_value 5 (some .int) ∈ w0r := List.mem_append_left _ (List.mem_of_getElem? (i := 252) rfl)
theorem mf_626 : Cond.fieldLink RX12 626 "AlgebraicRealsModel" "rootCount" "I" ∈ w0r := List.mem_append_left _ (List.mem_of_getElem? (i := 253) rfl)
theorem mc_rootOf : Cond.code yX12_rootOf cX12_rootOf 7 (some .int) ∈ w0r := List.mem_append_left _ (List.mem_of_getElem? (i := 254) rfl)
theorem mf_638 : Cond.fieldLink RX12 638 "AlgebraicRealsModel" "apartTimes" "I" ∈ w0r := List.mem_append_left _ (List.mem_of_getElem? (i := 255) rfl)
theorem mc_common : Cond.code yX12_common cX12_common 4 (some .int) ∈ w0r := List.mem_append_left _ (List.mem_of_getElem? (i := 256) rfl)
theorem mc_drop : Cond.code yX12_drop cX12_drop 1 (some .int) ∈ w0r := List.mem_append_left _ (List.mem_of_getElem? (i := 257) rfl)
theorem mc_compare : Cond.code yX12_compare cX12_compare 3 (some .int) ∈ w0r := List.mem_append_left _ (List.mem_of_getElem? (i := 258) rfl)
theorem mc_sign : Cond.code yX12_sign cX12_sign 2 (some .int) ∈ w0r := List.mem_append_left _ (List.mem_of_getElem? (i := 259) rfl)
theorem mc_about : Cond.code yX12_about cX12_about 6 (some .int) ∈ w0r := List.mem_append_left _ (List.mem_of_getElem? (i := 260) rfl)
theorem mc_within : Cond.code yX12_within cX12_within 6 (some .int) ∈ w0r := List.mem_append_left _ (List.mem_of_getElem? (i := 261) rfl)
theorem mc_polynomial : Cond.code yX12_polynomial cX12_polynomial 1 (some .int) ∈ w0r := List.mem_append_left _ (List.mem_of_getElem? (i := 262) rfl)
theorem mc_coefficient : Cond.code yX12_coefficient cX12_coefficient 5 (some .int) ∈ w0r := List.mem_append_left _ (List.mem_of_getElem? (i := 263) rfl)
theorem mc_roots : Cond.code yX12_roots cX12_roots 3 (some .int) ∈ w0r := List.mem_append_left _ (List.mem_of_getElem? (i := 264) rfl)
theorem mc_between : Cond.code yX12_between cX12_between 6 (some .int) ∈ w0r := List.mem_append_left _ (List.mem_of_getElem? (i := 265) rfl)
theorem mf_644 : Cond.fieldLink RX12 644 "AlgebraicRealsModel" "partsTold" "I" ∈ w0r := List.mem_append_left _ (List.mem_of_getElem? (i := 266) rfl)
theorem mc_parts : Cond.code yX12_parts cX12_parts 8 (some .int) ∈ w0r := List.mem_append_left _ (List.mem_of_getElem? (i := 267) rfl)
theorem mc_part : Cond.code yX12_part cX12_part 3 (some .int) ∈ w0r := List.mem_append_left _ (List.mem_of_getElem? (i := 268) rfl)
theorem mj_658 : Cond.constantLong RX12 658 (80) ∈ w0r := List.mem_append_left _ (List.mem_of_getElem? (i := 269) rfl)
theorem mj_660 : Cond.constantLong RX12 660 (10) ∈ w0r := List.mem_append_left _ (List.mem_of_getElem? (i := 270) rfl)
theorem mf_650 : Cond.fieldLink RX12 650 "AlgebraicRealsModel" "writtenSize" "I" ∈ w0r := List.mem_append_left _ (List.mem_of_getElem? (i := 271) rfl)
theorem mf_653 : Cond.fieldLink RX12 653 "AlgebraicRealsModel" "figureCount" "I" ∈ w0r := List.mem_append_left _ (List.mem_of_getElem? (i := 272) rfl)
theorem mj_656 : Cond.constantLong RX12 656 (1000000000) ∈ w0r := List.mem_append_left _ (List.mem_of_getElem? (i := 273) rfl)
theorem mc_write : Cond.code yX12_write cX12_write 6 (some .int) ∈ w0r := List.mem_append_left _ (List.mem_of_getElem? (i := 274) rfl)
theorem mc_writeLeast : Cond.code yX12_writeLeast cX12_writeLeast 2 (some .int) ∈ w0r := List.mem_append_left _ (List.mem_of_getElem? (i := 275) rfl)
theorem mc_writePart : Cond.code yX12_writePart cX12_writePart 2 (some .int) ∈ w0r := List.mem_append_left _ (List.mem_of_getElem? (i := 276) rfl)
theorem mc_at : Cond.code yX12_at cX12_at 2 (some .int) ∈ w0r := List.mem_append_left _ (List.mem_of_getElem? (i := 277) rfl)
theorem mf_671 : Cond.fieldLink RX12 671 "AlgebraicRealsModel" "taped" "I" ∈ w0r := List.mem_append_left _ (List.mem_of_getElem? (i := 278) rfl)
theorem mc_feed : Cond.code yX12_feed cX12_feed 8 (some .int) ∈ w0r := List.mem_append_left _ (List.mem_of_getElem? (i := 279) rfl)
theorem mc_end : Cond.code yX12_end cX12_end 2 none ∈ w0r := List.mem_append_left _ (List.mem_of_getElem? (i := 280) rfl)
theorem mf_674 : Cond.fieldLink RX12 674 "AlgebraicRealsModel" "textSize" "I" ∈ w0r := List.mem_append_left _ (List.mem_of_getElem? (i := 281) rfl)
theorem mf_702 : Cond.fieldLink RX12 702 "AlgebraicRealsModel" "wrong" "Z" ∈ w0r := List.mem_append_left _ (List.mem_of_getElem? (i := 282) rfl)
theorem mf_684 : Cond.fieldLink RX12 684 "AlgebraicRealsModel" "tokenAt" "I" ∈ w0r := List.mem_append_left _ (List.mem_of_getElem? (i := 283) rfl)
theorem ml_735 : Cond.methodLink RX12 735 yX12_readText ∈ w0r := List.mem_append_left _ (List.mem_of_getElem? (i := 284) rfl)
theorem mi_readText : Cond.instanceMethod yX12_readText ∈ w0r := List.mem_append_left _ (List.mem_of_getElem? (i := 285) rfl)
theorem ms_readText : Cond.selects RX12 yX12_readText yX12_readText ∈ w0r := List.mem_append_left _ (List.mem_of_getElem? (i := 286) rfl)
theorem mc_readText : Cond.code yX12_readText cX12_readText 4 none ∈ w0r := List.mem_append_left _ (List.mem_of_getElem? (i := 287) rfl)
theorem mf_687 : Cond.fieldLink RX12 687 "AlgebraicRealsModel" "tokenSize" "I" ∈ w0r := List.mem_append_left _ (List.mem_of_getElem? (i := 288) rfl)
theorem mf_699 : Cond.fieldLink RX12 699 "AlgebraicRealsModel" "actCount" "I" ∈ w0r := List.mem_append_left _ (List.mem_of_getElem? (i := 289) rfl)
theorem mf_708 : Cond.fieldLink RX12 708 "AlgebraicRealsModel" "depth" "I" ∈ w0r := List.mem_append_left _ (List.mem_of_getElem? (i := 290) rfl)
theorem mf_693 : Cond.fieldLink RX12 693 "AlgebraicRealsModel" "token" "I" ∈ w0r := List.mem_append_left _ (List.mem_of_getElem? (i := 291) rfl)
theorem ml_705 : Cond.methodLink RX12 705 yX12_next ∈ w0r := List.mem_append_left _ (List.mem_of_getElem? (i := 292) rfl)
theorem mi_next : Cond.instanceMethod yX12_next ∈ w0r := List.mem_append_left _ (List.mem_of_getElem? (i := 293) rfl)
theorem ms_next : Cond.selects RX12 yX12_next yX12_next ∈ w0r := List.mem_append_left _ (List.mem_of_getElem? (i := 294) rfl)
theorem mc_next : Cond.code yX12_next cX12_next 4 none ∈ w0r := List.mem_append_left _ (List.mem_of_getElem? (i := 295) rfl)
theorem mf_690 : Cond.fieldLink RX12 690 "AlgebraicRealsModel" "tokenValue" "I" ∈ w0r := List.mem_append_left _ (List.mem_of_getElem? (i := 296) rfl)
theorem ml_677 : Cond.methodLink RX12 677 yX12_signAt ∈ w0r := List.mem_append_left _ (List.mem_of_getElem? (i := 297) rfl)
theorem mi_signAt : Cond.instanceMethod yX12_signAt ∈ w0r := List.mem_append_left _ (List.mem_of_getElem? (i := 298) rfl)
theorem ms_signAt : Cond.selects RX12 yX12_signAt yX12_signAt ∈ w0r := List.mem_append_left _ (List.mem_of_getElem? (i := 299) rfl)
theorem mc_signAt : Cond.code yX12_signAt cX12_signAt 2 (some .int) ∈ w0r := List.mem_append_left _ (List.mem_of_getElem? (i := 300) rfl)
theorem ml_696 : Cond.methodLink RX12 696 yX12_isFigure ∈ w0r := List.mem_append_left _ (List.mem_of_getElem? (i := 301) rfl)
theorem mi_isFigure : Cond.instanceMethod yX12_isFigure ∈ w0r := List.mem_append_left _ (List.mem_of_getElem? (i := 302) rfl)
theorem ms_isFigure : Cond.selects RX12 yX12_isFigure yX12_isFigure ∈ w0r := List.mem_append_left _ (List.mem_of_getElem? (i := 303) rfl)
theorem mc_isFigure : Cond.code yX12_isFigure cX12_isFigure 2 (some .boolean) ∈ w0r := List.mem_append_left _ (List.mem_of_getElem? (i := 304) rfl)
theorem mj_680 : Cond.constantLong RX12 680 (48) ∈ w0r := List.mem_append_left _ (List.mem_of_getElem? (i := 305) rfl)
theorem mj_682 : Cond.constantLong RX12 682 (57) ∈ w0r := List.mem_append_left _ (List.mem_of_getElem? (i := 306) rfl)
theorem ml_722 : Cond.methodLink RX12 722 yX12_open ∈ w0r := List.mem_append_left _ (List.mem_of_getElem? (i := 307) rfl)
theorem mi_open : Cond.instanceMethod yX12_open ∈ w0r := List.mem_append_left _ (List.mem_of_getElem? (i := 308) rfl)
theorem ms_open : Cond.selects RX12 yX12_open yX12_open ∈ w0r := List.mem_append_left _ (List.mem_of_getElem? (i := 309) rfl)
theorem mc_open : Cond.code yX12_open cX12_open 3 none ∈ w0r := List.mem_append_left _ (List.mem_of_getElem? (i := 310) rfl)
theorem ml_725 : Cond.methodLink RX12 725 yX12_readAtom ∈ w0r := List.mem_append_left _ (List.mem_of_getElem? (i := 311) rfl)
theorem mi_readAtom : Cond.instanceMethod yX12_readAtom ∈ w0r := List.mem_append_left _ (List.mem_of_getElem? (i := 312) rfl)
theorem ms_readAtom : Cond.selects RX12 yX12_readAtom yX12_readAtom ∈ w0r := List.mem_append_left _ (List.mem_of_getElem? (i := 313) rfl)
theorem mc_readAtom : Cond.code yX12_readAtom cX12_readAtom 5 (some .boolean) ∈ w0r := List.mem_append_left _ (List.mem_of_getElem? (i := 314) rfl)
theorem mk_721 : Cond.constant RX12 721 (999999999) ∈ w0r := List.mem_append_left _ (List.mem_of_getElem? (i := 315) rfl)
theorem mc_read : Cond.code yX12_read cX12_read 2 (some .int) ∈ w0r := List.mem_append_left _ (List.mem_of_getElem? (i := 316) rfl)
theorem w0r_in : ∀ w ∈ u_ws RX12 TX12 81, w ∈ w0r := fun _ h => List.mem_append_right _ h
theorem w0r_good : w0r.all goodWord = true := by decide +kernel
