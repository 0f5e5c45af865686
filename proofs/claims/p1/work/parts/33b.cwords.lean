abbrev w1c : List Cond := [Cond.methodLink RX0 3 objectInit, Cond.instanceMethod objectInit, Cond.code objectInit ⟨#[0xb1]⟩ 1 none, Cond.arrayClass .int, Cond.fieldLink RX0 9 "AlgebraicReals$Big" "d" "[I", Cond.code yX0_init cX0_init 1 none, Cond.fieldLink RX0 13 "AlgebraicReals$Big" "n" "I", Cond.fieldLink RX0 17 "AlgebraicReals$Big" "s" "I", Cond.code yX0_clear cX0_clear 1 none, Cond.constantLong RX0 20 (1073741823), Cond.code yX0_put cX0_put 6 none, Cond.methodLink RX0 22 arraycopyName, Cond.native arraycopyName, Cond.static arraycopyName, Cond.initialized "java/lang/System", Cond.code yX0_copy cX0_copy 2 none, Cond.code yX0_flip cX0_flip 1 none, Cond.code yX0_isOne cX0_isOne 1 (some .boolean), Cond.code yX0_isOdd cX0_isOdd 1 (some .boolean), Cond.code yX0_trim cX0_trim 2 none, Cond.code yX0_size cX0_size 3 (some .int), Cond.code yX0_against cX0_against 3 (some .int), Cond.methodLink RX0 36 Lib.Math.max.name, Cond.static Lib.Math.max.name, Cond.initialized "java/lang/Math", Cond.code Lib.Math.max.name Lib.Math.max.code 2 (some .int), Cond.methodLink RX0 32 yX0_copy, Cond.instanceMethod yX0_copy, Cond.selects RX0 yX0_copy yX0_copy, Cond.initialized RX0, Cond.methodLink RX0 42 yJ7_copyOf_59c91, Cond.static yJ7_copyOf_59c91, Cond.initialized RJ7, Cond.code yJ7_copyOf_59c91 cJ7_copyOf_59c91 3 (some (.array .int)), Cond.methodLink RJ7 316 ⟨"[I", "clone", "()Ljava/lang/Object;"⟩, Cond.sameMethod "[I" "java/lang/Object" "clone" "()Ljava/lang/Object;", Cond.native ⟨"java/lang/Object", "clone", "()Ljava/lang/Object;"⟩, Cond.instanceMethod ⟨"java/lang/Object", "clone", "()Ljava/lang/Object;"⟩, Cond.selects "[I" ⟨"[I", "clone", "()Ljava/lang/Object;"⟩ ⟨"java/lang/Object", "clone", "()Ljava/lang/Object;"⟩, Cond.classLink RJ7 317 "[I", Cond.methodLink RJ7 304 Lib.Math.min.name, Cond.static Lib.Math.min.name, Cond.code Lib.Math.min.name Lib.Math.min.code 2 (some .int), Cond.methodLink RJ7 150 arraycopyName, Cond.methodLink RX0 48 yX0_gather, Cond.instanceMethod yX0_gather, Cond.selects RX0 yX0_gather yX0_gather, Cond.code yX0_gather cX0_gather 9 none, Cond.constant RX0 59 (1073741823), Cond.methodLink RX0 28 yX0_against, Cond.instanceMethod yX0_against, Cond.selects RX0 yX0_against yX0_against, Cond.methodLink RX0 52 yX0_clear, Cond.instanceMethod yX0_clear, Cond.selects RX0 yX0_clear yX0_clear, Cond.methodLink RX0 55 yX0_lessen, Cond.instanceMethod yX0_lessen, Cond.selects RX0 yX0_lessen yX0_lessen, Cond.code yX0_lessen cX0_lessen 8 none, Cond.code yX0_join cX0_join 8 none, Cond.code yX0_grow cX0_grow 2 none, Cond.code yX0_times cX0_times 14 none, Cond.methodLink RX0 67 yX0_trim, Cond.instanceMethod yX0_trim, Cond.selects RX0 yX0_trim yX0_trim, Cond.code yX0_scale cX0_scale 10 none, Cond.code yX0_raise cX0_raise 9 none, Cond.methodLink RX0 64 yX0_grow, Cond.instanceMethod yX0_grow, Cond.selects RX0 yX0_grow yX0_grow, Cond.code yX0_lower cX0_lower 11 none, Cond.methodLink RX0 83 Lib.MathLoose.min_long.x, Cond.static Lib.MathLoose.min_long.x, Cond.code Lib.MathLoose.min_long.x Lib.MathLoose.min_long.code 4 (some .long), Cond.methodLink RX0 71 yX0_size, Cond.instanceMethod yX0_size, Cond.selects RX0 yX0_size yX0_size, Cond.methodLink RX0 75 yX0_raise, Cond.instanceMethod yX0_raise, Cond.selects RX0 yX0_raise yX0_raise, Cond.methodLink RX0 79 yX0_digit, Cond.static yX0_digit, Cond.code yX0_digit cX0_digit 3 (some .int), Cond.methodLink RX0 87 yX0_takes, Cond.instanceMethod yX0_takes, Cond.selects RX0 yX0_takes yX0_takes, Cond.code yX0_takes cX0_takes 16 (some .boolean), Cond.methodLink RX0 91 yX0_restore, Cond.instanceMethod yX0_restore, Cond.selects RX0 yX0_restore yX0_restore, Cond.code yX0_restore cX0_restore 9 none, Cond.code yX0_rest cX0_rest 22 none, Cond.methodLink RX4 1 objectInit, Cond.classLink RX4 9 RX0, Cond.fieldLink RX4 11 "AlgebraicReals$Poly" "c" "[LAlgebraicReals$Big;", Cond.fieldLink RX4 15 "AlgebraicReals$Poly" "deg" "I", Cond.instantiable RX0 3, Cond.instanceMethod yX0_init, Cond.code yX4_init cX4_init 2 none, Cond.methodLink RX4 20 yX0_copy, Cond.code yX4_copy cX4_copy 3 none, Cond.methodLink RX4 24 Lib.Math.min.name, Cond.fieldLink RX4 30 "AlgebraicReals$Big" "s" "I", Cond.code yX4_trim cX4_trim 2 none, Cond.methodLink RX4 33 Lib.Math.max.name, Cond.code yX4_lead cX4_lead 1 (some (.object "AlgebraicReals$Big")), Cond.methodLink RX4 55 yX0_clear, Cond.methodLink RX4 58 yX0_put, Cond.instanceMethod yX0_put, Cond.selects RX0 yX0_put yX0_put, Cond.code yX4_monomial cX4_monomial 3 none, Cond.methodLink RX9 3 objectInit, Cond.classLink RX9 9 RX0, Cond.fieldLink RX9 12 "AlgebraicReals$Tools" "a" "LAlgebraicReals$Big;", Cond.fieldLink RX9 18 "AlgebraicReals$Tools" "b" "LAlgebraicReals$Big;", Cond.fieldLink RX9 21 "AlgebraicReals$Tools" "q" "LAlgebraicReals$Big;", Cond.fieldLink RX9 24 "AlgebraicReals$Tools" "t" "LAlgebraicReals$Big;", Cond.fieldLink RX9 27 "AlgebraicReals$Tools" "u" "LAlgebraicReals$Big;", Cond.classLink RX9 30 RX4, Cond.instantiable RX4 2, Cond.initialized RX4, Cond.fieldLink RX9 33 "AlgebraicReals$Tools" "work" "LAlgebraicReals$Poly;", Cond.fieldLink RX9 37 "AlgebraicReals$Tools" "more" "[I", Cond.methodLink RX9 32 yX4_init, Cond.instanceMethod yX4_init, Cond.code yX9_init cX9_init 1 none, Cond.fieldLink RX9 59 "AlgebraicReals$Poly" "deg" "I", Cond.fieldLink RX9 74 "AlgebraicReals$Poly" "c" "[LAlgebraicReals$Big;", Cond.constant RX9 78 (1000000), Cond.fieldLink RX9 79 "AlgebraicReals$Big" "s" "I", Cond.fieldLink RX9 82 "AlgebraicReals$Big" "n" "I", Cond.methodLink RX9 62 yX4_lead, Cond.instanceMethod yX4_lead, Cond.selects RX4 yX4_lead yX4_lead, Cond.methodLink RX9 66 yX0_copy, Cond.methodLink RX9 70 yX0_isOne, Cond.instanceMethod yX0_isOne, Cond.selects RX0 yX0_isOne yX0_isOne, Cond.methodLink RX9 85 yX9_low, Cond.static yX9_low, Cond.initialized RX9, Cond.code yX9_low cX9_low 1 (some .long), Cond.fieldLink RX9 104 "AlgebraicReals$Big" "d" "[I", Cond.methodLink RX9 89 yX9_shared, Cond.static yX9_shared, Cond.code yX9_shared cX9_shared 7 (some .long), Cond.methodLink RX9 93 yX0_put, Cond.methodLink RX9 97 yX0_rest, Cond.instanceMethod yX0_rest, Cond.selects RX0 yX0_rest yX0_rest, Cond.methodLink RX9 101 yX0_flip, Cond.instanceMethod yX0_flip, Cond.selects RX0 yX0_flip yX0_flip, Cond.code yX9_tidy cX9_tidy 8 none, Cond.methodLink RX9 107 yX0_scale, Cond.instanceMethod yX0_scale, Cond.selects RX0 yX0_scale yX0_scale, Cond.code yX9_slope cX9_slope 5 none, Cond.methodLink RX9 114 yX0_times, Cond.instanceMethod yX0_times, Cond.selects RX0 yX0_times yX0_times, Cond.methodLink RX9 118 yX0_join, Cond.instanceMethod yX0_join, Cond.selects RX0 yX0_join yX0_join, Cond.methodLink RX9 122 yX4_trim, Cond.instanceMethod yX4_trim, Cond.selects RX4 yX4_trim yX4_trim, Cond.code yX9_leave cX9_leave 7 (some .boolean), Cond.methodLink RX9 126 yX0_clear, Cond.methodLink RX9 129 yX0_raise, Cond.code yX9_eval cX9_eval 7 none, Cond.methodLink RX6 1 objectInit, Cond.arrayClass .long, Cond.fieldLink RX6 7 "AlgebraicReals$Row" "c" "[J", Cond.fieldLink RX6 13 "AlgebraicReals$Row" "deg" "I", Cond.code yX6_init cX6_init 1 none, Cond.methodLink RX6 17 Lib.Math.abs.name, Cond.static Lib.Math.abs.name, Cond.code Lib.Math.abs.name Lib.Math.abs.code 1 (some .int), Cond.code yX6_shared cX6_shared 4 (some .int), Cond.methodLink RX6 23 yX6_shared, Cond.static yX6_shared, Cond.initialized RX6, Cond.code yX6_units cX6_units 4 (some .int), Cond.methodLink RX2 3 objectInit, Cond.classLink RX2 9 RX4, Cond.fieldLink RX2 12 "AlgebraicReals$Norms" "left" "LAlgebraicReals$Poly;", Cond.fieldLink RX2 18 "AlgebraicReals$Norms" "right" "LAlgebraicReals$Poly;", Cond.fieldLink RX2 21 "AlgebraicReals$Norms" "made" "LAlgebraicReals$Poly;", Cond.fieldLink RX2 24 "AlgebraicReals$Norms" "all" "LAlgebraicReals$Poly;", Cond.fieldLink RX2 27 "AlgebraicReals$Norms" "repeated" "LAlgebraicReals$Poly;", Cond.classLink RX2 30 RX6, Cond.instantiable RX6 2, Cond.fieldLink RX2 33 "AlgebraicReals$Norms" "p" "LAlgebraicReals$Row;", Cond.fieldLink RX2 37 "AlgebraicReals$Norms" "q" "LAlgebraicReals$Row;", Cond.fieldLink RX2 40 "AlgebraicReals$Norms" "\x72" "LAlgebraicReals$Row;", Cond.fieldLink RX2 43 "AlgebraicReals$Norms" "g" "LAlgebraicReals$Row;", Cond.fieldLink RX2 46 "AlgebraicReals$Norms" "h" "LAlgebraicReals$Row;", Cond.fieldLink RX2 49 "AlgebraicReals$Norms" "sumsOfP" "[J", Cond.fieldLink RX2 53 "AlgebraicReals$Norms" "sumsOfQ" "[J", Cond.fieldLink RX2 56 "AlgebraicReals$Norms" "sums" "[J", Cond.classLink RX2 59 RX0, Cond.fieldLink RX2 62 "AlgebraicReals$Norms" "product" "LAlgebraicReals$Big;", Cond.fieldLink RX2 66 "AlgebraicReals$Norms" "t" "LAlgebraicReals$Big;", Cond.fieldLink RX2 69 "AlgebraicReals$Norms" "tools" "LAlgebraicReals$Tools;", Cond.methodLink RX2 11 yX4_init, Cond.instanceMethod yX6_init, Cond.code yX2_init cX2_init 2 none, Cond.fieldLink RX2 136 "AlgebraicReals$Poly" "c" "[LAlgebraicReals$Big;", Cond.constantLong RX2 237 (-1), Cond.constantLong RX2 242 (2), Cond.fieldLink RX2 77 "AlgebraicReals$Poly" "deg" "I", Cond.methodLink RX2 231 yJ7_fill_d0a16, Cond.static yJ7_fill_d0a16, Cond.code yJ7_fill_d0a16 cJ7_fill_d0a16 5 none, Cond.methodLink RX2 93 yX4_monomial, Cond.instanceMethod yX4_monomial, Cond.selects RX4 yX4_monomial yX4_monomial, Cond.methodLink RX2 114 yX0_put, Cond.methodLink RX2 239 yX2_square, Cond.static yX2_square, Cond.initialized RX2, Cond.code yX2_square cX2_square 3 (some .int), Cond.methodLink RX2 101 yX9_tidy, Cond.instanceMethod yX9_tidy, Cond.selects RX9 yX9_tidy yX9_tidy, Cond.code yX2_cosines cX2_cosines 10 none, Cond.methodLink RX7 1 objectInit, Cond.classLink RX7 7 RX4, Cond.fieldLink RX7 9 "AlgebraicReals$Sturm" "chain" "[LAlgebraicReals$Poly;", Cond.classLink RX7 15 RX0, Cond.fieldLink RX7 18 "AlgebraicReals$Sturm" "g" "LAlgebraicReals$Big;", Cond.fieldLink RX7 22 "AlgebraicReals$Sturm" "h" "LAlgebraicReals$Big;", Cond.fieldLink RX7 25 "AlgebraicReals$Sturm" "q" "LAlgebraicReals$Big;", Cond.fieldLink RX7 28 "AlgebraicReals$Sturm" "t" "LAlgebraicReals$Big;", Cond.fieldLink RX7 31 "AlgebraicReals$Sturm" "u" "LAlgebraicReals$Big;", Cond.fieldLink RX7 34 "AlgebraicReals$Sturm" "tools" "LAlgebraicReals$Tools;", Cond.methodLink RX7 38 yX4_init, Cond.code yX7_init cX7_init 3 none, Cond.fieldLink RX7 49 "AlgebraicReals$Poly" "deg" "I", Cond.fieldLink RX7 53 "AlgebraicReals$Sturm" "length" "I", Cond.fieldLink RX7 68 "AlgebraicReals$Poly" "c" "[LAlgebraicReals$Big;", Cond.fieldLink RX7 94 "AlgebraicReals$Sturm" "lowest" "I", Cond.fieldLink RX7 97 "AlgebraicReals$Sturm" "count" "I", Cond.methodLink RX7 39 yX4_copy, Cond.instanceMethod yX4_copy, Cond.selects RX4 yX4_copy yX4_copy, Cond.methodLink RX7 43 yX9_slope, Cond.instanceMethod yX9_slope, Cond.selects RX9 yX9_slope yX9_slope, Cond.methodLink RX7 56 yX0_put, Cond.methodLink RX7 60 yX9_leave, Cond.instanceMethod yX9_leave, Cond.selects RX9 yX9_leave yX9_leave, Cond.methodLink RX7 64 yX7_multiply, Cond.instanceMethod yX7_multiply, Cond.selects RX7 yX7_multiply yX7_multiply, Cond.initialized RX7, Cond.code yX7_multiply cX7_multiply 5 none, Cond.methodLink RX7 72 yX0_copy, Cond.methodLink RX7 100 yX0_times, Cond.methodLink RX7 75 yX0_rest, Cond.methodLink RX7 79 yX0_flip, Cond.methodLink RX7 82 yX4_lead, Cond.methodLink RX7 86 yX7_advance, Cond.instanceMethod yX7_advance, Cond.selects RX7 yX7_advance yX7_advance, Cond.code yX7_advance cX7_advance 3 none, Cond.fieldLink RX7 104 "AlgebraicReals$Big" "s" "I", Cond.methodLink RX7 107 Lib.Math.abs.name, Cond.methodLink RX7 90 yX7_changesFar, Cond.instanceMethod yX7_changesFar, Cond.selects RX7 yX7_changesFar yX7_changesFar, Cond.code yX7_changesFar cX7_changesFar 6 (some .int), Cond.code yX7_build cX7_build 7 none, Cond.methodLink RX7 113 yX9_eval, Cond.instanceMethod yX9_eval, Cond.selects RX9 yX9_eval yX9_eval, Cond.code yX7_upTo cX7_upTo 7 (some .int), Cond.methodLink RX7 125 Lib.Math.max.name, Cond.constant RX7 131 (100000), Cond.methodLink RX7 117 yX0_size, Cond.methodLink RX7 121 yJ9_floorDiv_7cf53, Cond.static yJ9_floorDiv_7cf53, Cond.initialized RJ9, Cond.code yJ9_floorDiv_7cf53 cJ9_floorDiv_7cf53 3 (some .int), Cond.methodLink RX7 128 yX0_raise, Cond.methodLink RX7 132 yX0_join, Cond.methodLink RX7 135 yX0_isOdd, Cond.instanceMethod yX0_isOdd, Cond.selects RX0 yX0_isOdd yX0_isOdd, Cond.methodLink RX7 139 yX0_lower, Cond.instanceMethod yX0_lower, Cond.selects RX0 yX0_lower yX0_lower, Cond.methodLink RX7 143 yX7_upTo, Cond.instanceMethod yX7_upTo, Cond.selects RX7 yX7_upTo yX7_upTo, Cond.code yX7_locate cX7_locate 11 (some .int), Cond.methodLink RX5 1 objectInit, Cond.classLink RX5 7 RX4, Cond.fieldLink RX5 10 "AlgebraicReals$Real" "least" "LAlgebraicReals$Poly;", Cond.classLink RX5 16 RX0, Cond.fieldLink RX5 19 "AlgebraicReals$Real" "lo" "LAlgebraicReals$Big;", Cond.fieldLink RX5 23 "AlgebraicReals$Real" "hi" "LAlgebraicReals$Big;", Cond.methodLink RX5 9 yX4_init, Cond.code yX5_init cX5_init 1 none, Cond.fieldLink RX5 37 "AlgebraicReals$Real" "place" "I", Cond.fieldLink RX5 40 "AlgebraicReals$Real" "count" "I", Cond.fieldLink RX5 46 "AlgebraicReals$Poly" "c" "[LAlgebraicReals$Big;", Cond.fieldLink RX5 50 "AlgebraicReals$Big" "s" "I", Cond.fieldLink RX5 43 "AlgebraicReals$Real" "side" "I", Cond.code yX5_single cX5_single 1 none, Cond.methodLink RX8 3 objectInit, Cond.fieldLink RX8 9 "AlgebraicReals$Texts" "tape" "[I", Cond.fieldLink RX8 15 "AlgebraicReals$Texts" "written" "[I", Cond.fieldLink RX8 18 "AlgebraicReals$Texts" "kinds" "[I", Cond.fieldLink RX8 21 "AlgebraicReals$Texts" "firsts" "[I", Cond.fieldLink RX8 24 "AlgebraicReals$Texts" "seconds" "[I", Cond.classLink RX8 27 RX0, Cond.fieldLink RX8 30 "AlgebraicReals$Texts" "t" "LAlgebraicReals$Big;", Cond.code yX8_init cX8_init 1 none, Cond.fieldLink RX8 34 "AlgebraicReals$Texts" "size" "I", Cond.code yX8_take cX8_take 3 none, Cond.fieldLink RX8 38 "AlgebraicReals$Texts" "handles" "I", Cond.fieldLink RX8 41 "AlgebraicReals$Texts" "position" "I", Cond.fieldLink RX8 44 "AlgebraicReals$Texts" "steps" "I", Cond.fieldLink RX8 47 "AlgebraicReals$Texts" "wrong" "I", Cond.fieldLink RX8 57 "AlgebraicReals$Texts" "token" "I", Cond.methodLink RX8 50 yX8_advance, Cond.instanceMethod yX8_advance, Cond.selects RX8 yX8_advance yX8_advance, Cond.initialized RX8, Cond.code yX8_advance cX8_advance 2 none, Cond.fieldLink RX8 64 "AlgebraicReals$Texts" "place" "I", Cond.fieldLink RX8 70 "AlgebraicReals$Texts" "numbe\x72" "I", Cond.methodLink RX8 53 yX8_sum, Cond.instanceMethod yX8_sum, Cond.selects RX8 yX8_sum yX8_sum, Cond.code yX8_sum cX8_sum 5 (some .boolean), Cond.methodLink RX8 76 yX8_minus, Cond.instanceMethod yX8_minus, Cond.selects RX8 yX8_minus yX8_minus, Cond.code yX8_minus cX8_minus 1 (some .boolean), Cond.methodLink RX8 79 yX8_product, Cond.instanceMethod yX8_product, Cond.selects RX8 yX8_product yX8_product, Cond.code yX8_atom cX8_atom 2 (some .boolean), Cond.methodLink RX8 60 yX8_refuse, Cond.instanceMethod yX8_refuse, Cond.selects RX8 yX8_refuse yX8_refuse, Cond.code yX8_refuse cX8_refuse 1 (some .boolean), Cond.constant RX8 106 (999999999), Cond.code yX8_product cX8_product 4 (some .boolean), Cond.methodLink RX8 86 yX8_raised, Cond.instanceMethod yX8_raised, Cond.selects RX8 yX8_raised yX8_raised, Cond.code yX8_raised cX8_raised 3 (some .boolean), Cond.methodLink RX8 89 yX8_atom, Cond.instanceMethod yX8_atom, Cond.selects RX8 yX8_atom yX8_atom, Cond.code yX8_parse cX8_parse 2 (some .int), Cond.methodLink RX1 3 objectInit, Cond.classLink RX1 9 RX6, Cond.fieldLink RX1 11 "AlgebraicReals$Cutte\x72" "factors" "[LAlgebraicReals$Row;", Cond.fieldLink RX1 18 "AlgebraicReals$Cutte\x72" "f" "LAlgebraicReals$Row;", Cond.fieldLink RX1 22 "AlgebraicReals$Cutte\x72" "g" "LAlgebraicReals$Row;", Cond.fieldLink RX1 25 "AlgebraicReals$Cutte\x72" "h" "LAlgebraicReals$Row;", Cond.fieldLink RX1 28 "AlgebraicReals$Cutte\x72" "v" "LAlgebraicReals$Row;", Cond.fieldLink RX1 31 "AlgebraicReals$Cutte\x72" "w" "LAlgebraicReals$Row;", Cond.classLink RX1 36 "[[J", Cond.fieldLink RX1 38 "AlgebraicReals$Cutte\x72" "grid" "[[J", Cond.fieldLink RX1 41 "AlgebraicReals$Cutte\x72" "pivots" "[I", Cond.code yX1_init cX1_init 2 none, Cond.methodLink RX3 3 objectInit, Cond.classLink RX3 9 RX4, Cond.fieldLink RX3 11 "AlgebraicReals$Parte\x72" "found" "[LAlgebraicReals$Poly;", Cond.classLink RX3 17 RX1, Cond.instantiable RX1 9, Cond.initialized RX1, Cond.fieldLink RX3 20 "AlgebraicReals$Parte\x72" "cutte\x72" "LAlgebraicReals$Cutter;", Cond.fieldLink RX3 25 "AlgebraicReals$Parte\x72" "rest" "LAlgebraicReals$Poly;", Cond.fieldLink RX3 29 "AlgebraicReals$Parte\x72" "made" "LAlgebraicReals$Poly;", Cond.fieldLink RX3 32 "AlgebraicReals$Parte\x72" "othe\x72" "LAlgebraicReals$Poly;", Cond.classLink RX3 35 RX6, Cond.fieldLink RX3 38 "AlgebraicReals$Parte\x72" "f" "LAlgebraicReals$Row;", Cond.fieldLink RX3 42 "AlgebraicReals$Parte\x72" "g" "LAlgebraicReals$Row;", Cond.fieldLink RX3 45 "AlgebraicReals$Parte\x72" "h" "LAlgebraicReals$Row;", Cond.fieldLink RX3 48 "AlgebraicReals$Parte\x72" "v" "LAlgebraicReals$Row;", Cond.fieldLink RX3 51 "AlgebraicReals$Parte\x72" "w" "LAlgebraicReals$Row;", Cond.fieldLink RX3 54 "AlgebraicReals$Parte\x72" "shares" "[LAlgebraicReals$Row;", Cond.fieldLink RX3 58 "AlgebraicReals$Parte\x72" "lifted" "[LAlgebraicReals$Poly;", Cond.classLink RX3 61 RX0, Cond.fieldLink RX3 64 "AlgebraicReals$Parte\x72" "low" "LAlgebraicReals$Big;", Cond.fieldLink RX3 68 "AlgebraicReals$Parte\x72" "high" "LAlgebraicReals$Big;", Cond.fieldLink RX3 71 "AlgebraicReals$Parte\x72" "t" "LAlgebraicReals$Big;", Cond.fieldLink RX3 74 "AlgebraicReals$Parte\x72" "u" "LAlgebraicReals$Big;", Cond.fieldLink RX3 77 "AlgebraicReals$Parte\x72" "sum" "LAlgebraicReals$Big;", Cond.fieldLink RX3 80 "AlgebraicReals$Parte\x72" "tools" "LAlgebraicReals$Tools;", Cond.methodLink RX3 19 yX1_init, Cond.instanceMethod yX1_init, Cond.methodLink RX3 24 yX4_init, Cond.code yX3_init cX3_init 3 none, Cond.methodLink RX10 1 objectInit, Cond.fieldLink RX10 13 "AlgebraicReals$Zones" "x" "[LAlgebraicReals$Big;", Cond.fieldLink RX10 17 "AlgebraicReals$Zones" "y" "[LAlgebraicReals$Big;", Cond.fieldLink RX10 20 "AlgebraicReals$Zones" "z" "[LAlgebraicReals$Big;", Cond.fieldLink RX10 23 "AlgebraicReals$Zones" "work" "[LAlgebraicReals$Big;", Cond.classLink RX10 26 RX0, Cond.fieldLink RX10 29 "AlgebraicReals$Zones" "t" "[LAlgebraicReals$Big;", Cond.fieldLink RX10 32 "AlgebraicReals$Zones" "width" "LAlgebraicReals$Big;", Cond.fieldLink RX10 36 "AlgebraicReals$Zones" "part" "LAlgebraicReals$Big;", Cond.fieldLink RX10 39 "AlgebraicReals$Zones" "mid" "LAlgebraicReals$Big;", Cond.fieldLink RX10 42 "AlgebraicReals$Zones" "othe\x72" "LAlgebraicReals$Big;", Cond.fieldLink RX10 45 "AlgebraicReals$Zones" "atLo" "LAlgebraicReals$Big;", Cond.fieldLink RX10 48 "AlgebraicReals$Zones" "atHi" "LAlgebraicReals$Big;", Cond.fieldLink RX10 51 "AlgebraicReals$Zones" "atMid" "LAlgebraicReals$Big;", Cond.fieldLink RX10 54 "AlgebraicReals$Zones" "atOthe\x72" "LAlgebraicReals$Big;", Cond.fieldLink RX10 57 "AlgebraicReals$Zones" "tools" "LAlgebraicReals$Tools;", Cond.methodLink RX10 7 yX10_pair, Cond.static yX10_pair, Cond.initialized RX10, Cond.code yX10_pair cX10_pair 0 (some (.array (.object "AlgebraicReals$Big"))), Cond.code yX10_init cX10_init 2 none, Cond.methodLink RX11 1 objectInit, Cond.classLink RX11 9 RX5, Cond.fieldLink RX11 11 "AlgebraicReals" "numbers" "[LAlgebraicReals$Real;", Cond.classLink RX11 15 RX4, Cond.fieldLink RX11 17 "AlgebraicReals" "told" "[LAlgebraicReals$Poly;", Cond.fieldLink RX11 21 "AlgebraicReals" "pieces" "[LAlgebraicReals$Poly;", Cond.fieldLink RX11 24 "AlgebraicReals" "times" "[I", Cond.instantiable RX5 7, Cond.initialized RX5, Cond.fieldLink RX11 29 "AlgebraicReals" "fresh" "LAlgebraicReals$Real;", Cond.fieldLink RX11 33 "AlgebraicReals" "stack" "[LAlgebraicReals$Real;", Cond.classLink RX11 36 RX9, Cond.instantiable RX9 8, Cond.fieldLink RX11 39 "AlgebraicReals" "tools" "LAlgebraicReals$Tools;", Cond.classLink RX11 43 RX2, Cond.instantiable RX2 19, Cond.fieldLink RX11 48 "AlgebraicReals" "norms" "LAlgebraicReals$Norms;", Cond.classLink RX11 52 RX3, Cond.instantiable RX3 19, Cond.initialized RX3, Cond.fieldLink RX11 55 "AlgebraicReals" "parte\x72" "LAlgebraicReals$Parter;", Cond.classLink RX11 59 RX7, Cond.instantiable RX7 10, Cond.fieldLink RX11 62 "AlgebraicReals" "sturm" "LAlgebraicReals$Sturm;", Cond.classLink RX11 66 RX10, Cond.instantiable RX10 21, Cond.fieldLink RX11 69 "AlgebraicReals" "zones" "LAlgebraicReals$Zones;", Cond.classLink RX11 73 RX8, Cond.instantiable RX8 15, Cond.fieldLink RX11 76 "AlgebraicReals" "texts" "LAlgebraicReals$Texts;", Cond.classLink RX11 80 RX0, Cond.fieldLink RX11 83 "AlgebraicReals" "u" "LAlgebraicReals$Big;", Cond.fieldLink RX11 87 "AlgebraicReals" "v" "LAlgebraicReals$Big;", Cond.fieldLink RX11 90 "AlgebraicReals" "w" "LAlgebraicReals$Big;", Cond.fieldLink RX11 93 "AlgebraicReals" "scale" "LAlgebraicReals$Big;", Cond.methodLink RX11 96 Lib.Math.min.name, Cond.methodLink RX11 102 Lib.Math.max.name, Cond.fieldLink RX11 105 "AlgebraicReals" "most" "I", Cond.instanceMethod yX5_init, Cond.instanceMethod yX9_init, Cond.methodLink RX11 45 yX2_init, Cond.instanceMethod yX2_init, Cond.methodLink RX11 54 yX3_init, Cond.instanceMethod yX3_init, Cond.methodLink RX11 61 yX7_init, Cond.instanceMethod yX7_init, Cond.methodLink RX11 68 yX10_init, Cond.instanceMethod yX10_init, Cond.instanceMethod yX8_init, Cond.code yX11_init cX11_init 2 none, Cond.classLink RX11 109 "java/lang/ArithmeticException", Cond.initialized "java/lang/ArithmeticException", Cond.methodLink RX11 112 yX11_ratio, Cond.instanceMethod yX11_ratio, Cond.selects RX11 yX11_ratio yX11_ratio, Cond.initialized RX11, Cond.code yX11_ratio cX11_ratio 6 none, Cond.fieldLink RX11 168 "AlgebraicReals$Real" "least" "LAlgebraicReals$Poly;", Cond.fieldLink RX11 243 "AlgebraicReals$Poly" "c" "[LAlgebraicReals$Big;", Cond.fieldLink RX11 191 "AlgebraicReals$Poly" "deg" "I", Cond.methodLink RX11 277 yX0_put, Cond.methodLink RX11 306 yX0_flip, Cond.methodLink RX11 365 yX9_tidy, Cond.methodLink RX11 368 yX5_single, Cond.instanceMethod yX5_single, Cond.selects RX5 yX5_single yX5_single, Cond.methodLink RX11 116 yX11_keep, Cond.instanceMethod yX11_keep, Cond.selects RX11 yX11_keep yX11_keep, Cond.code yX11_keep cX11_keep 2 (some .int), Cond.fieldLink RX11 208 "AlgebraicReals" "count" "I", Cond.code yX11_fraction cX11_fraction 5 (some .int), Cond.methodLink RX11 120 yX11_isNone, Cond.instanceMethod yX11_isNone, Cond.selects RX11 yX11_isNone yX11_isNone, Cond.code yX11_isNone cX11_isNone 2 (some .boolean), Cond.fieldLink RX11 135 "AlgebraicReals$Real" "side" "I", Cond.fieldLink RX11 178 "AlgebraicReals$Norms" "left" "LAlgebraicReals$Poly;", Cond.fieldLink RX11 184 "AlgebraicReals$Zones" "a" "LAlgebraicReals$Real;", Cond.fieldLink RX11 371 "AlgebraicReals$Zones" "b" "LAlgebraicReals$Real;", Cond.fieldLink RX11 187 "AlgebraicReals$Zones" "ove\x72" "Z", Cond.fieldLink RX11 374 "AlgebraicReals$Zones" "facto\x72" "I", Cond.fieldLink RX11 377 "AlgebraicReals$Zones" "kind" "I", Cond.fieldLink RX11 181 "AlgebraicReals$Norms" "right" "LAlgebraicReals$Poly;", Cond.fieldLink RX11 197 "AlgebraicReals$Norms" "made" "LAlgebraicReals$Poly;", Cond.methodLink RX11 172 yX4_copy, Cond.methodLink RX4 44 Lib.Math.abs.name, Cond.methodLink RX4 48 yX0_scale, Cond.methodLink RX4 52 yX0_flip, Cond.fieldLink RX2 73 "AlgebraicReals$Norms" "kind" "I", Cond.methodLink RX2 80 Lib.Math.min.name, Cond.fieldLink RX2 86 "AlgebraicReals$Norms" "whole" "I", Cond.methodLink RX2 133 Lib.Math.max.name, Cond.methodLink RX4 36 yX0_size, Cond.fieldLink RX2 132 "AlgebraicReals$Row" "deg" "I", Cond.fieldLink RX2 143 "AlgebraicReals$Norms" "lead" "J", Cond.methodLink RX2 118 yX0_size, Cond.fieldLink RX9 50 "AlgebraicReals$Tools" "found" "I", Cond.constant RX9 54 (1040000000), Cond.methodLink RX9 44 yJ7_copyOf_59c91, Cond.fieldLink RX2 180 "AlgebraicReals$Row" "c" "[J", Cond.fieldLink RX6 27 "AlgebraicReals$Poly" "deg" "I", Cond.fieldLink RX6 30 "AlgebraicReals$Poly" "c" "[LAlgebraicReals$Big;", Cond.methodLink RX6 51 Lib.Math.max.name, Cond.methodLink RX6 54 Lib.Math.min.name, Cond.methodLink RX2 140 yX0_clear, Cond.methodLink RX2 228 yX0_scale, Cond.methodLink RX2 163 yX0_join, Cond.methodLink RX2 155 yX0_raise, Cond.methodLink RX2 107 yX4_copy, Cond.methodLink RX9 111 yX4_copy, Cond.methodLink RX2 170 yX9_slope, Cond.fieldLink RX3 84 "AlgebraicReals$Parte\x72" "size" "I", Cond.methodLink RX3 88 yX4_copy, Cond.fieldLink RX3 92 "AlgebraicReals$Poly" "deg" "I", Cond.fieldLink RX3 105 "AlgebraicReals$Cutte\x72" "pieces" "I", Cond.fieldLink RX3 115 "AlgebraicReals$Cutte\x72" "factors" "[LAlgebraicReals$Row;", Cond.fieldLink RX3 118 "AlgebraicReals$Row" "deg" "I", Cond.fieldLink RX3 119 "AlgebraicReals$Poly" "c" "[LAlgebraicReals$Big;", Cond.fieldLink RX3 123 "AlgebraicReals$Row" "c" "[J", Cond.fieldLink RX1 49 "AlgebraicReals$Row" "deg" "I", Cond.fieldLink RX1 53 "AlgebraicReals$Poly" "deg" "I", Cond.fieldLink RX1 69 "AlgebraicReals$Row" "c" "[J", Cond.fieldLink RX1 91 "AlgebraicReals$Cutte\x72" "pieces" "I", Cond.constant RX1 98 (2097152), Cond.constantLong RX1 103 (2), Cond.methodLink RX3 126 yX0_put, Cond.methodLink RX3 133 yX0_size, Cond.methodLink RX3 170 yX4_lead, Cond.methodLink RX3 178 yX0_scale, Cond.methodLink RX3 202 Lib.Math.min.name, Cond.methodLink RX3 211 Lib.Math.max.name, Cond.methodLink RX3 193 yX0_rest, Cond.methodLink RX3 208 yX0_clear, Cond.methodLink RX3 214 yX0_times, Cond.methodLink RX3 185 yX0_join, Cond.methodLink RX0 95 yX0_rest, Cond.methodLink RX0 60 yX0_put, Cond.methodLink RX0 102 yX0_join, Cond.methodLink RX3 199 yX0_copy, Cond.initialized RJ6, Cond.constant RJ6 265 (1431655765), Cond.constant RJ6 266 (858993459), Cond.constant RJ6 267 (252645135), Cond.fieldLink RX3 242 "AlgebraicReals$Big" "s" "I", Cond.methodLink RX3 226 yX0_raise, Cond.methodLink RX3 234 yX4_trim, Cond.methodLink RX3 235 yX9_tidy, Cond.fieldLink RX11 294 "AlgebraicReals$Parte\x72" "size" "I", Cond.fieldLink RX11 440 "AlgebraicReals$Zones" "e" "I", Cond.fieldLink RX11 257 "AlgebraicReals$Zones" "x" "[LAlgebraicReals$Big;", Cond.fieldLink RX11 264 "AlgebraicReals$Zones" "y" "[LAlgebraicReals$Big;", Cond.fieldLink RX11 270 "AlgebraicReals$Parte\x72" "found" "[LAlgebraicReals$Poly;", Cond.fieldLink RX10 114 "AlgebraicReals$Real" "least" "LAlgebraicReals$Poly;", Cond.fieldLink RX10 119 "AlgebraicReals$Poly" "deg" "I", Cond.fieldLink RX10 124 "AlgebraicReals$Poly" "c" "[LAlgebraicReals$Big;", Cond.fieldLink RX10 111 "AlgebraicReals$Big" "s" "I", Cond.fieldLink RX10 145 "AlgebraicReals$Real" "lo" "LAlgebraicReals$Big;", Cond.fieldLink RX10 148 "AlgebraicReals$Real" "e" "I", Cond.fieldLink RX10 153 "AlgebraicReals$Real" "hi" "LAlgebraicReals$Big;", Cond.methodLink RX10 127 yX0_raise, Cond.methodLink RX10 131 yX0_flip, Cond.methodLink RX10 86 yX0_copy, Cond.constant RX10 181 (100000), Cond.methodLink RX10 182 Lib.Math.min.name, Cond.methodLink RX10 186 Lib.Math.max.name, Cond.methodLink RX10 103 yX0_join, Cond.methodLink RX10 177 yX0_size, Cond.methodLink RX10 171 yX9_eval, Cond.methodLink RX10 149 yX0_lower, Cond.methodLink RX10 189 yX0_rest, Cond.methodLink RX10 156 yX0_put, Cond.methodLink RX10 160 yX0_times, Cond.fieldLink RX10 61 "AlgebraicReals$Zones" "e" "I", Cond.fieldLink RX10 65 "AlgebraicReals$Zones" "kind" "I", Cond.fieldLink RX10 70 "AlgebraicReals$Zones" "ove\x72" "Z", Cond.fieldLink RX10 78 "AlgebraicReals$Zones" "f" "LAlgebraicReals$Poly;", Cond.fieldLink RX10 90 "AlgebraicReals$Zones" "facto\x72" "I", Cond.methodLink RX10 93 Lib.Math.abs.name, Cond.methodLink RX10 168 yX0_clear, Cond.methodLink RX10 99 yX0_scale, Cond.fieldLink RX11 449 "AlgebraicReals$Zones" "z" "[LAlgebraicReals$Big;", Cond.fieldLink RX11 328 "AlgebraicReals$Real" "lo" "LAlgebraicReals$Big;", Cond.fieldLink RX11 318 "AlgebraicReals$Real" "hi" "LAlgebraicReals$Big;", Cond.fieldLink RX11 321 "AlgebraicReals$Real" "e" "I", Cond.methodLink RX11 200 yX7_build, Cond.instanceMethod yX7_build, Cond.selects RX7 yX7_build yX7_build, Cond.methodLink RX11 426 yX7_upTo, Cond.methodLink RX11 452 yX0_copy, Cond.methodLink RX11 423 yX11_finish, Cond.instanceMethod yX11_finish, Cond.selects RX11 yX11_finish yX11_finish, Cond.code yX11_finish cX11_finish 1 none, Cond.fieldLink RX11 203 "AlgebraicReals$Sturm" "count" "I", Cond.fieldLink RX11 158 "AlgebraicReals$Real" "count" "I", Cond.fieldLink RX11 161 "AlgebraicReals$Real" "place" "I", Cond.methodLink RX11 430 yX0_clear, Cond.code yX11_apply cX11_apply 5 (some .int), Cond.code yX11_plain cX11_plain 4 (some .int), Cond.methodLink RX11 227 Lib.Math.abs.name, Cond.methodLink RX11 392 yX4_monomial, Cond.fieldLink RX11 395 "AlgebraicReals$Zones" "f" "LAlgebraicReals$Poly;", Cond.code yX11_power cX11_power 4 (some .int), Cond.fieldLink RX5 33 "AlgebraicReals$Real" "e" "I", Cond.methodLink RX5 26 yX4_copy, Cond.methodLink RX5 30 yX0_copy, Cond.fieldLink RX11 437 "AlgebraicReals$Big" "s" "I", Cond.methodLink RX11 419 yX7_locate, Cond.instanceMethod yX7_locate, Cond.selects RX7 yX7_locate yX7_locate, Cond.methodLink RX11 433 yX9_eval, Cond.code yX11_root cX11_root 4 (some .int), Cond.methodLink RX11 151 yX11_circle, Cond.instanceMethod yX11_circle, Cond.selects RX11 yX11_circle yX11_circle, Cond.code yX11_circle cX11_circle 10 (some .int), Cond.methodLink RX11 401 yJ9_floorMod_f86c9, Cond.static yJ9_floorMod_f86c9, Cond.code yJ9_floorMod_f86c9 cJ9_floorMod_f86c9 6 (some .long), Cond.methodLink RX11 405 yJ9_floorMod_7cf53, Cond.static yJ9_floorMod_7cf53, Cond.code yJ9_floorMod_7cf53 cJ9_floorMod_7cf53 3 (some .int), Cond.methodLink RX11 407 yX6_shared, Cond.methodLink RX11 412 yX6_units, Cond.static yX6_units, Cond.methodLink RX11 415 yX2_cosines, Cond.instanceMethod yX2_cosines, Cond.selects RX2 yX2_cosines yX2_cosines, Cond.methodLink RX11 155 yX11_takePlace, Cond.instanceMethod yX11_takePlace, Cond.selects RX11 yX11_takePlace yX11_takePlace, Cond.code yX11_takePlace cX11_takePlace 1 (some .int), Cond.code yX11_turn cX11_turn 6 (some .int), Cond.code yX11_beside cX11_beside 3 (some .int), Cond.methodLink RX11 175 yX11_isUntold, Cond.instanceMethod yX11_isUntold, Cond.selects RX11 yX11_isUntold yX11_isUntold, Cond.code yX11_isUntold cX11_isUntold 2 (some .boolean), Cond.fieldLink RX11 273 "AlgebraicReals" "toldCount" "I", Cond.code yX11_value cX11_value 4 (some .int), Cond.code yX11_rootOf cX11_rootOf 4 (some .int), Cond.code yX11_common cX11_common 4 (some .int), Cond.fieldLink RX11 212 "AlgebraicReals$Texts" "steps" "I", Cond.fieldLink RX11 215 "AlgebraicReals$Texts" "kinds" "[I", Cond.fieldLink RX11 218 "AlgebraicReals$Texts" "firsts" "[I", Cond.fieldLink RX11 221 "AlgebraicReals$Texts" "seconds" "[I", Cond.methodLink RX11 209 yX8_parse, Cond.instanceMethod yX8_parse, Cond.selects RX8 yX8_parse yX8_parse, Cond.methodLink RX5 57 yX0_flip, Cond.code yX11_read cX11_read 11 (some .int), Cond.code yX11_drop cX11_drop 1 (some .int), Cond.methodLink RX11 247 yX0_times, Cond.methodLink RX11 459 yX0_raise, Cond.code yX11_compare cX11_compare 6 (some .int), Cond.code yX11_sign cX11_sign 2 (some .int), Cond.code yX11_about cX11_about 3 (some .int), Cond.code yX11_within cX11_within 5 (some .int), Cond.methodLink RX11 276 yX4_init, Cond.code yX11_polynomial cX11_polynomial 1 (some .int), Cond.methodLink RX11 281 yX4_trim, Cond.code yX11_coefficient cX11_coefficient 5 (some .int), Cond.code yX11_roots cX11_roots 2 (some .int), Cond.code yX11_between cX11_between 4 (some .int), Cond.fieldLink RX11 291 "AlgebraicReals" "pieceCount" "I", Cond.code yX11_parts cX11_parts 3 (some .int), Cond.code yX11_part cX11_part 3 (some .int), Cond.constantLong RX11 301 (10), Cond.methodLink RX11 303 yX0_scale, Cond.methodLink RX11 312 yX0_size, Cond.methodLink RX11 324 yX0_lower, Cond.fieldLink RX8 107 "AlgebraicReals$Texts" "length" "I", Cond.fieldLink RX8 110 "AlgebraicReals$Big" "s" "I", Cond.fieldLink RX8 140 "AlgebraicReals$Big" "n" "I", Cond.constantLong RX8 143 (10), Cond.methodLink RX8 136 yX0_copy, Cond.code yX11_write cX11_write 5 (some .int), Cond.fieldLink RX8 121 "AlgebraicReals$Poly" "deg" "I", Cond.fieldLink RX8 126 "AlgebraicReals$Poly" "c" "[LAlgebraicReals$Big;", Cond.methodLink RX8 130 yX0_isOne, Cond.methodLink RX8 133 yX0_put, Cond.code yX11_writeLeast cX11_writeLeast 2 (some .int), Cond.code yX11_writePart cX11_writePart 2 (some .int), Cond.fieldLink RX11 346 "AlgebraicReals$Texts" "length" "I", Cond.fieldLink RX11 349 "AlgebraicReals$Texts" "written" "[I", Cond.code yX11_at cX11_at 2 (some .int), Cond.classLink RX11 356 "java/lang/IllegalStateException", Cond.initialized "java/lang/IllegalStateException", Cond.fieldLink RX11 352 "AlgebraicReals$Texts" "size" "I", Cond.fieldLink RX11 353 "AlgebraicReals$Texts" "tape" "[I", Cond.methodLink RX11 359 yX8_take, Cond.instanceMethod yX8_take, Cond.selects RX8 yX8_take yX8_take, Cond.code yX11_feed cX11_feed 6 (some .int), Cond.classLink RX11 362 "java/lang/IllegalArgumentException", Cond.initialized "java/lang/IllegalArgumentException", Cond.code yX11_end cX11_end 2 none]
abbrev w2c : List Cond := wsX00 ++ (wsX10 ++ (wsX20 ++ (wsX30 ++ (wsX40 ++ (wsX50 ++ (wsX60 ++ (wsX70 ++ (wsX80 ++ (wsX90 ++ (wsX100 ++ (wsX110)))))))))))
def w0c : List Cond := w1c ++ w2c
theorem cl_X0_3 : Cond.methodLink RX0 3 objectInit ∈ w0c := List.mem_append_left _ (List.mem_of_getElem? (i := 0) rfl)
theorem ci_objectInit : Cond.instanceMethod objectInit ∈ w0c := List.mem_append_left _ (List.mem_of_getElem? (i := 1) rfl)
theorem cc_objectInit : Cond.code objectInit ⟨#[0xb1]⟩ 1 none ∈ w0c := List.mem_append_left _ (List.mem_of_getElem? (i := 2) rfl)
theorem car_int : Cond.arrayClass .int ∈ w0c := List.mem_append_left _ (List.mem_of_getElem? (i := 3) rfl)
theorem cf_0_9 : Cond.fieldLink RX0 9 "AlgebraicReals$Big" "d" "[I" ∈ w0c := List.mem_append_left _ (List.mem_of_getElem? (i := 4) rfl)
theorem cc_X0_init : Cond.code yX0_init cX0_init 1 none ∈ w0c := List.mem_append_left _ (List.mem_of_getElem? (i := 5) rfl)
theorem cf_0_13 : Cond.fieldLink RX0 13 "AlgebraicReals$Big" "n" "I" ∈ w0c := List.mem_append_left _ (List.mem_of_getElem? (i := 6) rfl)
theorem cf_0_17 : Cond.fieldLink RX0 17 "AlgebraicReals$Big" "s" "I" ∈ w0c := List.mem_append_left _ (List.mem_of_getElem? (i := 7) rfl)
theorem cc_X0_clear : Cond.code yX0_clear cX0_clear 1 none ∈ w0c := List.mem_append_left _ (List.mem_of_getElem? (i := 8) rfl)
theorem cj_X0_20 : Cond.constantLong RX0 20 (1073741823) ∈ w0c := List.mem_append_left _ (List.mem_of_getElem? (i := 9) rfl)
theorem cc_X0_put : Cond.code yX0_put cX0_put 6 none ∈ w0c := List.mem_append_left _ (List.mem_of_getElem? (i := 10) rfl)
theorem cl_X0_22 : Cond.methodLink RX0 22 arraycopyName ∈ w0c := List.mem_append_left _ (List.mem_of_getElem? (i := 11) rfl)
theorem cv_arraycopyName : Cond.native arraycopyName ∈ w0c := List.mem_append_left _ (List.mem_of_getElem? (i := 12) rfl)
theorem ct_arraycopyName : Cond.static arraycopyName ∈ w0c := List.mem_append_left _ (List.mem_of_getElem? (i := 13) rfl)
theorem cn_java_lang_System : Cond.initialized "java/lang/System" ∈ w0c := List.mem_append_left _ (List.mem_of_getElem? (i := 14) rfl)
theorem cc_X0_copy : Cond.code yX0_copy cX0_copy 2 none ∈ w0c := List.mem_append_left _ (List.mem_of_getElem? (i := 15) rfl)
theorem cc_X0_flip : Cond.code yX0_flip cX0_flip 1 none ∈ w0c := List.mem_append_left _ (List.mem_of_getElem? (i := 16) rfl)
theorem cc_X0_isOne : Cond.code yX0_isOne cX0_isOne 1 (some .boolean) ∈ w0c := List.mem_append_left _ (List.mem_of_getElem? (i := 17) rfl)
theorem cc_X0_isOdd : Cond.code yX0_isOdd cX0_isOdd 1 (some .boolean) ∈ w0c := List.mem_append_left _ (List.mem_of_getElem? (i := 18) rfl)
theorem cc_X0_trim : Cond.code yX0_trim cX0_trim 2 none ∈ w0c := List.mem_append_left _ (List.mem_of_getElem? (i := 19) rfl)
theorem cc_X0_size : Cond.code yX0_size cX0_size 3 (some .int) ∈ w0c := List.mem_append_left _ (List.mem_of_getElem? (i := 20) rfl)
theorem cc_X0_against : Cond.code yX0_against cX0_against 3 (some .int) ∈ w0c := List.mem_append_left _ (List.mem_of_getElem? (i := 21) rfl)
theorem cl_X0_36 : Cond.methodLink RX0 36 Lib.Math.max.name ∈ w0c := List.mem_append_left _ (List.mem_of_getElem? (i := 22) rfl)
theorem ct_Lib_Math_max_name : Cond.static Lib.Math.max.name ∈ w0c := List.mem_append_left _ (List.mem_of_getElem? (i := 23) rfl)
theorem cn_java_lang_Math : Cond.initialized "java/lang/Math" ∈ w0c := List.mem_append_left _ (List.mem_of_getElem? (i := 24) rfl)
theorem cc_Lib_Math_max_name : Cond.code Lib.Math.max.name Lib.Math.max.code 2 (some .int) ∈ w0c := List.mem_append_left _ (List.mem_of_getElem? (i := 25) rfl)
theorem cl_X0_32 : Cond.methodLink RX0 32 yX0_copy ∈ w0c := List.mem_append_left _ (List.mem_of_getElem? (i := 26) rfl)
theorem ci_X0_copy : Cond.instanceMethod yX0_copy ∈ w0c := List.mem_append_left _ (List.mem_of_getElem? (i := 27) rfl)
theorem cs_X0_copy : Cond.selects RX0 yX0_copy yX0_copy ∈ w0c := List.mem_append_left _ (List.mem_of_getElem? (i := 28) rfl)
theorem cn_RX0 : Cond.initialized RX0 ∈ w0c := List.mem_append_left _ (List.mem_of_getElem? (i := 29) rfl)
theorem cl_X0_42 : Cond.methodLink RX0 42 yJ7_copyOf_59c91 ∈ w0c := List.mem_append_left _ (List.mem_of_getElem? (i := 30) rfl)
theorem ct_J7_copyOf_59c91 : Cond.static yJ7_copyOf_59c91 ∈ w0c := List.mem_append_left _ (List.mem_of_getElem? (i := 31) rfl)
theorem cn_RJ7 : Cond.initialized RJ7 ∈ w0c := List.mem_append_left _ (List.mem_of_getElem? (i := 32) rfl)
theorem cc_J7_copyOf_59c91 : Cond.code yJ7_copyOf_59c91 cJ7_copyOf_59c91 3 (some (.array .int)) ∈ w0c := List.mem_append_left _ (List.mem_of_getElem? (i := 33) rfl)
theorem cl_J7_316 : Cond.methodLink RJ7 316 ⟨"[I", "clone", "()Ljava/lang/Object;"⟩ ∈ w0c := List.mem_append_left _ (List.mem_of_getElem? (i := 34) rfl)
theorem cx_I : Cond.sameMethod "[I" "java/lang/Object" "clone" "()Ljava/lang/Object;" ∈ w0c := List.mem_append_left _ (List.mem_of_getElem? (i := 35) rfl)
theorem cv_java_lang_Object : Cond.native ⟨"java/lang/Object", "clone", "()Ljava/lang/Object;"⟩ ∈ w0c := List.mem_append_left _ (List.mem_of_getElem? (i := 36) rfl)
theorem ci_java_lang_Object : Cond.instanceMethod ⟨"java/lang/Object", "clone", "()Ljava/lang/Object;"⟩ ∈ w0c := List.mem_append_left _ (List.mem_of_getElem? (i := 37) rfl)
theorem cs_I : Cond.selects "[I" ⟨"[I", "clone", "()Ljava/lang/Object;"⟩ ⟨"java/lang/Object", "clone", "()Ljava/lang/Object;"⟩ ∈ w0c := List.mem_append_left _ (List.mem_of_getElem? (i := 38) rfl)
theorem ca_J7_317 : Cond.classLink RJ7 317 "[I" ∈ w0c := List.mem_append_left _ (List.mem_of_getElem? (i := 39) rfl)
theorem cl_J7_304 : Cond.methodLink RJ7 304 Lib.Math.min.name ∈ w0c := List.mem_append_left _ (List.mem_of_getElem? (i := 40) rfl)
theorem ct_Lib_Math_min_name : Cond.static Lib.Math.min.name ∈ w0c := List.mem_append_left _ (List.mem_of_getElem? (i := 41) rfl)
theorem cc_Lib_Math_min_name : Cond.code Lib.Math.min.name Lib.Math.min.code 2 (some .int) ∈ w0c := List.mem_append_left _ (List.mem_of_getElem? (i := 42) rfl)
theorem cl_J7_150 : Cond.methodLink RJ7 150 arraycopyName ∈ w0c := List.mem_append_left _ (List.mem_of_getElem? (i := 43) rfl)
theorem cl_X0_48 : Cond.methodLink RX0 48 yX0_gather ∈ w0c := List.mem_append_left _ (List.mem_of_getElem? (i := 44) rfl)
theorem ci_X0_gather : Cond.instanceMethod yX0_gather ∈ w0c := List.mem_append_left _ (List.mem_of_getElem? (i := 45) rfl)
theorem cs_X0_gather : Cond.selects RX0 yX0_gather yX0_gather ∈ w0c := List.mem_append_left _ (List.mem_of_getElem? (i := 46) rfl)
theorem cc_X0_gather : Cond.code yX0_gather cX0_gather 9 none ∈ w0c := List.mem_append_left _ (List.mem_of_getElem? (i := 47) rfl)
theorem ck_X0_59 : Cond.constant RX0 59 (1073741823) ∈ w0c := List.mem_append_left _ (List.mem_of_getElem? (i := 48) rfl)
theorem cl_X0_28 : Cond.methodLink RX0 28 yX0_against ∈ w0c := List.mem_append_left _ (List.mem_of_getElem? (i := 49) rfl)
theorem ci_X0_against : Cond.instanceMethod yX0_against ∈ w0c := List.mem_append_left _ (List.mem_of_getElem? (i := 50) rfl)
theorem cs_X0_against : Cond.selects RX0 yX0_against yX0_against ∈ w0c := List.mem_append_left _ (List.mem_of_getElem? (i := 51) rfl)
theorem cl_X0_52 : Cond.methodLink RX0 52 yX0_clear ∈ w0c := List.mem_append_left _ (List.mem_of_getElem? (i := 52) rfl)
theorem ci_X0_clear : Cond.instanceMethod yX0_clear ∈ w0c := List.mem_append_left _ (List.mem_of_getElem? (i := 53) rfl)
theorem cs_X0_clear : Cond.selects RX0 yX0_clear yX0_clear ∈ w0c := List.mem_append_left _ (List.mem_of_getElem? (i := 54) rfl)
theorem cl_X0_55 : Cond.methodLink RX0 55 yX0_lessen ∈ w0c := List.mem_append_left _ (List.mem_of_getElem? (i := 55) rfl)
theorem ci_X0_lessen : Cond.instanceMethod yX0_lessen ∈ w0c := List.mem_append_left _ (List.mem_of_getElem? (i := 56) rfl)
theorem cs_X0_lessen : Cond.selects RX0 yX0_lessen yX0_lessen ∈ w0c := List.mem_append_left _ (List.mem_of_getElem? (i := 57) rfl)
theorem cc_X0_lessen : Cond.code yX0_lessen cX0_lessen 8 none ∈ w0c := List.mem_append_left _ (List.mem_of_getElem? (i := 58) rfl)
theorem cc_X0_join : Cond.code yX0_join cX0_join 8 none ∈ w0c := List.mem_append_left _ (List.mem_of_getElem? (i := 59) rfl)
theorem cc_X0_grow : Cond.code yX0_grow cX0_grow 2 none ∈ w0c := List.mem_append_left _ (List.mem_of_getElem? (i := 60) rfl)
theorem cc_X0_times : Cond.code yX0_times cX0_times 14 none ∈ w0c := List.mem_append_left _ (List.mem_of_getElem? (i := 61) rfl)
theorem cl_X0_67 : Cond.methodLink RX0 67 yX0_trim ∈ w0c := List.mem_append_left _ (List.mem_of_getElem? (i := 62) rfl)
theorem ci_X0_trim : Cond.instanceMethod yX0_trim ∈ w0c := List.mem_append_left _ (List.mem_of_getElem? (i := 63) rfl)
theorem cs_X0_trim : Cond.selects RX0 yX0_trim yX0_trim ∈ w0c := List.mem_append_left _ (List.mem_of_getElem? (i := 64) rfl)
theorem cc_X0_scale : Cond.code yX0_scale cX0_scale 10 none ∈ w0c := List.mem_append_left _ (List.mem_of_getElem? (i := 65) rfl)
theorem cc_X0_raise : Cond.code yX0_raise cX0_raise 9 none ∈ w0c := List.mem_append_left _ (List.mem_of_getElem? (i := 66) rfl)
theorem cl_X0_64 : Cond.methodLink RX0 64 yX0_grow ∈ w0c := List.mem_append_left _ (List.mem_of_getElem? (i := 67) rfl)
theorem ci_X0_grow : Cond.instanceMethod yX0_grow ∈ w0c := List.mem_append_left _ (List.mem_of_getElem? (i := 68) rfl)
theorem cs_X0_grow : Cond.selects RX0 yX0_grow yX0_grow ∈ w0c := List.mem_append_left _ (List.mem_of_getElem? (i := 69) rfl)
theorem cc_X0_lower : Cond.code yX0_lower cX0_lower 11 none ∈ w0c := List.mem_append_left _ (List.mem_of_getElem? (i := 70) rfl)
theorem cl_X0_83 : Cond.methodLink RX0 83 Lib.MathLoose.min_long.x ∈ w0c := List.mem_append_left _ (List.mem_of_getElem? (i := 71) rfl)
theorem ct_Lib_MathLoose_min_long_x : Cond.static Lib.MathLoose.min_long.x ∈ w0c := List.mem_append_left _ (List.mem_of_getElem? (i := 72) rfl)
theorem cc_Lib_MathLoose_min_long_x : Cond.code Lib.MathLoose.min_long.x Lib.MathLoose.min_long.code 4 (some .long) ∈ w0c := List.mem_append_left _ (List.mem_of_getElem? (i := 73) rfl)
theorem cl_X0_71 : Cond.methodLink RX0 71 yX0_size ∈ w0c := List.mem_append_left _ (List.mem_of_getElem? (i := 74) rfl)
theorem ci_X0_size : Cond.instanceMethod yX0_size ∈ w0c := List.mem_append_left _ (List.mem_of_getElem? (i := 75) rfl)
theorem cs_X0_size : Cond.selects RX0 yX0_size yX0_size ∈ w0c := List.mem_append_left _ (List.mem_of_getElem? (i := 76) rfl)
theorem cl_X0_75 : Cond.methodLink RX0 75 yX0_raise ∈ w0c := List.mem_append_left _ (List.mem_of_getElem? (i := 77) rfl)
theorem ci_X0_raise : Cond.instanceMethod yX0_raise ∈ w0c := List.mem_append_left _ (List.mem_of_getElem? (i := 78) rfl)
theorem cs_X0_raise : Cond.selects RX0 yX0_raise yX0_raise ∈ w0c := List.mem_append_left _ (List.mem_of_getElem? (i := 79) rfl)
theorem cl_X0_79 : Cond.methodLink RX0 79 yX0_digit ∈ w0c := List.mem_append_left _ (List.mem_of_getElem? (i := 80) rfl)
theorem ct_X0_digit : Cond.static yX0_digit ∈ w0c := List.mem_append_left _ (List.mem_of_getElem? (i := 81) rfl)
theorem cc_X0_digit : Cond.code yX0_digit cX0_digit 3 (some .int) ∈ w0c := List.mem_append_left _ (List.mem_of_getElem? (i := 82) rfl)
theorem cl_X0_87 : Cond.methodLink RX0 87 yX0_takes ∈ w0c := List.mem_append_left _ (List.mem_of_getElem? (i := 83) rfl)
theorem ci_X0_takes : Cond.instanceMethod yX0_takes ∈ w0c := List.mem_append_left _ (List.mem_of_getElem? (i := 84) rfl)
theorem cs_X0_takes : Cond.selects RX0 yX0_takes yX0_takes ∈ w0c := List.mem_append_left _ (List.mem_of_getElem? (i := 85) rfl)
theorem cc_X0_takes : Cond.code yX0_takes cX0_takes 16 (some .boolean) ∈ w0c := List.mem_append_left _ (List.mem_of_getElem? (i := 86) rfl)
theorem cl_X0_91 : Cond.methodLink RX0 91 yX0_restore ∈ w0c := List.mem_append_left _ (List.mem_of_getElem? (i := 87) rfl)
theorem ci_X0_restore : Cond.instanceMethod yX0_restore ∈ w0c := List.mem_append_left _ (List.mem_of_getElem? (i := 88) rfl)
theorem cs_X0_restore : Cond.selects RX0 yX0_restore yX0_restore ∈ w0c := List.mem_append_left _ (List.mem_of_getElem? (i := 89) rfl)
theorem cc_X0_restore : Cond.code yX0_restore cX0_restore 9 none ∈ w0c := List.mem_append_left _ (List.mem_of_getElem? (i := 90) rfl)
theorem cc_X0_rest : Cond.code yX0_rest cX0_rest 22 none ∈ w0c := List.mem_append_left _ (List.mem_of_getElem? (i := 91) rfl)
theorem cl_X4_1 : Cond.methodLink RX4 1 objectInit ∈ w0c := List.mem_append_left _ (List.mem_of_getElem? (i := 92) rfl)
theorem ca_X4_9 : Cond.classLink RX4 9 RX0 ∈ w0c := List.mem_append_left _ (List.mem_of_getElem? (i := 93) rfl)
theorem cf_4_11 : Cond.fieldLink RX4 11 "AlgebraicReals$Poly" "c" "[LAlgebraicReals$Big;" ∈ w0c := List.mem_append_left _ (List.mem_of_getElem? (i := 94) rfl)
theorem cf_4_15 : Cond.fieldLink RX4 15 "AlgebraicReals$Poly" "deg" "I" ∈ w0c := List.mem_append_left _ (List.mem_of_getElem? (i := 95) rfl)
theorem cw_X0 : Cond.instantiable RX0 3 ∈ w0c := List.mem_append_left _ (List.mem_of_getElem? (i := 96) rfl)
theorem ci_X0_init : Cond.instanceMethod yX0_init ∈ w0c := List.mem_append_left _ (List.mem_of_getElem? (i := 97) rfl)
theorem cc_X4_init : Cond.code yX4_init cX4_init 2 none ∈ w0c := List.mem_append_left _ (List.mem_of_getElem? (i := 98) rfl)
theorem cl_X4_20 : Cond.methodLink RX4 20 yX0_copy ∈ w0c := List.mem_append_left _ (List.mem_of_getElem? (i := 99) rfl)
theorem cc_X4_copy : Cond.code yX4_copy cX4_copy 3 none ∈ w0c := List.mem_append_left _ (List.mem_of_getElem? (i := 100) rfl)
theorem cl_X4_24 : Cond.methodLink RX4 24 Lib.Math.min.name ∈ w0c := List.mem_append_left _ (List.mem_of_getElem? (i := 101) rfl)
theorem cf_4_30 : Cond.fieldLink RX4 30 "AlgebraicReals$Big" "s" "I" ∈ w0c := List.mem_append_left _ (List.mem_of_getElem? (i := 102) rfl)
theorem cc_X4_trim : Cond.code yX4_trim cX4_trim 2 none ∈ w0c := List.mem_append_left _ (List.mem_of_getElem? (i := 103) rfl)
theorem cl_X4_33 : Cond.methodLink RX4 33 Lib.Math.max.name ∈ w0c := List.mem_append_left _ (List.mem_of_getElem? (i := 104) rfl)
theorem cc_X4_lead : Cond.code yX4_lead cX4_lead 1 (some (.object "AlgebraicReals$Big")) ∈ w0c := List.mem_append_left _ (List.mem_of_getElem? (i := 105) rfl)
theorem cl_X4_55 : Cond.methodLink RX4 55 yX0_clear ∈ w0c := List.mem_append_left _ (List.mem_of_getElem? (i := 106) rfl)
theorem cl_X4_58 : Cond.methodLink RX4 58 yX0_put ∈ w0c := List.mem_append_left _ (List.mem_of_getElem? (i := 107) rfl)
theorem ci_X0_put : Cond.instanceMethod yX0_put ∈ w0c := List.mem_append_left _ (List.mem_of_getElem? (i := 108) rfl)
theorem cs_X0_put : Cond.selects RX0 yX0_put yX0_put ∈ w0c := List.mem_append_left _ (List.mem_of_getElem? (i := 109) rfl)
theorem cc_X4_monomial : Cond.code yX4_monomial cX4_monomial 3 none ∈ w0c := List.mem_append_left _ (List.mem_of_getElem? (i := 110) rfl)
theorem cl_X9_3 : Cond.methodLink RX9 3 objectInit ∈ w0c := List.mem_append_left _ (List.mem_of_getElem? (i := 111) rfl)
theorem ca_X9_9 : Cond.classLink RX9 9 RX0 ∈ w0c := List.mem_append_left _ (List.mem_of_getElem? (i := 112) rfl)
theorem cf_9_12 : Cond.fieldLink RX9 12 "AlgebraicReals$Tools" "a" "LAlgebraicReals$Big;" ∈ w0c := List.mem_append_left _ (List.mem_of_getElem? (i := 113) rfl)
theorem cf_9_18 : Cond.fieldLink RX9 18 "AlgebraicReals$Tools" "b" "LAlgebraicReals$Big;" ∈ w0c := List.mem_append_left _ (List.mem_of_getElem? (i := 114) rfl)
theorem cf_9_21 : Cond.fieldLink RX9 21 "AlgebraicReals$Tools" "q" "LAlgebraicReals$Big;" ∈ w0c := List.mem_append_left _ (List.mem_of_getElem? (i := 115) rfl)
theorem cf_9_24 : Cond.fieldLink RX9 24 "AlgebraicReals$Tools" "t" "LAlgebraicReals$Big;" ∈ w0c := List.mem_append_left _ (List.mem_of_getElem? (i := 116) rfl)
theorem cf_9_27 : Cond.fieldLink RX9 27 "AlgebraicReals$Tools" "u" "LAlgebraicReals$Big;" ∈ w0c := List.mem_append_left _ (List.mem_of_getElem? (i := 117) rfl)
theorem ca_X9_30 : Cond.classLink RX9 30 RX4 ∈ w0c := List.mem_append_left _ (List.mem_of_getElem? (i := 118) rfl)
theorem cw_X4 : Cond.instantiable RX4 2 ∈ w0c := List.mem_append_left _ (List.mem_of_getElem? (i := 119) rfl)
theorem cn_RX4 : Cond.initialized RX4 ∈ w0c := List.mem_append_left _ (List.mem_of_getElem? (i := 120) rfl)
theorem cf_9_33 : Cond.fieldLink RX9 33 "AlgebraicReals$Tools" "work" "LAlgebraicReals$Poly;" ∈ w0c := List.mem_append_left _ (List.mem_of_getElem? (i := 121) rfl)
theorem cf_9_37 : Cond.fieldLink RX9 37 "AlgebraicReals$Tools" "more" "[I" ∈ w0c := List.mem_append_left _ (List.mem_of_getElem? (i := 122) rfl)
theorem cl_X9_32 : Cond.methodLink RX9 32 yX4_init ∈ w0c := List.mem_append_left _ (List.mem_of_getElem? (i := 123) rfl)
theorem ci_X4_init : Cond.instanceMethod yX4_init ∈ w0c := List.mem_append_left _ (List.mem_of_getElem? (i := 124) rfl)
theorem cc_X9_init : Cond.code yX9_init cX9_init 1 none ∈ w0c := List.mem_append_left _ (List.mem_of_getElem? (i := 125) rfl)
theorem cf_9_59 : Cond.fieldLink RX9 59 "AlgebraicReals$Poly" "deg" "I" ∈ w0c := List.mem_append_left _ (List.mem_of_getElem? (i := 126) rfl)
theorem cf_9_74 : Cond.fieldLink RX9 74 "AlgebraicReals$Poly" "c" "[LAlgebraicReals$Big;" ∈ w0c := List.mem_append_left _ (List.mem_of_getElem? (i := 127) rfl)
theorem ck_X9_78 : Cond.constant RX9 78 (1000000) ∈ w0c := List.mem_append_left _ (List.mem_of_getElem? (i := 128) rfl)
theorem cf_9_79 : Cond.fieldLink RX9 79 "AlgebraicReals$Big" "s" "I" ∈ w0c := List.mem_append_left _ (List.mem_of_getElem? (i := 129) rfl)
theorem cf_9_82 : Cond.fieldLink RX9 82 "AlgebraicReals$Big" "n" "I" ∈ w0c := List.mem_append_left _ (List.mem_of_getElem? (i := 130) rfl)
theorem cl_X9_62 : Cond.methodLink RX9 62 yX4_lead ∈ w0c := List.mem_append_left _ (List.mem_of_getElem? (i := 131) rfl)
theorem ci_X4_lead : Cond.instanceMethod yX4_lead ∈ w0c := List.mem_append_left _ (List.mem_of_getElem? (i := 132) rfl)
theorem cs_X4_lead : Cond.selects RX4 yX4_lead yX4_lead ∈ w0c := List.mem_append_left _ (List.mem_of_getElem? (i := 133) rfl)
theorem cl_X9_66 : Cond.methodLink RX9 66 yX0_copy ∈ w0c := List.mem_append_left _ (List.mem_of_getElem? (i := 134) rfl)
theorem cl_X9_70 : Cond.methodLink RX9 70 yX0_isOne ∈ w0c := List.mem_append_left _ (List.mem_of_getElem? (i := 135) rfl)
theorem ci_X0_isOne : Cond.instanceMethod yX0_isOne ∈ w0c := List.mem_append_left _ (List.mem_of_getElem? (i := 136) rfl)
theorem cs_X0_isOne : Cond.selects RX0 yX0_isOne yX0_isOne ∈ w0c := List.mem_append_left _ (List.mem_of_getElem? (i := 137) rfl)
theorem cl_X9_85 : Cond.methodLink RX9 85 yX9_low ∈ w0c := List.mem_append_left _ (List.mem_of_getElem? (i := 138) rfl)
theorem ct_X9_low : Cond.static yX9_low ∈ w0c := List.mem_append_left _ (List.mem_of_getElem? (i := 139) rfl)
theorem cn_RX9 : Cond.initialized RX9 ∈ w0c := List.mem_append_left _ (List.mem_of_getElem? (i := 140) rfl)
theorem cc_X9_low : Cond.code yX9_low cX9_low 1 (some .long) ∈ w0c := List.mem_append_left _ (List.mem_of_getElem? (i := 141) rfl)
theorem cf_9_104 : Cond.fieldLink RX9 104 "AlgebraicReals$Big" "d" "[I" ∈ w0c := List.mem_append_left _ (List.mem_of_getElem? (i := 142) rfl)
theorem cl_X9_89 : Cond.methodLink RX9 89 yX9_shared ∈ w0c := List.mem_append_left _ (List.mem_of_getElem? (i := 143) rfl)
theorem ct_X9_shared : Cond.static yX9_shared ∈ w0c := List.mem_append_left _ (List.mem_of_getElem? (i := 144) rfl)
theorem cc_X9_shared : Cond.code yX9_shared cX9_shared 7 (some .long) ∈ w0c := List.mem_append_left _ (List.mem_of_getElem? (i := 145) rfl)
theorem cl_X9_93 : Cond.methodLink RX9 93 yX0_put ∈ w0c := List.mem_append_left _ (List.mem_of_getElem? (i := 146) rfl)
theorem cl_X9_97 : Cond.methodLink RX9 97 yX0_rest ∈ w0c := List.mem_append_left _ (List.mem_of_getElem? (i := 147) rfl)
theorem ci_X0_rest : Cond.instanceMethod yX0_rest ∈ w0c := List.mem_append_left _ (List.mem_of_getElem? (i := 148) rfl)
theorem cs_X0_rest : Cond.selects RX0 yX0_rest yX0_rest ∈ w0c := List.mem_append_left _ (List.mem_of_getElem? (i := 149) rfl)
theorem cl_X9_101 : Cond.methodLink RX9 101 yX0_flip ∈ w0c := List.mem_append_left _ (List.mem_of_getElem? (i := 150) rfl)
theorem ci_X0_flip : Cond.instanceMethod yX0_flip ∈ w0c := List.mem_append_left _ (List.mem_of_getElem? (i := 151) rfl)
theorem cs_X0_flip : Cond.selects RX0 yX0_flip yX0_flip ∈ w0c := List.mem_append_left _ (List.mem_of_getElem? (i := 152) rfl)
theorem cc_X9_tidy : Cond.code yX9_tidy cX9_tidy 8 none ∈ w0c := List.mem_append_left _ (List.mem_of_getElem? (i := 153) rfl)
theorem cl_X9_107 : Cond.methodLink RX9 107 yX0_scale ∈ w0c := List.mem_append_left _ (List.mem_of_getElem? (i := 154) rfl)
theorem ci_X0_scale : Cond.instanceMethod yX0_scale ∈ w0c := List.mem_append_left _ (List.mem_of_getElem? (i := 155) rfl)
theorem cs_X0_scale : Cond.selects RX0 yX0_scale yX0_scale ∈ w0c := List.mem_append_left _ (List.mem_of_getElem? (i := 156) rfl)
theorem cc_X9_slope : Cond.code yX9_slope cX9_slope 5 none ∈ w0c := List.mem_append_left _ (List.mem_of_getElem? (i := 157) rfl)
theorem cl_X9_114 : Cond.methodLink RX9 114 yX0_times ∈ w0c := List.mem_append_left _ (List.mem_of_getElem? (i := 158) rfl)
theorem ci_X0_times : Cond.instanceMethod yX0_times ∈ w0c := List.mem_append_left _ (List.mem_of_getElem? (i := 159) rfl)
theorem cs_X0_times : Cond.selects RX0 yX0_times yX0_times ∈ w0c := List.mem_append_left _ (List.mem_of_getElem? (i := 160) rfl)
theorem cl_X9_118 : Cond.methodLink RX9 118 yX0_join ∈ w0c := List.mem_append_left _ (List.mem_of_getElem? (i := 161) rfl)
theorem ci_X0_join : Cond.instanceMethod yX0_join ∈ w0c := List.mem_append_left _ (List.mem_of_getElem? (i := 162) rfl)
theorem cs_X0_join : Cond.selects RX0 yX0_join yX0_join ∈ w0c := List.mem_append_left _ (List.mem_of_getElem? (i := 163) rfl)
theorem cl_X9_122 : Cond.methodLink RX9 122 yX4_trim ∈ w0c := List.mem_append_left _ (List.mem_of_getElem? (i := 164) rfl)
theorem ci_X4_trim : Cond.instanceMethod yX4_trim ∈ w0c := List.mem_append_left _ (List.mem_of_getElem? (i := 165) rfl)
theorem cs_X4_trim : Cond.selects RX4 yX4_trim yX4_trim ∈ w0c := List.mem_append_left _ (List.mem_of_getElem? (i := 166) rfl)
theorem cc_X9_leave : Cond.code yX9_leave cX9_leave 7 (some .boolean) ∈ w0c := List.mem_append_left _ (List.mem_of_getElem? (i := 167) rfl)
theorem cl_X9_126 : Cond.methodLink RX9 126 yX0_clear ∈ w0c := List.mem_append_left _ (List.mem_of_getElem? (i := 168) rfl)
theorem cl_X9_129 : Cond.methodLink RX9 129 yX0_raise ∈ w0c := List.mem_append_left _ (List.mem_of_getElem? (i := 169) rfl)
theorem cc_X9_eval : Cond.code yX9_eval cX9_eval 7 none ∈ w0c := List.mem_append_left _ (List.mem_of_getElem? (i := 170) rfl)
theorem cl_X6_1 : Cond.methodLink RX6 1 objectInit ∈ w0c := List.mem_append_left _ (List.mem_of_getElem? (i := 171) rfl)
theorem car_long : Cond.arrayClass .long ∈ w0c := List.mem_append_left _ (List.mem_of_getElem? (i := 172) rfl)
theorem cf_6_7 : Cond.fieldLink RX6 7 "AlgebraicReals$Row" "c" "[J" ∈ w0c := List.mem_append_left _ (List.mem_of_getElem? (i := 173) rfl)
theorem cf_6_13 : Cond.fieldLink RX6 13 "AlgebraicReals$Row" "deg" "I" ∈ w0c := List.mem_append_left _ (List.mem_of_getElem? (i := 174) rfl)
theorem cc_X6_init : Cond.code yX6_init cX6_init 1 none ∈ w0c := List.mem_append_left _ (List.mem_of_getElem? (i := 175) rfl)
theorem cl_X6_17 : Cond.methodLink RX6 17 Lib.Math.abs.name ∈ w0c := List.mem_append_left _ (List.mem_of_getElem? (i := 176) rfl)
theorem ct_Lib_Math_abs_name : Cond.static Lib.Math.abs.name ∈ w0c := List.mem_append_left _ (List.mem_of_getElem? (i := 177) rfl)
theorem cc_Lib_Math_abs_name : Cond.code Lib.Math.abs.name Lib.Math.abs.code 1 (some .int) ∈ w0c := List.mem_append_left _ (List.mem_of_getElem? (i := 178) rfl)
theorem cc_X6_shared : Cond.code yX6_shared cX6_shared 4 (some .int) ∈ w0c := List.mem_append_left _ (List.mem_of_getElem? (i := 179) rfl)
theorem cl_X6_23 : Cond.methodLink RX6 23 yX6_shared ∈ w0c := List.mem_append_left _ (List.mem_of_getElem? (i := 180) rfl)
theorem ct_X6_shared : Cond.static yX6_shared ∈ w0c := List.mem_append_left _ (List.mem_of_getElem? (i := 181) rfl)
theorem cn_RX6 : Cond.initialized RX6 ∈ w0c := List.mem_append_left _ (List.mem_of_getElem? (i := 182) rfl)
theorem cc_X6_units : Cond.code yX6_units cX6_units 4 (some .int) ∈ w0c := List.mem_append_left _ (List.mem_of_getElem? (i := 183) rfl)
theorem cl_X2_3 : Cond.methodLink RX2 3 objectInit ∈ w0c := List.mem_append_left _ (List.mem_of_getElem? (i := 184) rfl)
theorem ca_X2_9 : Cond.classLink RX2 9 RX4 ∈ w0c := List.mem_append_left _ (List.mem_of_getElem? (i := 185) rfl)
theorem cf_2_12 : Cond.fieldLink RX2 12 "AlgebraicReals$Norms" "left" "LAlgebraicReals$Poly;" ∈ w0c := List.mem_append_left _ (List.mem_of_getElem? (i := 186) rfl)
theorem cf_2_18 : Cond.fieldLink RX2 18 "AlgebraicReals$Norms" "right" "LAlgebraicReals$Poly;" ∈ w0c := List.mem_append_left _ (List.mem_of_getElem? (i := 187) rfl)
theorem cf_2_21 : Cond.fieldLink RX2 21 "AlgebraicReals$Norms" "made" "LAlgebraicReals$Poly;" ∈ w0c := List.mem_append_left _ (List.mem_of_getElem? (i := 188) rfl)
theorem cf_2_24 : Cond.fieldLink RX2 24 "AlgebraicReals$Norms" "all" "LAlgebraicReals$Poly;" ∈ w0c := List.mem_append_left _ (List.mem_of_getElem? (i := 189) rfl)
theorem cf_2_27 : Cond.fieldLink RX2 27 "AlgebraicReals$Norms" "repeated" "LAlgebraicReals$Poly;" ∈ w0c := List.mem_append_left _ (List.mem_of_getElem? (i := 190) rfl)
theorem ca_X2_30 : Cond.classLink RX2 30 RX6 ∈ w0c := List.mem_append_left _ (List.mem_of_getElem? (i := 191) rfl)
theorem cw_X6 : Cond.instantiable RX6 2 ∈ w0c := List.mem_append_left _ (List.mem_of_getElem? (i := 192) rfl)
theorem cf_2_33 : Cond.fieldLink RX2 33 "AlgebraicReals$Norms" "p" "LAlgebraicReals$Row;" ∈ w0c := List.mem_append_left _ (List.mem_of_getElem? (i := 193) rfl)
theorem cf_2_37 : Cond.fieldLink RX2 37 "AlgebraicReals$Norms" "q" "LAlgebraicReals$Row;" ∈ w0c := List.mem_append_left _ (List.mem_of_getElem? (i := 194) rfl)
theorem cf_2_40 : Cond.fieldLink RX2 40 "AlgebraicReals$Norms" "\x72" "LAlgebraicReals$Row;" ∈ w0c := List.mem_append_left _ (List.mem_of_getElem? (i := 195) rfl)
theorem cf_2_43 : Cond.fieldLink RX2 43 "AlgebraicReals$Norms" "g" "LAlgebraicReals$Row;" ∈ w0c := List.mem_append_left _ (List.mem_of_getElem? (i := 196) rfl)
theorem cf_2_46 : Cond.fieldLink RX2 46 "AlgebraicReals$Norms" "h" "LAlgebraicReals$Row;" ∈ w0c := List.mem_append_left _ (List.mem_of_getElem? (i := 197) rfl)
theorem cf_2_49 : Cond.fieldLink RX2 49 "AlgebraicReals$Norms" "sumsOfP" "[J" ∈ w0c := List.mem_append_left _ (List.mem_of_getElem? (i := 198) rfl)
theorem cf_2_53 : Cond.fieldLink RX2 53 "AlgebraicReals$Norms" "sumsOfQ" "[J" ∈ w0c := List.mem_append_left _ (List.mem_of_getElem? (i := 199) rfl)
theorem cf_2_56 : Cond.fieldLink RX2 56 "AlgebraicReals$Norms" "sums" "[J" ∈ w0c := List.mem_append_left _ (List.mem_of_getElem? (i := 200) rfl)
theorem ca_X2_59 : Cond.classLink RX2 59 RX0 ∈ w0c := List.mem_append_left _ (List.mem_of_getElem? (i := 201) rfl)
theorem cf_2_62 : Cond.fieldLink RX2 62 "AlgebraicReals$Norms" "product" "LAlgebraicReals$Big;" ∈ w0c := List.mem_append_left _ (List.mem_of_getElem? (i := 202) rfl)
theorem cf_2_66 : Cond.fieldLink RX2 66 "AlgebraicReals$Norms" "t" "LAlgebraicReals$Big;" ∈ w0c := List.mem_append_left _ (List.mem_of_getElem? (i := 203) rfl)
theorem cf_2_69 : Cond.fieldLink RX2 69 "AlgebraicReals$Norms" "tools" "LAlgebraicReals$Tools;" ∈ w0c := List.mem_append_left _ (List.mem_of_getElem? (i := 204) rfl)
theorem cl_X2_11 : Cond.methodLink RX2 11 yX4_init ∈ w0c := List.mem_append_left _ (List.mem_of_getElem? (i := 205) rfl)
theorem ci_X6_init : Cond.instanceMethod yX6_init ∈ w0c := List.mem_append_left _ (List.mem_of_getElem? (i := 206) rfl)
theorem cc_X2_init : Cond.code yX2_init cX2_init 2 none ∈ w0c := List.mem_append_left _ (List.mem_of_getElem? (i := 207) rfl)
theorem cf_2_136 : Cond.fieldLink RX2 136 "AlgebraicReals$Poly" "c" "[LAlgebraicReals$Big;" ∈ w0c := List.mem_append_left _ (List.mem_of_getElem? (i := 208) rfl)
theorem cj_X2_237 : Cond.constantLong RX2 237 (-1) ∈ w0c := List.mem_append_left _ (List.mem_of_getElem? (i := 209) rfl)
theorem cj_X2_242 : Cond.constantLong RX2 242 (2) ∈ w0c := List.mem_append_left _ (List.mem_of_getElem? (i := 210) rfl)
theorem cf_2_77 : Cond.fieldLink RX2 77 "AlgebraicReals$Poly" "deg" "I" ∈ w0c := List.mem_append_left _ (List.mem_of_getElem? (i := 211) rfl)
theorem cl_X2_231 : Cond.methodLink RX2 231 yJ7_fill_d0a16 ∈ w0c := List.mem_append_left _ (List.mem_of_getElem? (i := 212) rfl)
theorem ct_J7_fill_d0a16 : Cond.static yJ7_fill_d0a16 ∈ w0c := List.mem_append_left _ (List.mem_of_getElem? (i := 213) rfl)
theorem cc_J7_fill_d0a16 : Cond.code yJ7_fill_d0a16 cJ7_fill_d0a16 5 none ∈ w0c := List.mem_append_left _ (List.mem_of_getElem? (i := 214) rfl)
theorem cl_X2_93 : Cond.methodLink RX2 93 yX4_monomial ∈ w0c := List.mem_append_left _ (List.mem_of_getElem? (i := 215) rfl)
theorem ci_X4_monomial : Cond.instanceMethod yX4_monomial ∈ w0c := List.mem_append_left _ (List.mem_of_getElem? (i := 216) rfl)
theorem cs_X4_monomial : Cond.selects RX4 yX4_monomial yX4_monomial ∈ w0c := List.mem_append_left _ (List.mem_of_getElem? (i := 217) rfl)
theorem cl_X2_114 : Cond.methodLink RX2 114 yX0_put ∈ w0c := List.mem_append_left _ (List.mem_of_getElem? (i := 218) rfl)
theorem cl_X2_239 : Cond.methodLink RX2 239 yX2_square ∈ w0c := List.mem_append_left _ (List.mem_of_getElem? (i := 219) rfl)
theorem ct_X2_square : Cond.static yX2_square ∈ w0c := List.mem_append_left _ (List.mem_of_getElem? (i := 220) rfl)
theorem cn_RX2 : Cond.initialized RX2 ∈ w0c := List.mem_append_left _ (List.mem_of_getElem? (i := 221) rfl)
theorem cc_X2_square : Cond.code yX2_square cX2_square 3 (some .int) ∈ w0c := List.mem_append_left _ (List.mem_of_getElem? (i := 222) rfl)
theorem cl_X2_101 : Cond.methodLink RX2 101 yX9_tidy ∈ w0c := List.mem_append_left _ (List.mem_of_getElem? (i := 223) rfl)
theorem ci_X9_tidy : Cond.instanceMethod yX9_tidy ∈ w0c := List.mem_append_left _ (List.mem_of_getElem? (i := 224) rfl)
theorem cs_X9_tidy : Cond.selects RX9 yX9_tidy yX9_tidy ∈ w0c := List.mem_append_left _ (List.mem_of_getElem? (i := 225) rfl)
theorem cc_X2_cosines : Cond.code yX2_cosines cX2_cosines 10 none ∈ w0c := List.mem_append_left _ (List.mem_of_getElem? (i := 226) rfl)
theorem cl_X7_1 : Cond.methodLink RX7 1 objectInit ∈ w0c := List.mem_append_left _ (List.mem_of_getElem? (i := 227) rfl)
theorem ca_X7_7 : Cond.classLink RX7 7 RX4 ∈ w0c := List.mem_append_left _ (List.mem_of_getElem? (i := 228) rfl)
theorem cf_7_9 : Cond.fieldLink RX7 9 "AlgebraicReals$Sturm" "chain" "[LAlgebraicReals$Poly;" ∈ w0c := List.mem_append_left _ (List.mem_of_getElem? (i := 229) rfl)
theorem ca_X7_15 : Cond.classLink RX7 15 RX0 ∈ w0c := List.mem_append_left _ (List.mem_of_getElem? (i := 230) rfl)
theorem cf_7_18 : Cond.fieldLink RX7 18 "AlgebraicReals$Sturm" "g" "LAlgebraicReals$Big;" ∈ w0c := List.mem_append_left _ (List.mem_of_getElem? (i := 231) rfl)
theorem cf_7_22 : Cond.fieldLink RX7 22 "AlgebraicReals$Sturm" "h" "LAlgebraicReals$Big;" ∈ w0c := List.mem_append_left _ (List.mem_of_getElem? (i := 232) rfl)
theorem cf_7_25 : Cond.fieldLink RX7 25 "AlgebraicReals$Sturm" "q" "LAlgebraicReals$Big;" ∈ w0c := List.mem_append_left _ (List.mem_of_getElem? (i := 233) rfl)
theorem cf_7_28 : Cond.fieldLink RX7 28 "AlgebraicReals$Sturm" "t" "LAlgebraicReals$Big;" ∈ w0c := List.mem_append_left _ (List.mem_of_getElem? (i := 234) rfl)
theorem cf_7_31 : Cond.fieldLink RX7 31 "AlgebraicReals$Sturm" "u" "LAlgebraicReals$Big;" ∈ w0c := List.mem_append_left _ (List.mem_of_getElem? (i := 235) rfl)
theorem cf_7_34 : Cond.fieldLink RX7 34 "AlgebraicReals$Sturm" "tools" "LAlgebraicReals$Tools;" ∈ w0c := List.mem_append_left _ (List.mem_of_getElem? (i := 236) rfl)
theorem cl_X7_38 : Cond.methodLink RX7 38 yX4_init ∈ w0c := List.mem_append_left _ (List.mem_of_getElem? (i := 237) rfl)
theorem cc_X7_init : Cond.code yX7_init cX7_init 3 none ∈ w0c := List.mem_append_left _ (List.mem_of_getElem? (i := 238) rfl)
theorem cf_7_49 : Cond.fieldLink RX7 49 "AlgebraicReals$Poly" "deg" "I" ∈ w0c := List.mem_append_left _ (List.mem_of_getElem? (i := 239) rfl)
theorem cf_7_53 : Cond.fieldLink RX7 53 "AlgebraicReals$Sturm" "length" "I" ∈ w0c := List.mem_append_left _ (List.mem_of_getElem? (i := 240) rfl)
theorem cf_7_68 : Cond.fieldLink RX7 68 "AlgebraicReals$Poly" "c" "[LAlgebraicReals$Big;" ∈ w0c := List.mem_append_left _ (List.mem_of_getElem? (i := 241) rfl)
theorem cf_7_94 : Cond.fieldLink RX7 94 "AlgebraicReals$Sturm" "lowest" "I" ∈ w0c := List.mem_append_left _ (List.mem_of_getElem? (i := 242) rfl)
theorem cf_7_97 : Cond.fieldLink RX7 97 "AlgebraicReals$Sturm" "count" "I" ∈ w0c := List.mem_append_left _ (List.mem_of_getElem? (i := 243) rfl)
theorem cl_X7_39 : Cond.methodLink RX7 39 yX4_copy ∈ w0c := List.mem_append_left _ (List.mem_of_getElem? (i := 244) rfl)
theorem ci_X4_copy : Cond.instanceMethod yX4_copy ∈ w0c := List.mem_append_left _ (List.mem_of_getElem? (i := 245) rfl)
theorem cs_X4_copy : Cond.selects RX4 yX4_copy yX4_copy ∈ w0c := List.mem_append_left _ (List.mem_of_getElem? (i := 246) rfl)
theorem cl_X7_43 : Cond.methodLink RX7 43 yX9_slope ∈ w0c := List.mem_append_left _ (List.mem_of_getElem? (i := 247) rfl)
theorem ci_X9_slope : Cond.instanceMethod yX9_slope ∈ w0c := List.mem_append_left _ (List.mem_of_getElem? (i := 248) rfl)
theorem cs_X9_slope : Cond.selects RX9 yX9_slope yX9_slope ∈ w0c := List.mem_append_left _ (List.mem_of_getElem? (i := 249) rfl)
theorem cl_X7_56 : Cond.methodLink RX7 56 yX0_put ∈ w0c := List.mem_append_left _ (List.mem_of_getElem? (i := 250) rfl)
theorem cl_X7_60 : Cond.methodLink RX7 60 yX9_leave ∈ w0c := List.mem_append_left _ (List.mem_of_getElem? (i := 251) rfl)
theorem ci_X9_leave : Cond.instanceMethod yX9_leave ∈ w0c := List.mem_append_left _ (List.mem_of_getElem? (i := 252) rfl)
theorem cs_X9_leave : Cond.selects RX9 yX9_leave yX9_leave ∈ w0c := List.mem_append_left _ (List.mem_of_getElem? (i := 253) rfl)
theorem cl_X7_64 : Cond.methodLink RX7 64 yX7_multiply ∈ w0c := List.mem_append_left _ (List.mem_of_getElem? (i := 254) rfl)
theorem ci_X7_multiply : Cond.instanceMethod yX7_multiply ∈ w0c := List.mem_append_left _ (List.mem_of_getElem? (i := 255) rfl)
theorem cs_X7_multiply : Cond.selects RX7 yX7_multiply yX7_multiply ∈ w0c := List.mem_append_left _ (List.mem_of_getElem? (i := 256) rfl)
theorem cn_RX7 : Cond.initialized RX7 ∈ w0c := List.mem_append_left _ (List.mem_of_getElem? (i := 257) rfl)
theorem cc_X7_multiply : Cond.code yX7_multiply cX7_multiply 5 none ∈ w0c := List.mem_append_left _ (List.mem_of_getElem? (i := 258) rfl)
theorem cl_X7_72 : Cond.methodLink RX7 72 yX0_copy ∈ w0c := List.mem_append_left _ (List.mem_of_getElem? (i := 259) rfl)
theorem cl_X7_100 : Cond.methodLink RX7 100 yX0_times ∈ w0c := List.mem_append_left _ (List.mem_of_getElem? (i := 260) rfl)
theorem cl_X7_75 : Cond.methodLink RX7 75 yX0_rest ∈ w0c := List.mem_append_left _ (List.mem_of_getElem? (i := 261) rfl)
theorem cl_X7_79 : Cond.methodLink RX7 79 yX0_flip ∈ w0c := List.mem_append_left _ (List.mem_of_getElem? (i := 262) rfl)
theorem cl_X7_82 : Cond.methodLink RX7 82 yX4_lead ∈ w0c := List.mem_append_left _ (List.mem_of_getElem? (i := 263) rfl)
theorem cl_X7_86 : Cond.methodLink RX7 86 yX7_advance ∈ w0c := List.mem_append_left _ (List.mem_of_getElem? (i := 264) rfl)
theorem ci_X7_advance : Cond.instanceMethod yX7_advance ∈ w0c := List.mem_append_left _ (List.mem_of_getElem? (i := 265) rfl)
theorem cs_X7_advance : Cond.selects RX7 yX7_advance yX7_advance ∈ w0c := List.mem_append_left _ (List.mem_of_getElem? (i := 266) rfl)
theorem cc_X7_advance : Cond.code yX7_advance cX7_advance 3 none ∈ w0c := List.mem_append_left _ (List.mem_of_getElem? (i := 267) rfl)
theorem cf_7_104 : Cond.fieldLink RX7 104 "AlgebraicReals$Big" "s" "I" ∈ w0c := List.mem_append_left _ (List.mem_of_getElem? (i := 268) rfl)
theorem cl_X7_107 : Cond.methodLink RX7 107 Lib.Math.abs.name ∈ w0c := List.mem_append_left _ (List.mem_of_getElem? (i := 269) rfl)
theorem cl_X7_90 : Cond.methodLink RX7 90 yX7_changesFar ∈ w0c := List.mem_append_left _ (List.mem_of_getElem? (i := 270) rfl)
theorem ci_X7_changesFar : Cond.instanceMethod yX7_changesFar ∈ w0c := List.mem_append_left _ (List.mem_of_getElem? (i := 271) rfl)
theorem cs_X7_changesFar : Cond.selects RX7 yX7_changesFar yX7_changesFar ∈ w0c := List.mem_append_left _ (List.mem_of_getElem? (i := 272) rfl)
theorem cc_X7_changesFar : Cond.code yX7_changesFar cX7_changesFar 6 (some .int) ∈ w0c := List.mem_append_left _ (List.mem_of_getElem? (i := 273) rfl)
theorem cc_X7_build : Cond.code yX7_build cX7_build 7 none ∈ w0c := List.mem_append_left _ (List.mem_of_getElem? (i := 274) rfl)
theorem cl_X7_113 : Cond.methodLink RX7 113 yX9_eval ∈ w0c := List.mem_append_left _ (List.mem_of_getElem? (i := 275) rfl)
theorem ci_X9_eval : Cond.instanceMethod yX9_eval ∈ w0c := List.mem_append_left _ (List.mem_of_getElem? (i := 276) rfl)
theorem cs_X9_eval : Cond.selects RX9 yX9_eval yX9_eval ∈ w0c := List.mem_append_left _ (List.mem_of_getElem? (i := 277) rfl)
theorem cc_X7_upTo : Cond.code yX7_upTo cX7_upTo 7 (some .int) ∈ w0c := List.mem_append_left _ (List.mem_of_getElem? (i := 278) rfl)
theorem cl_X7_125 : Cond.methodLink RX7 125 Lib.Math.max.name ∈ w0c := List.mem_append_left _ (List.mem_of_getElem? (i := 279) rfl)
theorem ck_X7_131 : Cond.constant RX7 131 (100000) ∈ w0c := List.mem_append_left _ (List.mem_of_getElem? (i := 280) rfl)
theorem cl_X7_117 : Cond.methodLink RX7 117 yX0_size ∈ w0c := List.mem_append_left _ (List.mem_of_getElem? (i := 281) rfl)
theorem cl_X7_121 : Cond.methodLink RX7 121 yJ9_floorDiv_7cf53 ∈ w0c := List.mem_append_left _ (List.mem_of_getElem? (i := 282) rfl)
theorem ct_J9_floorDiv_7cf53 : Cond.static yJ9_floorDiv_7cf53 ∈ w0c := List.mem_append_left _ (List.mem_of_getElem? (i := 283) rfl)
theorem cn_RJ9 : Cond.initialized RJ9 ∈ w0c := List.mem_append_left _ (List.mem_of_getElem? (i := 284) rfl)
theorem cc_J9_floorDiv_7cf53 : Cond.code yJ9_floorDiv_7cf53 cJ9_floorDiv_7cf53 3 (some .int) ∈ w0c := List.mem_append_left _ (List.mem_of_getElem? (i := 285) rfl)
theorem cl_X7_128 : Cond.methodLink RX7 128 yX0_raise ∈ w0c := List.mem_append_left _ (List.mem_of_getElem? (i := 286) rfl)
theorem cl_X7_132 : Cond.methodLink RX7 132 yX0_join ∈ w0c := List.mem_append_left _ (List.mem_of_getElem? (i := 287) rfl)
theorem cl_X7_135 : Cond.methodLink RX7 135 yX0_isOdd ∈ w0c := List.mem_append_left _ (List.mem_of_getElem? (i := 288) rfl)
theorem ci_X0_isOdd : Cond.instanceMethod yX0_isOdd ∈ w0c := List.mem_append_left _ (List.mem_of_getElem? (i := 289) rfl)
theorem cs_X0_isOdd : Cond.selects RX0 yX0_isOdd yX0_isOdd ∈ w0c := List.mem_append_left _ (List.mem_of_getElem? (i := 290) rfl)
theorem cl_X7_139 : Cond.methodLink RX7 139 yX0_lower ∈ w0c := List.mem_append_left _ (List.mem_of_getElem? (i := 291) rfl)
theorem ci_X0_lower : Cond.instanceMethod yX0_lower ∈ w0c := List.mem_append_left _ (List.mem_of_getElem? (i := 292) rfl)
theorem cs_X0_lower : Cond.selects RX0 yX0_lower yX0_lower ∈ w0c := List.mem_append_left _ (List.mem_of_getElem? (i := 293) rfl)
theorem cl_X7_143 : Cond.methodLink RX7 143 yX7_upTo ∈ w0c := List.mem_append_left _ (List.mem_of_getElem? (i := 294) rfl)
theorem ci_X7_upTo : Cond.instanceMethod yX7_upTo ∈ w0c := List.mem_append_left _ (List.mem_of_getElem? (i := 295) rfl)
theorem cs_X7_upTo : Cond.selects RX7 yX7_upTo yX7_upTo ∈ w0c := List.mem_append_left _ (List.mem_of_getElem? (i := 296) rfl)
theorem cc_X7_locate : Cond.code yX7_locate cX7_locate 11 (some .int) ∈ w0c := List.mem_append_left _ (List.mem_of_getElem? (i := 297) rfl)
theorem cl_X5_1 : Cond.methodLink RX5 1 objectInit ∈ w0c := List.mem_append_left _ (List.mem_of_getElem? (i := 298) rfl)
theorem ca_X5_7 : Cond.classLink RX5 7 RX4 ∈ w0c := List.mem_append_left _ (List.mem_of_getElem? (i := 299) rfl)
theorem cf_5_10 : Cond.fieldLink RX5 10 "AlgebraicReals$Real" "least" "LAlgebraicReals$Poly;" ∈ w0c := List.mem_append_left _ (List.mem_of_getElem? (i := 300) rfl)
theorem ca_X5_16 : Cond.classLink RX5 16 RX0 ∈ w0c := List.mem_append_left _ (List.mem_of_getElem? (i := 301) rfl)
theorem cf_5_19 : Cond.fieldLink RX5 19 "AlgebraicReals$Real" "lo" "LAlgebraicReals$Big;" ∈ w0c := List.mem_append_left _ (List.mem_of_getElem? (i := 302) rfl)
theorem cf_5_23 : Cond.fieldLink RX5 23 "AlgebraicReals$Real" "hi" "LAlgebraicReals$Big;" ∈ w0c := List.mem_append_left _ (List.mem_of_getElem? (i := 303) rfl)
theorem cl_X5_9 : Cond.methodLink RX5 9 yX4_init ∈ w0c := List.mem_append_left _ (List.mem_of_getElem? (i := 304) rfl)
theorem cc_X5_init : Cond.code yX5_init cX5_init 1 none ∈ w0c := List.mem_append_left _ (List.mem_of_getElem? (i := 305) rfl)
theorem cf_5_37 : Cond.fieldLink RX5 37 "AlgebraicReals$Real" "place" "I" ∈ w0c := List.mem_append_left _ (List.mem_of_getElem? (i := 306) rfl)
theorem cf_5_40 : Cond.fieldLink RX5 40 "AlgebraicReals$Real" "count" "I" ∈ w0c := List.mem_append_left _ (List.mem_of_getElem? (i := 307) rfl)
theorem cf_5_46 : Cond.fieldLink RX5 46 "AlgebraicReals$Poly" "c" "[LAlgebraicReals$Big;" ∈ w0c := List.mem_append_left _ (List.mem_of_getElem? (i := 308) rfl)
theorem cf_5_50 : Cond.fieldLink RX5 50 "AlgebraicReals$Big" "s" "I" ∈ w0c := List.mem_append_left _ (List.mem_of_getElem? (i := 309) rfl)
theorem cf_5_43 : Cond.fieldLink RX5 43 "AlgebraicReals$Real" "side" "I" ∈ w0c := List.mem_append_left _ (List.mem_of_getElem? (i := 310) rfl)
theorem cc_X5_single : Cond.code yX5_single cX5_single 1 none ∈ w0c := List.mem_append_left _ (List.mem_of_getElem? (i := 311) rfl)
theorem cl_X8_3 : Cond.methodLink RX8 3 objectInit ∈ w0c := List.mem_append_left _ (List.mem_of_getElem? (i := 312) rfl)
theorem cf_8_9 : Cond.fieldLink RX8 9 "AlgebraicReals$Texts" "tape" "[I" ∈ w0c := List.mem_append_left _ (List.mem_of_getElem? (i := 313) rfl)
theorem cf_8_15 : Cond.fieldLink RX8 15 "AlgebraicReals$Texts" "written" "[I" ∈ w0c := List.mem_append_left _ (List.mem_of_getElem? (i := 314) rfl)
theorem cf_8_18 : Cond.fieldLink RX8 18 "AlgebraicReals$Texts" "kinds" "[I" ∈ w0c := List.mem_append_left _ (List.mem_of_getElem? (i := 315) rfl)
theorem cf_8_21 : Cond.fieldLink RX8 21 "AlgebraicReals$Texts" "firsts" "[I" ∈ w0c := List.mem_append_left _ (List.mem_of_getElem? (i := 316) rfl)
theorem cf_8_24 : Cond.fieldLink RX8 24 "AlgebraicReals$Texts" "seconds" "[I" ∈ w0c := List.mem_append_left _ (List.mem_of_getElem? (i := 317) rfl)
theorem ca_X8_27 : Cond.classLink RX8 27 RX0 ∈ w0c := List.mem_append_left _ (List.mem_of_getElem? (i := 318) rfl)
theorem cf_8_30 : Cond.fieldLink RX8 30 "AlgebraicReals$Texts" "t" "LAlgebraicReals$Big;" ∈ w0c := List.mem_append_left _ (List.mem_of_getElem? (i := 319) rfl)
theorem cc_X8_init : Cond.code yX8_init cX8_init 1 none ∈ w0c := List.mem_append_left _ (List.mem_of_getElem? (i := 320) rfl)
theorem cf_8_34 : Cond.fieldLink RX8 34 "AlgebraicReals$Texts" "size" "I" ∈ w0c := List.mem_append_left _ (List.mem_of_getElem? (i := 321) rfl)
theorem cc_X8_take : Cond.code yX8_take cX8_take 3 none ∈ w0c := List.mem_append_left _ (List.mem_of_getElem? (i := 322) rfl)
theorem cf_8_38 : Cond.fieldLink RX8 38 "AlgebraicReals$Texts" "handles" "I" ∈ w0c := List.mem_append_left _ (List.mem_of_getElem? (i := 323) rfl)
theorem cf_8_41 : Cond.fieldLink RX8 41 "AlgebraicReals$Texts" "position" "I" ∈ w0c := List.mem_append_left _ (List.mem_of_getElem? (i := 324) rfl)
theorem cf_8_44 : Cond.fieldLink RX8 44 "AlgebraicReals$Texts" "steps" "I" ∈ w0c := List.mem_append_left _ (List.mem_of_getElem? (i := 325) rfl)
theorem cf_8_47 : Cond.fieldLink RX8 47 "AlgebraicReals$Texts" "wrong" "I" ∈ w0c := List.mem_append_left _ (List.mem_of_getElem? (i := 326) rfl)
theorem cf_8_57 : Cond.fieldLink RX8 57 "AlgebraicReals$Texts" "token" "I" ∈ w0c := List.mem_append_left _ (List.mem_of_getElem? (i := 327) rfl)
theorem cl_X8_50 : Cond.methodLink RX8 50 yX8_advance ∈ w0c := List.mem_append_left _ (List.mem_of_getElem? (i := 328) rfl)
theorem ci_X8_advance : Cond.instanceMethod yX8_advance ∈ w0c := List.mem_append_left _ (List.mem_of_getElem? (i := 329) rfl)
theorem cs_X8_advance : Cond.selects RX8 yX8_advance yX8_advance ∈ w0c := List.mem_append_left _ (List.mem_of_getElem? (i := 330) rfl)
theorem cn_RX8 : Cond.initialized RX8 ∈ w0c := List.mem_append_left _ (List.mem_of_getElem? (i := 331) rfl)
theorem cc_X8_advance : Cond.code yX8_advance cX8_advance 2 none ∈ w0c := List.mem_append_left _ (List.mem_of_getElem? (i := 332) rfl)
theorem cf_8_64 : Cond.fieldLink RX8 64 "AlgebraicReals$Texts" "place" "I" ∈ w0c := List.mem_append_left _ (List.mem_of_getElem? (i := 333) rfl)
theorem cf_8_70 : Cond.fieldLink RX8 70 "AlgebraicReals$Texts" "numbe\x72" "I" ∈ w0c := List.mem_append_left _ (List.mem_of_getElem? (i := 334) rfl)
theorem cl_X8_53 : Cond.methodLink RX8 53 yX8_sum ∈ w0c := List.mem_append_left _ (List.mem_of_getElem? (i := 335) rfl)
theorem ci_X8_sum : Cond.instanceMethod yX8_sum ∈ w0c := List.mem_append_left _ (List.mem_of_getElem? (i := 336) rfl)
theorem cs_X8_sum : Cond.selects RX8 yX8_sum yX8_sum ∈ w0c := List.mem_append_left _ (List.mem_of_getElem? (i := 337) rfl)
theorem cc_X8_sum : Cond.code yX8_sum cX8_sum 5 (some .boolean) ∈ w0c := List.mem_append_left _ (List.mem_of_getElem? (i := 338) rfl)
theorem cl_X8_76 : Cond.methodLink RX8 76 yX8_minus ∈ w0c := List.mem_append_left _ (List.mem_of_getElem? (i := 339) rfl)
theorem ci_X8_minus : Cond.instanceMethod yX8_minus ∈ w0c := List.mem_append_left _ (List.mem_of_getElem? (i := 340) rfl)
theorem cs_X8_minus : Cond.selects RX8 yX8_minus yX8_minus ∈ w0c := List.mem_append_left _ (List.mem_of_getElem? (i := 341) rfl)
theorem cc_X8_minus : Cond.code yX8_minus cX8_minus 1 (some .boolean) ∈ w0c := List.mem_append_left _ (List.mem_of_getElem? (i := 342) rfl)
theorem cl_X8_79 : Cond.methodLink RX8 79 yX8_product ∈ w0c := List.mem_append_left _ (List.mem_of_getElem? (i := 343) rfl)
theorem ci_X8_product : Cond.instanceMethod yX8_product ∈ w0c := List.mem_append_left _ (List.mem_of_getElem? (i := 344) rfl)
theorem cs_X8_product : Cond.selects RX8 yX8_product yX8_product ∈ w0c := List.mem_append_left _ (List.mem_of_getElem? (i := 345) rfl)
theorem cc_X8_atom : Cond.code yX8_atom cX8_atom 2 (some .boolean) ∈ w0c := List.mem_append_left _ (List.mem_of_getElem? (i := 346) rfl)
theorem cl_X8_60 : Cond.methodLink RX8 60 yX8_refuse ∈ w0c := List.mem_append_left _ (List.mem_of_getElem? (i := 347) rfl)
theorem ci_X8_refuse : Cond.instanceMethod yX8_refuse ∈ w0c := List.mem_append_left _ (List.mem_of_getElem? (i := 348) rfl)
theorem cs_X8_refuse : Cond.selects RX8 yX8_refuse yX8_refuse ∈ w0c := List.mem_append_left _ (List.mem_of_getElem? (i := 349) rfl)
theorem cc_X8_refuse : Cond.code yX8_refuse cX8_refuse 1 (some .boolean) ∈ w0c := List.mem_append_left _ (List.mem_of_getElem? (i := 350) rfl)
theorem ck_X8_106 : Cond.constant RX8 106 (999999999) ∈ w0c := List.mem_append_left _ (List.mem_of_getElem? (i := 351) rfl)
theorem cc_X8_product : Cond.code yX8_product cX8_product 4 (some .boolean) ∈ w0c := List.mem_append_left _ (List.mem_of_getElem? (i := 352) rfl)
theorem cl_X8_86 : Cond.methodLink RX8 86 yX8_raised ∈ w0c := List.mem_append_left _ (List.mem_of_getElem? (i := 353) rfl)
theorem ci_X8_raised : Cond.instanceMethod yX8_raised ∈ w0c := List.mem_append_left _ (List.mem_of_getElem? (i := 354) rfl)
theorem cs_X8_raised : Cond.selects RX8 yX8_raised yX8_raised ∈ w0c := List.mem_append_left _ (List.mem_of_getElem? (i := 355) rfl)
theorem cc_X8_raised : Cond.code yX8_raised cX8_raised 3 (some .boolean) ∈ w0c := List.mem_append_left _ (List.mem_of_getElem? (i := 356) rfl)
theorem cl_X8_89 : Cond.methodLink RX8 89 yX8_atom ∈ w0c := List.mem_append_left _ (List.mem_of_getElem? (i := 357) rfl)
theorem ci_X8_atom : Cond.instanceMethod yX8_atom ∈ w0c := List.mem_append_left _ (List.mem_of_getElem? (i := 358) rfl)
theorem cs_X8_atom : Cond.selects RX8 yX8_atom yX8_atom ∈ w0c := List.mem_append_left _ (List.mem_of_getElem? (i := 359) rfl)
theorem cc_X8_parse : Cond.code yX8_parse cX8_parse 2 (some .int) ∈ w0c := List.mem_append_left _ (List.mem_of_getElem? (i := 360) rfl)
theorem cl_X1_3 : Cond.methodLink RX1 3 objectInit ∈ w0c := List.mem_append_left _ (List.mem_of_getElem? (i := 361) rfl)
theorem ca_X1_9 : Cond.classLink RX1 9 RX6 ∈ w0c := List.mem_append_left _ (List.mem_of_getElem? (i := 362) rfl)
theorem cf_1_11 : Cond.fieldLink RX1 11 "AlgebraicReals$Cutte\x72" "factors" "[LAlgebraicReals$Row;" ∈ w0c := List.mem_append_left _ (List.mem_of_getElem? (i := 363) rfl)
theorem cf_1_18 : Cond.fieldLink RX1 18 "AlgebraicReals$Cutte\x72" "f" "LAlgebraicReals$Row;" ∈ w0c := List.mem_append_left _ (List.mem_of_getElem? (i := 364) rfl)
theorem cf_1_22 : Cond.fieldLink RX1 22 "AlgebraicReals$Cutte\x72" "g" "LAlgebraicReals$Row;" ∈ w0c := List.mem_append_left _ (List.mem_of_getElem? (i := 365) rfl)
theorem cf_1_25 : Cond.fieldLink RX1 25 "AlgebraicReals$Cutte\x72" "h" "LAlgebraicReals$Row;" ∈ w0c := List.mem_append_left _ (List.mem_of_getElem? (i := 366) rfl)
theorem cf_1_28 : Cond.fieldLink RX1 28 "AlgebraicReals$Cutte\x72" "v" "LAlgebraicReals$Row;" ∈ w0c := List.mem_append_left _ (List.mem_of_getElem? (i := 367) rfl)
theorem cf_1_31 : Cond.fieldLink RX1 31 "AlgebraicReals$Cutte\x72" "w" "LAlgebraicReals$Row;" ∈ w0c := List.mem_append_left _ (List.mem_of_getElem? (i := 368) rfl)
theorem ca_X1_36 : Cond.classLink RX1 36 "[[J" ∈ w0c := List.mem_append_left _ (List.mem_of_getElem? (i := 369) rfl)
theorem cf_1_38 : Cond.fieldLink RX1 38 "AlgebraicReals$Cutte\x72" "grid" "[[J" ∈ w0c := List.mem_append_left _ (List.mem_of_getElem? (i := 370) rfl)
theorem cf_1_41 : Cond.fieldLink RX1 41 "AlgebraicReals$Cutte\x72" "pivots" "[I" ∈ w0c := List.mem_append_left _ (List.mem_of_getElem? (i := 371) rfl)
theorem cc_X1_init : Cond.code yX1_init cX1_init 2 none ∈ w0c := List.mem_append_left _ (List.mem_of_getElem? (i := 372) rfl)
theorem cl_X3_3 : Cond.methodLink RX3 3 objectInit ∈ w0c := List.mem_append_left _ (List.mem_of_getElem? (i := 373) rfl)
theorem ca_X3_9 : Cond.classLink RX3 9 RX4 ∈ w0c := List.mem_append_left _ (List.mem_of_getElem? (i := 374) rfl)
theorem cf_3_11 : Cond.fieldLink RX3 11 "AlgebraicReals$Parte\x72" "found" "[LAlgebraicReals$Poly;" ∈ w0c := List.mem_append_left _ (List.mem_of_getElem? (i := 375) rfl)
theorem ca_X3_17 : Cond.classLink RX3 17 RX1 ∈ w0c := List.mem_append_left _ (List.mem_of_getElem? (i := 376) rfl)
theorem cw_X1 : Cond.instantiable RX1 9 ∈ w0c := List.mem_append_left _ (List.mem_of_getElem? (i := 377) rfl)
theorem cn_RX1 : Cond.initialized RX1 ∈ w0c := List.mem_append_left _ (List.mem_of_getElem? (i := 378) rfl)
theorem cf_3_20 : Cond.fieldLink RX3 20 "AlgebraicReals$Parte\x72" "cutte\x72" "LAlgebraicReals$Cutter;" ∈ w0c := List.mem_append_left _ (List.mem_of_getElem? (i := 379) rfl)
theorem cf_3_25 : Cond.fieldLink RX3 25 "AlgebraicReals$Parte\x72" "rest" "LAlgebraicReals$Poly;" ∈ w0c := List.mem_append_left _ (List.mem_of_getElem? (i := 380) rfl)
theorem cf_3_29 : Cond.fieldLink RX3 29 "AlgebraicReals$Parte\x72" "made" "LAlgebraicReals$Poly;" ∈ w0c := List.mem_append_left _ (List.mem_of_getElem? (i := 381) rfl)
theorem cf_3_32 : Cond.fieldLink RX3 32 "AlgebraicReals$Parte\x72" "othe\x72" "LAlgebraicReals$Poly;" ∈ w0c := List.mem_append_left _ (List.mem_of_getElem? (i := 382) rfl)
theorem ca_X3_35 : Cond.classLink RX3 35 RX6 ∈ w0c := List.mem_append_left _ (List.mem_of_getElem? (i := 383) rfl)
theorem cf_3_38 : Cond.fieldLink RX3 38 "AlgebraicReals$Parte\x72" "f" "LAlgebraicReals$Row;" ∈ w0c := List.mem_append_left _ (List.mem_of_getElem? (i := 384) rfl)
theorem cf_3_42 : Cond.fieldLink RX3 42 "AlgebraicReals$Parte\x72" "g" "LAlgebraicReals$Row;" ∈ w0c := List.mem_append_left _ (List.mem_of_getElem? (i := 385) rfl)
theorem cf_3_45 : Cond.fieldLink RX3 45 "AlgebraicReals$Parte\x72" "h" "LAlgebraicReals$Row;" ∈ w0c := List.mem_append_left _ (List.mem_of_getElem? (i := 386) rfl)
theorem cf_3_48 : Cond.fieldLink RX3 48 "AlgebraicReals$Parte\x72" "v" "LAlgebraicReals$Row;" ∈ w0c := List.mem_append_left _ (List.mem_of_getElem? (i := 387) rfl)
theorem cf_3_51 : Cond.fieldLink RX3 51 "AlgebraicReals$Parte\x72" "w" "LAlgebraicReals$Row;" ∈ w0c := List.mem_append_left _ (List.mem_of_getElem? (i := 388) rfl)
theorem cf_3_54 : Cond.fieldLink RX3 54 "AlgebraicReals$Parte\x72" "shares" "[LAlgebraicReals$Row;" ∈ w0c := List.mem_append_left _ (List.mem_of_getElem? (i := 389) rfl)
theorem cf_3_58 : Cond.fieldLink RX3 58 "AlgebraicReals$Parte\x72" "lifted" "[LAlgebraicReals$Poly;" ∈ w0c := List.mem_append_left _ (List.mem_of_getElem? (i := 390) rfl)
theorem ca_X3_61 : Cond.classLink RX3 61 RX0 ∈ w0c := List.mem_append_left _ (List.mem_of_getElem? (i := 391) rfl)
theorem cf_3_64 : Cond.fieldLink RX3 64 "AlgebraicReals$Parte\x72" "low" "LAlgebraicReals$Big;" ∈ w0c := List.mem_append_left _ (List.mem_of_getElem? (i := 392) rfl)
theorem cf_3_68 : Cond.fieldLink RX3 68 "AlgebraicReals$Parte\x72" "high" "LAlgebraicReals$Big;" ∈ w0c := List.mem_append_left _ (List.mem_of_getElem? (i := 393) rfl)
theorem cf_3_71 : Cond.fieldLink RX3 71 "AlgebraicReals$Parte\x72" "t" "LAlgebraicReals$Big;" ∈ w0c := List.mem_append_left _ (List.mem_of_getElem? (i := 394) rfl)
theorem cf_3_74 : Cond.fieldLink RX3 74 "AlgebraicReals$Parte\x72" "u" "LAlgebraicReals$Big;" ∈ w0c := List.mem_append_left _ (List.mem_of_getElem? (i := 395) rfl)
theorem cf_3_77 : Cond.fieldLink RX3 77 "AlgebraicReals$Parte\x72" "sum" "LAlgebraicReals$Big;" ∈ w0c := List.mem_append_left _ (List.mem_of_getElem? (i := 396) rfl)
theorem cf_3_80 : Cond.fieldLink RX3 80 "AlgebraicReals$Parte\x72" "tools" "LAlgebraicReals$Tools;" ∈ w0c := List.mem_append_left _ (List.mem_of_getElem? (i := 397) rfl)
theorem cl_X3_19 : Cond.methodLink RX3 19 yX1_init ∈ w0c := List.mem_append_left _ (List.mem_of_getElem? (i := 398) rfl)
theorem ci_X1_init : Cond.instanceMethod yX1_init ∈ w0c := List.mem_append_left _ (List.mem_of_getElem? (i := 399) rfl)
set_option maxRecDepth 100000 in
theorem cl_X3_24 : Cond.methodLink RX3 24 yX4_init ∈ w0c := List.mem_append_left _ (List.mem_of_getElem? (i := 400) rfl)
set_option maxRecDepth 100000 in
theorem cc_X3_init : Cond.code yX3_init cX3_init 3 none ∈ w0c := List.mem_append_left _ (List.mem_of_getElem? (i := 401) rfl)
set_option maxRecDepth 100000 in
theorem cl_X10_1 : Cond.methodLink RX10 1 objectInit ∈ w0c := List.mem_append_left _ (List.mem_of_getElem? (i := 402) rfl)
set_option maxRecDepth 100000 in
theorem cf_10_13 : Cond.fieldLink RX10 13 "AlgebraicReals$Zones" "x" "[LAlgebraicReals$Big;" ∈ w0c := List.mem_append_left _ (List.mem_of_getElem? (i := 403) rfl)
set_option maxRecDepth 100000 in
theorem cf_10_17 : Cond.fieldLink RX10 17 "AlgebraicReals$Zones" "y" "[LAlgebraicReals$Big;" ∈ w0c := List.mem_append_left _ (List.mem_of_getElem? (i := 404) rfl)
set_option maxRecDepth 100000 in
theorem cf_10_20 : Cond.fieldLink RX10 20 "AlgebraicReals$Zones" "z" "[LAlgebraicReals$Big;" ∈ w0c := List.mem_append_left _ (List.mem_of_getElem? (i := 405) rfl)
set_option maxRecDepth 100000 in
theorem cf_10_23 : Cond.fieldLink RX10 23 "AlgebraicReals$Zones" "work" "[LAlgebraicReals$Big;" ∈ w0c := List.mem_append_left _ (List.mem_of_getElem? (i := 406) rfl)
set_option maxRecDepth 100000 in
theorem ca_X10_26 : Cond.classLink RX10 26 RX0 ∈ w0c := List.mem_append_left _ (List.mem_of_getElem? (i := 407) rfl)
set_option maxRecDepth 100000 in
theorem cf_10_29 : Cond.fieldLink RX10 29 "AlgebraicReals$Zones" "t" "[LAlgebraicReals$Big;" ∈ w0c := List.mem_append_left _ (List.mem_of_getElem? (i := 408) rfl)
set_option maxRecDepth 100000 in
theorem cf_10_32 : Cond.fieldLink RX10 32 "AlgebraicReals$Zones" "width" "LAlgebraicReals$Big;" ∈ w0c := List.mem_append_left _ (List.mem_of_getElem? (i := 409) rfl)
set_option maxRecDepth 100000 in
theorem cf_10_36 : Cond.fieldLink RX10 36 "AlgebraicReals$Zones" "part" "LAlgebraicReals$Big;" ∈ w0c := List.mem_append_left _ (List.mem_of_getElem? (i := 410) rfl)
set_option maxRecDepth 100000 in
theorem cf_10_39 : Cond.fieldLink RX10 39 "AlgebraicReals$Zones" "mid" "LAlgebraicReals$Big;" ∈ w0c := List.mem_append_left _ (List.mem_of_getElem? (i := 411) rfl)
set_option maxRecDepth 100000 in
theorem cf_10_42 : Cond.fieldLink RX10 42 "AlgebraicReals$Zones" "othe\x72" "LAlgebraicReals$Big;" ∈ w0c := List.mem_append_left _ (List.mem_of_getElem? (i := 412) rfl)
set_option maxRecDepth 100000 in
theorem cf_10_45 : Cond.fieldLink RX10 45 "AlgebraicReals$Zones" "atLo" "LAlgebraicReals$Big;" ∈ w0c := List.mem_append_left _ (List.mem_of_getElem? (i := 413) rfl)
set_option maxRecDepth 100000 in
theorem cf_10_48 : Cond.fieldLink RX10 48 "AlgebraicReals$Zones" "atHi" "LAlgebraicReals$Big;" ∈ w0c := List.mem_append_left _ (List.mem_of_getElem? (i := 414) rfl)
set_option maxRecDepth 100000 in
theorem cf_10_51 : Cond.fieldLink RX10 51 "AlgebraicReals$Zones" "atMid" "LAlgebraicReals$Big;" ∈ w0c := List.mem_append_left _ (List.mem_of_getElem? (i := 415) rfl)
set_option maxRecDepth 100000 in
theorem cf_10_54 : Cond.fieldLink RX10 54 "AlgebraicReals$Zones" "atOthe\x72" "LAlgebraicReals$Big;" ∈ w0c := List.mem_append_left _ (List.mem_of_getElem? (i := 416) rfl)
set_option maxRecDepth 100000 in
theorem cf_10_57 : Cond.fieldLink RX10 57 "AlgebraicReals$Zones" "tools" "LAlgebraicReals$Tools;" ∈ w0c := List.mem_append_left _ (List.mem_of_getElem? (i := 417) rfl)
set_option maxRecDepth 100000 in
theorem cl_X10_7 : Cond.methodLink RX10 7 yX10_pair ∈ w0c := List.mem_append_left _ (List.mem_of_getElem? (i := 418) rfl)
set_option maxRecDepth 100000 in
theorem ct_X10_pair : Cond.static yX10_pair ∈ w0c := List.mem_append_left _ (List.mem_of_getElem? (i := 419) rfl)
set_option maxRecDepth 100000 in
theorem cn_RX10 : Cond.initialized RX10 ∈ w0c := List.mem_append_left _ (List.mem_of_getElem? (i := 420) rfl)
set_option maxRecDepth 100000 in
theorem cc_X10_pair : Cond.code yX10_pair cX10_pair 0 (some (.array (.object "AlgebraicReals$Big"))) ∈ w0c := List.mem_append_left _ (List.mem_of_getElem? (i := 421) rfl)
set_option maxRecDepth 100000 in
theorem cc_X10_init : Cond.code yX10_init cX10_init 2 none ∈ w0c := List.mem_append_left _ (List.mem_of_getElem? (i := 422) rfl)
set_option maxRecDepth 100000 in
theorem cl_X11_1 : Cond.methodLink RX11 1 objectInit ∈ w0c := List.mem_append_left _ (List.mem_of_getElem? (i := 423) rfl)
set_option maxRecDepth 100000 in
theorem ca_X11_9 : Cond.classLink RX11 9 RX5 ∈ w0c := List.mem_append_left _ (List.mem_of_getElem? (i := 424) rfl)
set_option maxRecDepth 100000 in
theorem cf_11_11 : Cond.fieldLink RX11 11 "AlgebraicReals" "numbers" "[LAlgebraicReals$Real;" ∈ w0c := List.mem_append_left _ (List.mem_of_getElem? (i := 425) rfl)
set_option maxRecDepth 100000 in
theorem ca_X11_15 : Cond.classLink RX11 15 RX4 ∈ w0c := List.mem_append_left _ (List.mem_of_getElem? (i := 426) rfl)
set_option maxRecDepth 100000 in
theorem cf_11_17 : Cond.fieldLink RX11 17 "AlgebraicReals" "told" "[LAlgebraicReals$Poly;" ∈ w0c := List.mem_append_left _ (List.mem_of_getElem? (i := 427) rfl)
set_option maxRecDepth 100000 in
theorem cf_11_21 : Cond.fieldLink RX11 21 "AlgebraicReals" "pieces" "[LAlgebraicReals$Poly;" ∈ w0c := List.mem_append_left _ (List.mem_of_getElem? (i := 428) rfl)
set_option maxRecDepth 100000 in
theorem cf_11_24 : Cond.fieldLink RX11 24 "AlgebraicReals" "times" "[I" ∈ w0c := List.mem_append_left _ (List.mem_of_getElem? (i := 429) rfl)
set_option maxRecDepth 100000 in
theorem cw_X5 : Cond.instantiable RX5 7 ∈ w0c := List.mem_append_left _ (List.mem_of_getElem? (i := 430) rfl)
set_option maxRecDepth 100000 in
theorem cn_RX5 : Cond.initialized RX5 ∈ w0c := List.mem_append_left _ (List.mem_of_getElem? (i := 431) rfl)
set_option maxRecDepth 100000 in
theorem cf_11_29 : Cond.fieldLink RX11 29 "AlgebraicReals" "fresh" "LAlgebraicReals$Real;" ∈ w0c := List.mem_append_left _ (List.mem_of_getElem? (i := 432) rfl)
set_option maxRecDepth 100000 in
theorem cf_11_33 : Cond.fieldLink RX11 33 "AlgebraicReals" "stack" "[LAlgebraicReals$Real;" ∈ w0c := List.mem_append_left _ (List.mem_of_getElem? (i := 433) rfl)
set_option maxRecDepth 100000 in
theorem ca_X11_36 : Cond.classLink RX11 36 RX9 ∈ w0c := List.mem_append_left _ (List.mem_of_getElem? (i := 434) rfl)
set_option maxRecDepth 100000 in
theorem cw_X9 : Cond.instantiable RX9 8 ∈ w0c := List.mem_append_left _ (List.mem_of_getElem? (i := 435) rfl)
set_option maxRecDepth 100000 in
theorem cf_11_39 : Cond.fieldLink RX11 39 "AlgebraicReals" "tools" "LAlgebraicReals$Tools;" ∈ w0c := List.mem_append_left _ (List.mem_of_getElem? (i := 436) rfl)
set_option maxRecDepth 100000 in
theorem ca_X11_43 : Cond.classLink RX11 43 RX2 ∈ w0c := List.mem_append_left _ (List.mem_of_getElem? (i := 437) rfl)
set_option maxRecDepth 100000 in
theorem cw_X2 : Cond.instantiable RX2 19 ∈ w0c := List.mem_append_left _ (List.mem_of_getElem? (i := 438) rfl)
set_option maxRecDepth 100000 in
theorem cf_11_48 : Cond.fieldLink RX11 48 "AlgebraicReals" "norms" "LAlgebraicReals$Norms;" ∈ w0c := List.mem_append_left _ (List.mem_of_getElem? (i := 439) rfl)
set_option maxRecDepth 100000 in
theorem ca_X11_52 : Cond.classLink RX11 52 RX3 ∈ w0c := List.mem_append_left _ (List.mem_of_getElem? (i := 440) rfl)
set_option maxRecDepth 100000 in
theorem cw_X3 : Cond.instantiable RX3 19 ∈ w0c := List.mem_append_left _ (List.mem_of_getElem? (i := 441) rfl)
set_option maxRecDepth 100000 in
theorem cn_RX3 : Cond.initialized RX3 ∈ w0c := List.mem_append_left _ (List.mem_of_getElem? (i := 442) rfl)
set_option maxRecDepth 100000 in
theorem cf_11_55 : Cond.fieldLink RX11 55 "AlgebraicReals" "parte\x72" "LAlgebraicReals$Parter;" ∈ w0c := List.mem_append_left _ (List.mem_of_getElem? (i := 443) rfl)
set_option maxRecDepth 100000 in
theorem ca_X11_59 : Cond.classLink RX11 59 RX7 ∈ w0c := List.mem_append_left _ (List.mem_of_getElem? (i := 444) rfl)
set_option maxRecDepth 100000 in
theorem cw_X7 : Cond.instantiable RX7 10 ∈ w0c := List.mem_append_left _ (List.mem_of_getElem? (i := 445) rfl)
set_option maxRecDepth 100000 in
theorem cf_11_62 : Cond.fieldLink RX11 62 "AlgebraicReals" "sturm" "LAlgebraicReals$Sturm;" ∈ w0c := List.mem_append_left _ (List.mem_of_getElem? (i := 446) rfl)
set_option maxRecDepth 100000 in
theorem ca_X11_66 : Cond.classLink RX11 66 RX10 ∈ w0c := List.mem_append_left _ (List.mem_of_getElem? (i := 447) rfl)
set_option maxRecDepth 100000 in
theorem cw_X10 : Cond.instantiable RX10 21 ∈ w0c := List.mem_append_left _ (List.mem_of_getElem? (i := 448) rfl)
set_option maxRecDepth 100000 in
theorem cf_11_69 : Cond.fieldLink RX11 69 "AlgebraicReals" "zones" "LAlgebraicReals$Zones;" ∈ w0c := List.mem_append_left _ (List.mem_of_getElem? (i := 449) rfl)
set_option maxRecDepth 100000 in
theorem ca_X11_73 : Cond.classLink RX11 73 RX8 ∈ w0c := List.mem_append_left _ (List.mem_of_getElem? (i := 450) rfl)
set_option maxRecDepth 100000 in
theorem cw_X8 : Cond.instantiable RX8 15 ∈ w0c := List.mem_append_left _ (List.mem_of_getElem? (i := 451) rfl)
set_option maxRecDepth 100000 in
theorem cf_11_76 : Cond.fieldLink RX11 76 "AlgebraicReals" "texts" "LAlgebraicReals$Texts;" ∈ w0c := List.mem_append_left _ (List.mem_of_getElem? (i := 452) rfl)
set_option maxRecDepth 100000 in
theorem ca_X11_80 : Cond.classLink RX11 80 RX0 ∈ w0c := List.mem_append_left _ (List.mem_of_getElem? (i := 453) rfl)
set_option maxRecDepth 100000 in
theorem cf_11_83 : Cond.fieldLink RX11 83 "AlgebraicReals" "u" "LAlgebraicReals$Big;" ∈ w0c := List.mem_append_left _ (List.mem_of_getElem? (i := 454) rfl)
set_option maxRecDepth 100000 in
theorem cf_11_87 : Cond.fieldLink RX11 87 "AlgebraicReals" "v" "LAlgebraicReals$Big;" ∈ w0c := List.mem_append_left _ (List.mem_of_getElem? (i := 455) rfl)
set_option maxRecDepth 100000 in
theorem cf_11_90 : Cond.fieldLink RX11 90 "AlgebraicReals" "w" "LAlgebraicReals$Big;" ∈ w0c := List.mem_append_left _ (List.mem_of_getElem? (i := 456) rfl)
set_option maxRecDepth 100000 in
theorem cf_11_93 : Cond.fieldLink RX11 93 "AlgebraicReals" "scale" "LAlgebraicReals$Big;" ∈ w0c := List.mem_append_left _ (List.mem_of_getElem? (i := 457) rfl)
set_option maxRecDepth 100000 in
theorem cl_X11_96 : Cond.methodLink RX11 96 Lib.Math.min.name ∈ w0c := List.mem_append_left _ (List.mem_of_getElem? (i := 458) rfl)
set_option maxRecDepth 100000 in
theorem cl_X11_102 : Cond.methodLink RX11 102 Lib.Math.max.name ∈ w0c := List.mem_append_left _ (List.mem_of_getElem? (i := 459) rfl)
set_option maxRecDepth 100000 in
theorem cf_11_105 : Cond.fieldLink RX11 105 "AlgebraicReals" "most" "I" ∈ w0c := List.mem_append_left _ (List.mem_of_getElem? (i := 460) rfl)
set_option maxRecDepth 100000 in
theorem ci_X5_init : Cond.instanceMethod yX5_init ∈ w0c := List.mem_append_left _ (List.mem_of_getElem? (i := 461) rfl)
set_option maxRecDepth 100000 in
theorem ci_X9_init : Cond.instanceMethod yX9_init ∈ w0c := List.mem_append_left _ (List.mem_of_getElem? (i := 462) rfl)
set_option maxRecDepth 100000 in
theorem cl_X11_45 : Cond.methodLink RX11 45 yX2_init ∈ w0c := List.mem_append_left _ (List.mem_of_getElem? (i := 463) rfl)
set_option maxRecDepth 100000 in
theorem ci_X2_init : Cond.instanceMethod yX2_init ∈ w0c := List.mem_append_left _ (List.mem_of_getElem? (i := 464) rfl)
set_option maxRecDepth 100000 in
theorem cl_X11_54 : Cond.methodLink RX11 54 yX3_init ∈ w0c := List.mem_append_left _ (List.mem_of_getElem? (i := 465) rfl)
set_option maxRecDepth 100000 in
theorem ci_X3_init : Cond.instanceMethod yX3_init ∈ w0c := List.mem_append_left _ (List.mem_of_getElem? (i := 466) rfl)
set_option maxRecDepth 100000 in
theorem cl_X11_61 : Cond.methodLink RX11 61 yX7_init ∈ w0c := List.mem_append_left _ (List.mem_of_getElem? (i := 467) rfl)
set_option maxRecDepth 100000 in
theorem ci_X7_init : Cond.instanceMethod yX7_init ∈ w0c := List.mem_append_left _ (List.mem_of_getElem? (i := 468) rfl)
set_option maxRecDepth 100000 in
theorem cl_X11_68 : Cond.methodLink RX11 68 yX10_init ∈ w0c := List.mem_append_left _ (List.mem_of_getElem? (i := 469) rfl)
set_option maxRecDepth 100000 in
theorem ci_X10_init : Cond.instanceMethod yX10_init ∈ w0c := List.mem_append_left _ (List.mem_of_getElem? (i := 470) rfl)
set_option maxRecDepth 100000 in
theorem ci_X8_init : Cond.instanceMethod yX8_init ∈ w0c := List.mem_append_left _ (List.mem_of_getElem? (i := 471) rfl)
set_option maxRecDepth 100000 in
theorem cc_X11_init : Cond.code yX11_init cX11_init 2 none ∈ w0c := List.mem_append_left _ (List.mem_of_getElem? (i := 472) rfl)
set_option maxRecDepth 100000 in
theorem ca_X11_109 : Cond.classLink RX11 109 "java/lang/ArithmeticException" ∈ w0c := List.mem_append_left _ (List.mem_of_getElem? (i := 473) rfl)
set_option maxRecDepth 100000 in
theorem cn_java_lang_ArithmeticException : Cond.initialized "java/lang/ArithmeticException" ∈ w0c := List.mem_append_left _ (List.mem_of_getElem? (i := 474) rfl)
set_option maxRecDepth 100000 in
theorem cl_X11_112 : Cond.methodLink RX11 112 yX11_ratio ∈ w0c := List.mem_append_left _ (List.mem_of_getElem? (i := 475) rfl)
set_option maxRecDepth 100000 in
theorem ci_X11_ratio : Cond.instanceMethod yX11_ratio ∈ w0c := List.mem_append_left _ (List.mem_of_getElem? (i := 476) rfl)
set_option maxRecDepth 100000 in
theorem cs_X11_ratio : Cond.selects RX11 yX11_ratio yX11_ratio ∈ w0c := List.mem_append_left _ (List.mem_of_getElem? (i := 477) rfl)
set_option maxRecDepth 100000 in
theorem cn_RX11 : Cond.initialized RX11 ∈ w0c := List.mem_append_left _ (List.mem_of_getElem? (i := 478) rfl)
set_option maxRecDepth 100000 in
theorem cc_X11_ratio : Cond.code yX11_ratio cX11_ratio 6 none ∈ w0c := List.mem_append_left _ (List.mem_of_getElem? (i := 479) rfl)
set_option maxRecDepth 100000 in
theorem cf_11_168 : Cond.fieldLink RX11 168 "AlgebraicReals$Real" "least" "LAlgebraicReals$Poly;" ∈ w0c := List.mem_append_left _ (List.mem_of_getElem? (i := 480) rfl)
set_option maxRecDepth 100000 in
theorem cf_11_243 : Cond.fieldLink RX11 243 "AlgebraicReals$Poly" "c" "[LAlgebraicReals$Big;" ∈ w0c := List.mem_append_left _ (List.mem_of_getElem? (i := 481) rfl)
set_option maxRecDepth 100000 in
theorem cf_11_191 : Cond.fieldLink RX11 191 "AlgebraicReals$Poly" "deg" "I" ∈ w0c := List.mem_append_left _ (List.mem_of_getElem? (i := 482) rfl)
set_option maxRecDepth 100000 in
theorem cl_X11_277 : Cond.methodLink RX11 277 yX0_put ∈ w0c := List.mem_append_left _ (List.mem_of_getElem? (i := 483) rfl)
set_option maxRecDepth 100000 in
theorem cl_X11_306 : Cond.methodLink RX11 306 yX0_flip ∈ w0c := List.mem_append_left _ (List.mem_of_getElem? (i := 484) rfl)
set_option maxRecDepth 100000 in
theorem cl_X11_365 : Cond.methodLink RX11 365 yX9_tidy ∈ w0c := List.mem_append_left _ (List.mem_of_getElem? (i := 485) rfl)
set_option maxRecDepth 100000 in
theorem cl_X11_368 : Cond.methodLink RX11 368 yX5_single ∈ w0c := List.mem_append_left _ (List.mem_of_getElem? (i := 486) rfl)
set_option maxRecDepth 100000 in
theorem ci_X5_single : Cond.instanceMethod yX5_single ∈ w0c := List.mem_append_left _ (List.mem_of_getElem? (i := 487) rfl)
set_option maxRecDepth 100000 in
theorem cs_X5_single : Cond.selects RX5 yX5_single yX5_single ∈ w0c := List.mem_append_left _ (List.mem_of_getElem? (i := 488) rfl)
set_option maxRecDepth 100000 in
theorem cl_X11_116 : Cond.methodLink RX11 116 yX11_keep ∈ w0c := List.mem_append_left _ (List.mem_of_getElem? (i := 489) rfl)
set_option maxRecDepth 100000 in
theorem ci_X11_keep : Cond.instanceMethod yX11_keep ∈ w0c := List.mem_append_left _ (List.mem_of_getElem? (i := 490) rfl)
set_option maxRecDepth 100000 in
theorem cs_X11_keep : Cond.selects RX11 yX11_keep yX11_keep ∈ w0c := List.mem_append_left _ (List.mem_of_getElem? (i := 491) rfl)
set_option maxRecDepth 100000 in
theorem cc_X11_keep : Cond.code yX11_keep cX11_keep 2 (some .int) ∈ w0c := List.mem_append_left _ (List.mem_of_getElem? (i := 492) rfl)
set_option maxRecDepth 100000 in
theorem cf_11_208 : Cond.fieldLink RX11 208 "AlgebraicReals" "count" "I" ∈ w0c := List.mem_append_left _ (List.mem_of_getElem? (i := 493) rfl)
set_option maxRecDepth 100000 in
theorem cc_X11_fraction : Cond.code yX11_fraction cX11_fraction 5 (some .int) ∈ w0c := List.mem_append_left _ (List.mem_of_getElem? (i := 494) rfl)
set_option maxRecDepth 100000 in
theorem cl_X11_120 : Cond.methodLink RX11 120 yX11_isNone ∈ w0c := List.mem_append_left _ (List.mem_of_getElem? (i := 495) rfl)
set_option maxRecDepth 100000 in
theorem ci_X11_isNone : Cond.instanceMethod yX11_isNone ∈ w0c := List.mem_append_left _ (List.mem_of_getElem? (i := 496) rfl)
set_option maxRecDepth 100000 in
theorem cs_X11_isNone : Cond.selects RX11 yX11_isNone yX11_isNone ∈ w0c := List.mem_append_left _ (List.mem_of_getElem? (i := 497) rfl)
set_option maxRecDepth 100000 in
theorem cc_X11_isNone : Cond.code yX11_isNone cX11_isNone 2 (some .boolean) ∈ w0c := List.mem_append_left _ (List.mem_of_getElem? (i := 498) rfl)
set_option maxRecDepth 100000 in
theorem cf_11_135 : Cond.fieldLink RX11 135 "AlgebraicReals$Real" "side" "I" ∈ w0c := List.mem_append_left _ (List.mem_of_getElem? (i := 499) rfl)
set_option maxRecDepth 100000 in
theorem cf_11_178 : Cond.fieldLink RX11 178 "AlgebraicReals$Norms" "left" "LAlgebraicReals$Poly;" ∈ w0c := List.mem_append_left _ (List.mem_of_getElem? (i := 500) rfl)
set_option maxRecDepth 100000 in
theorem cf_11_184 : Cond.fieldLink RX11 184 "AlgebraicReals$Zones" "a" "LAlgebraicReals$Real;" ∈ w0c := List.mem_append_left _ (List.mem_of_getElem? (i := 501) rfl)
set_option maxRecDepth 100000 in
theorem cf_11_371 : Cond.fieldLink RX11 371 "AlgebraicReals$Zones" "b" "LAlgebraicReals$Real;" ∈ w0c := List.mem_append_left _ (List.mem_of_getElem? (i := 502) rfl)
set_option maxRecDepth 100000 in
theorem cf_11_187 : Cond.fieldLink RX11 187 "AlgebraicReals$Zones" "ove\x72" "Z" ∈ w0c := List.mem_append_left _ (List.mem_of_getElem? (i := 503) rfl)
set_option maxRecDepth 100000 in
theorem cf_11_374 : Cond.fieldLink RX11 374 "AlgebraicReals$Zones" "facto\x72" "I" ∈ w0c := List.mem_append_left _ (List.mem_of_getElem? (i := 504) rfl)
set_option maxRecDepth 100000 in
theorem cf_11_377 : Cond.fieldLink RX11 377 "AlgebraicReals$Zones" "kind" "I" ∈ w0c := List.mem_append_left _ (List.mem_of_getElem? (i := 505) rfl)
set_option maxRecDepth 100000 in
theorem cf_11_181 : Cond.fieldLink RX11 181 "AlgebraicReals$Norms" "right" "LAlgebraicReals$Poly;" ∈ w0c := List.mem_append_left _ (List.mem_of_getElem? (i := 506) rfl)
set_option maxRecDepth 100000 in
theorem cf_11_197 : Cond.fieldLink RX11 197 "AlgebraicReals$Norms" "made" "LAlgebraicReals$Poly;" ∈ w0c := List.mem_append_left _ (List.mem_of_getElem? (i := 507) rfl)
set_option maxRecDepth 100000 in
theorem cl_X11_172 : Cond.methodLink RX11 172 yX4_copy ∈ w0c := List.mem_append_left _ (List.mem_of_getElem? (i := 508) rfl)
set_option maxRecDepth 100000 in
theorem cl_X4_44 : Cond.methodLink RX4 44 Lib.Math.abs.name ∈ w0c := List.mem_append_left _ (List.mem_of_getElem? (i := 509) rfl)
set_option maxRecDepth 100000 in
theorem cl_X4_48 : Cond.methodLink RX4 48 yX0_scale ∈ w0c := List.mem_append_left _ (List.mem_of_getElem? (i := 510) rfl)
set_option maxRecDepth 100000 in
theorem cl_X4_52 : Cond.methodLink RX4 52 yX0_flip ∈ w0c := List.mem_append_left _ (List.mem_of_getElem? (i := 511) rfl)
set_option maxRecDepth 100000 in
theorem cf_2_73 : Cond.fieldLink RX2 73 "AlgebraicReals$Norms" "kind" "I" ∈ w0c := List.mem_append_left _ (List.mem_of_getElem? (i := 512) rfl)
set_option maxRecDepth 100000 in
theorem cl_X2_80 : Cond.methodLink RX2 80 Lib.Math.min.name ∈ w0c := List.mem_append_left _ (List.mem_of_getElem? (i := 513) rfl)
set_option maxRecDepth 100000 in
theorem cf_2_86 : Cond.fieldLink RX2 86 "AlgebraicReals$Norms" "whole" "I" ∈ w0c := List.mem_append_left _ (List.mem_of_getElem? (i := 514) rfl)
set_option maxRecDepth 100000 in
theorem cl_X2_133 : Cond.methodLink RX2 133 Lib.Math.max.name ∈ w0c := List.mem_append_left _ (List.mem_of_getElem? (i := 515) rfl)
set_option maxRecDepth 100000 in
theorem cl_X4_36 : Cond.methodLink RX4 36 yX0_size ∈ w0c := List.mem_append_left _ (List.mem_of_getElem? (i := 516) rfl)
set_option maxRecDepth 100000 in
theorem cf_2_132 : Cond.fieldLink RX2 132 "AlgebraicReals$Row" "deg" "I" ∈ w0c := List.mem_append_left _ (List.mem_of_getElem? (i := 517) rfl)
set_option maxRecDepth 100000 in
theorem cf_2_143 : Cond.fieldLink RX2 143 "AlgebraicReals$Norms" "lead" "J" ∈ w0c := List.mem_append_left _ (List.mem_of_getElem? (i := 518) rfl)
set_option maxRecDepth 100000 in
theorem cl_X2_118 : Cond.methodLink RX2 118 yX0_size ∈ w0c := List.mem_append_left _ (List.mem_of_getElem? (i := 519) rfl)
set_option maxRecDepth 100000 in
theorem cf_9_50 : Cond.fieldLink RX9 50 "AlgebraicReals$Tools" "found" "I" ∈ w0c := List.mem_append_left _ (List.mem_of_getElem? (i := 520) rfl)
set_option maxRecDepth 100000 in
theorem ck_X9_54 : Cond.constant RX9 54 (1040000000) ∈ w0c := List.mem_append_left _ (List.mem_of_getElem? (i := 521) rfl)
set_option maxRecDepth 100000 in
theorem cl_X9_44 : Cond.methodLink RX9 44 yJ7_copyOf_59c91 ∈ w0c := List.mem_append_left _ (List.mem_of_getElem? (i := 522) rfl)
set_option maxRecDepth 100000 in
theorem cf_2_180 : Cond.fieldLink RX2 180 "AlgebraicReals$Row" "c" "[J" ∈ w0c := List.mem_append_left _ (List.mem_of_getElem? (i := 523) rfl)
set_option maxRecDepth 100000 in
theorem cf_6_27 : Cond.fieldLink RX6 27 "AlgebraicReals$Poly" "deg" "I" ∈ w0c := List.mem_append_left _ (List.mem_of_getElem? (i := 524) rfl)
set_option maxRecDepth 100000 in
theorem cf_6_30 : Cond.fieldLink RX6 30 "AlgebraicReals$Poly" "c" "[LAlgebraicReals$Big;" ∈ w0c := List.mem_append_left _ (List.mem_of_getElem? (i := 525) rfl)
set_option maxRecDepth 100000 in
theorem cl_X6_51 : Cond.methodLink RX6 51 Lib.Math.max.name ∈ w0c := List.mem_append_left _ (List.mem_of_getElem? (i := 526) rfl)
set_option maxRecDepth 100000 in
theorem cl_X6_54 : Cond.methodLink RX6 54 Lib.Math.min.name ∈ w0c := List.mem_append_left _ (List.mem_of_getElem? (i := 527) rfl)
set_option maxRecDepth 100000 in
theorem cl_X2_140 : Cond.methodLink RX2 140 yX0_clear ∈ w0c := List.mem_append_left _ (List.mem_of_getElem? (i := 528) rfl)
set_option maxRecDepth 100000 in
theorem cl_X2_228 : Cond.methodLink RX2 228 yX0_scale ∈ w0c := List.mem_append_left _ (List.mem_of_getElem? (i := 529) rfl)
set_option maxRecDepth 100000 in
theorem cl_X2_163 : Cond.methodLink RX2 163 yX0_join ∈ w0c := List.mem_append_left _ (List.mem_of_getElem? (i := 530) rfl)
set_option maxRecDepth 100000 in
theorem cl_X2_155 : Cond.methodLink RX2 155 yX0_raise ∈ w0c := List.mem_append_left _ (List.mem_of_getElem? (i := 531) rfl)
set_option maxRecDepth 100000 in
theorem cl_X2_107 : Cond.methodLink RX2 107 yX4_copy ∈ w0c := List.mem_append_left _ (List.mem_of_getElem? (i := 532) rfl)
set_option maxRecDepth 100000 in
theorem cl_X9_111 : Cond.methodLink RX9 111 yX4_copy ∈ w0c := List.mem_append_left _ (List.mem_of_getElem? (i := 533) rfl)
set_option maxRecDepth 100000 in
theorem cl_X2_170 : Cond.methodLink RX2 170 yX9_slope ∈ w0c := List.mem_append_left _ (List.mem_of_getElem? (i := 534) rfl)
set_option maxRecDepth 100000 in
theorem cf_3_84 : Cond.fieldLink RX3 84 "AlgebraicReals$Parte\x72" "size" "I" ∈ w0c := List.mem_append_left _ (List.mem_of_getElem? (i := 535) rfl)
set_option maxRecDepth 100000 in
theorem cl_X3_88 : Cond.methodLink RX3 88 yX4_copy ∈ w0c := List.mem_append_left _ (List.mem_of_getElem? (i := 536) rfl)
set_option maxRecDepth 100000 in
theorem cf_3_92 : Cond.fieldLink RX3 92 "AlgebraicReals$Poly" "deg" "I" ∈ w0c := List.mem_append_left _ (List.mem_of_getElem? (i := 537) rfl)
set_option maxRecDepth 100000 in
theorem cf_3_105 : Cond.fieldLink RX3 105 "AlgebraicReals$Cutte\x72" "pieces" "I" ∈ w0c := List.mem_append_left _ (List.mem_of_getElem? (i := 538) rfl)
set_option maxRecDepth 100000 in
theorem cf_3_115 : Cond.fieldLink RX3 115 "AlgebraicReals$Cutte\x72" "factors" "[LAlgebraicReals$Row;" ∈ w0c := List.mem_append_left _ (List.mem_of_getElem? (i := 539) rfl)
set_option maxRecDepth 100000 in
theorem cf_3_118 : Cond.fieldLink RX3 118 "AlgebraicReals$Row" "deg" "I" ∈ w0c := List.mem_append_left _ (List.mem_of_getElem? (i := 540) rfl)
set_option maxRecDepth 100000 in
theorem cf_3_119 : Cond.fieldLink RX3 119 "AlgebraicReals$Poly" "c" "[LAlgebraicReals$Big;" ∈ w0c := List.mem_append_left _ (List.mem_of_getElem? (i := 541) rfl)
set_option maxRecDepth 100000 in
theorem cf_3_123 : Cond.fieldLink RX3 123 "AlgebraicReals$Row" "c" "[J" ∈ w0c := List.mem_append_left _ (List.mem_of_getElem? (i := 542) rfl)
set_option maxRecDepth 100000 in
theorem cf_1_49 : Cond.fieldLink RX1 49 "AlgebraicReals$Row" "deg" "I" ∈ w0c := List.mem_append_left _ (List.mem_of_getElem? (i := 543) rfl)
set_option maxRecDepth 100000 in
theorem cf_1_53 : Cond.fieldLink RX1 53 "AlgebraicReals$Poly" "deg" "I" ∈ w0c := List.mem_append_left _ (List.mem_of_getElem? (i := 544) rfl)
set_option maxRecDepth 100000 in
theorem cf_1_69 : Cond.fieldLink RX1 69 "AlgebraicReals$Row" "c" "[J" ∈ w0c := List.mem_append_left _ (List.mem_of_getElem? (i := 545) rfl)
set_option maxRecDepth 100000 in
theorem cf_1_91 : Cond.fieldLink RX1 91 "AlgebraicReals$Cutte\x72" "pieces" "I" ∈ w0c := List.mem_append_left _ (List.mem_of_getElem? (i := 546) rfl)
set_option maxRecDepth 100000 in
theorem ck_X1_98 : Cond.constant RX1 98 (2097152) ∈ w0c := List.mem_append_left _ (List.mem_of_getElem? (i := 547) rfl)
set_option maxRecDepth 100000 in
theorem cj_X1_103 : Cond.constantLong RX1 103 (2) ∈ w0c := List.mem_append_left _ (List.mem_of_getElem? (i := 548) rfl)
set_option maxRecDepth 100000 in
theorem cl_X3_126 : Cond.methodLink RX3 126 yX0_put ∈ w0c := List.mem_append_left _ (List.mem_of_getElem? (i := 549) rfl)
set_option maxRecDepth 100000 in
theorem cl_X3_133 : Cond.methodLink RX3 133 yX0_size ∈ w0c := List.mem_append_left _ (List.mem_of_getElem? (i := 550) rfl)
set_option maxRecDepth 100000 in
theorem cl_X3_170 : Cond.methodLink RX3 170 yX4_lead ∈ w0c := List.mem_append_left _ (List.mem_of_getElem? (i := 551) rfl)
set_option maxRecDepth 100000 in
theorem cl_X3_178 : Cond.methodLink RX3 178 yX0_scale ∈ w0c := List.mem_append_left _ (List.mem_of_getElem? (i := 552) rfl)
set_option maxRecDepth 100000 in
theorem cl_X3_202 : Cond.methodLink RX3 202 Lib.Math.min.name ∈ w0c := List.mem_append_left _ (List.mem_of_getElem? (i := 553) rfl)
set_option maxRecDepth 100000 in
theorem cl_X3_211 : Cond.methodLink RX3 211 Lib.Math.max.name ∈ w0c := List.mem_append_left _ (List.mem_of_getElem? (i := 554) rfl)
set_option maxRecDepth 100000 in
theorem cl_X3_193 : Cond.methodLink RX3 193 yX0_rest ∈ w0c := List.mem_append_left _ (List.mem_of_getElem? (i := 555) rfl)
set_option maxRecDepth 100000 in
theorem cl_X3_208 : Cond.methodLink RX3 208 yX0_clear ∈ w0c := List.mem_append_left _ (List.mem_of_getElem? (i := 556) rfl)
set_option maxRecDepth 100000 in
theorem cl_X3_214 : Cond.methodLink RX3 214 yX0_times ∈ w0c := List.mem_append_left _ (List.mem_of_getElem? (i := 557) rfl)
set_option maxRecDepth 100000 in
theorem cl_X3_185 : Cond.methodLink RX3 185 yX0_join ∈ w0c := List.mem_append_left _ (List.mem_of_getElem? (i := 558) rfl)
set_option maxRecDepth 100000 in
theorem cl_X0_95 : Cond.methodLink RX0 95 yX0_rest ∈ w0c := List.mem_append_left _ (List.mem_of_getElem? (i := 559) rfl)
set_option maxRecDepth 100000 in
theorem cl_X0_60 : Cond.methodLink RX0 60 yX0_put ∈ w0c := List.mem_append_left _ (List.mem_of_getElem? (i := 560) rfl)
set_option maxRecDepth 100000 in
theorem cl_X0_102 : Cond.methodLink RX0 102 yX0_join ∈ w0c := List.mem_append_left _ (List.mem_of_getElem? (i := 561) rfl)
set_option maxRecDepth 100000 in
theorem cl_X3_199 : Cond.methodLink RX3 199 yX0_copy ∈ w0c := List.mem_append_left _ (List.mem_of_getElem? (i := 562) rfl)
set_option maxRecDepth 100000 in
theorem cn_RJ6 : Cond.initialized RJ6 ∈ w0c := List.mem_append_left _ (List.mem_of_getElem? (i := 563) rfl)
set_option maxRecDepth 100000 in
theorem ck_J6_265 : Cond.constant RJ6 265 (1431655765) ∈ w0c := List.mem_append_left _ (List.mem_of_getElem? (i := 564) rfl)
set_option maxRecDepth 100000 in
theorem ck_J6_266 : Cond.constant RJ6 266 (858993459) ∈ w0c := List.mem_append_left _ (List.mem_of_getElem? (i := 565) rfl)
set_option maxRecDepth 100000 in
theorem ck_J6_267 : Cond.constant RJ6 267 (252645135) ∈ w0c := List.mem_append_left _ (List.mem_of_getElem? (i := 566) rfl)
set_option maxRecDepth 100000 in
theorem cf_3_242 : Cond.fieldLink RX3 242 "AlgebraicReals$Big" "s" "I" ∈ w0c := List.mem_append_left _ (List.mem_of_getElem? (i := 567) rfl)
set_option maxRecDepth 100000 in
theorem cl_X3_226 : Cond.methodLink RX3 226 yX0_raise ∈ w0c := List.mem_append_left _ (List.mem_of_getElem? (i := 568) rfl)
set_option maxRecDepth 100000 in
theorem cl_X3_234 : Cond.methodLink RX3 234 yX4_trim ∈ w0c := List.mem_append_left _ (List.mem_of_getElem? (i := 569) rfl)
set_option maxRecDepth 100000 in
theorem cl_X3_235 : Cond.methodLink RX3 235 yX9_tidy ∈ w0c := List.mem_append_left _ (List.mem_of_getElem? (i := 570) rfl)
set_option maxRecDepth 100000 in
theorem cf_11_294 : Cond.fieldLink RX11 294 "AlgebraicReals$Parte\x72" "size" "I" ∈ w0c := List.mem_append_left _ (List.mem_of_getElem? (i := 571) rfl)
set_option maxRecDepth 100000 in
theorem cf_11_440 : Cond.fieldLink RX11 440 "AlgebraicReals$Zones" "e" "I" ∈ w0c := List.mem_append_left _ (List.mem_of_getElem? (i := 572) rfl)
set_option maxRecDepth 100000 in
theorem cf_11_257 : Cond.fieldLink RX11 257 "AlgebraicReals$Zones" "x" "[LAlgebraicReals$Big;" ∈ w0c := List.mem_append_left _ (List.mem_of_getElem? (i := 573) rfl)
set_option maxRecDepth 100000 in
theorem cf_11_264 : Cond.fieldLink RX11 264 "AlgebraicReals$Zones" "y" "[LAlgebraicReals$Big;" ∈ w0c := List.mem_append_left _ (List.mem_of_getElem? (i := 574) rfl)
set_option maxRecDepth 100000 in
theorem cf_11_270 : Cond.fieldLink RX11 270 "AlgebraicReals$Parte\x72" "found" "[LAlgebraicReals$Poly;" ∈ w0c := List.mem_append_left _ (List.mem_of_getElem? (i := 575) rfl)
set_option maxRecDepth 100000 in
theorem cf_10_114 : Cond.fieldLink RX10 114 "AlgebraicReals$Real" "least" "LAlgebraicReals$Poly;" ∈ w0c := List.mem_append_left _ (List.mem_of_getElem? (i := 576) rfl)
set_option maxRecDepth 100000 in
theorem cf_10_119 : Cond.fieldLink RX10 119 "AlgebraicReals$Poly" "deg" "I" ∈ w0c := List.mem_append_left _ (List.mem_of_getElem? (i := 577) rfl)
set_option maxRecDepth 100000 in
theorem cf_10_124 : Cond.fieldLink RX10 124 "AlgebraicReals$Poly" "c" "[LAlgebraicReals$Big;" ∈ w0c := List.mem_append_left _ (List.mem_of_getElem? (i := 578) rfl)
set_option maxRecDepth 100000 in
theorem cf_10_111 : Cond.fieldLink RX10 111 "AlgebraicReals$Big" "s" "I" ∈ w0c := List.mem_append_left _ (List.mem_of_getElem? (i := 579) rfl)
set_option maxRecDepth 100000 in
theorem cf_10_145 : Cond.fieldLink RX10 145 "AlgebraicReals$Real" "lo" "LAlgebraicReals$Big;" ∈ w0c := List.mem_append_left _ (List.mem_of_getElem? (i := 580) rfl)
set_option maxRecDepth 100000 in
theorem cf_10_148 : Cond.fieldLink RX10 148 "AlgebraicReals$Real" "e" "I" ∈ w0c := List.mem_append_left _ (List.mem_of_getElem? (i := 581) rfl)
set_option maxRecDepth 100000 in
theorem cf_10_153 : Cond.fieldLink RX10 153 "AlgebraicReals$Real" "hi" "LAlgebraicReals$Big;" ∈ w0c := List.mem_append_left _ (List.mem_of_getElem? (i := 582) rfl)
set_option maxRecDepth 100000 in
theorem cl_X10_127 : Cond.methodLink RX10 127 yX0_raise ∈ w0c := List.mem_append_left _ (List.mem_of_getElem? (i := 583) rfl)
set_option maxRecDepth 100000 in
theorem cl_X10_131 : Cond.methodLink RX10 131 yX0_flip ∈ w0c := List.mem_append_left _ (List.mem_of_getElem? (i := 584) rfl)
set_option maxRecDepth 100000 in
theorem cl_X10_86 : Cond.methodLink RX10 86 yX0_copy ∈ w0c := List.mem_append_left _ (List.mem_of_getElem? (i := 585) rfl)
set_option maxRecDepth 100000 in
theorem ck_X10_181 : Cond.constant RX10 181 (100000) ∈ w0c := List.mem_append_left _ (List.mem_of_getElem? (i := 586) rfl)
set_option maxRecDepth 100000 in
theorem cl_X10_182 : Cond.methodLink RX10 182 Lib.Math.min.name ∈ w0c := List.mem_append_left _ (List.mem_of_getElem? (i := 587) rfl)
set_option maxRecDepth 100000 in
theorem cl_X10_186 : Cond.methodLink RX10 186 Lib.Math.max.name ∈ w0c := List.mem_append_left _ (List.mem_of_getElem? (i := 588) rfl)
set_option maxRecDepth 100000 in
theorem cl_X10_103 : Cond.methodLink RX10 103 yX0_join ∈ w0c := List.mem_append_left _ (List.mem_of_getElem? (i := 589) rfl)
set_option maxRecDepth 100000 in
theorem cl_X10_177 : Cond.methodLink RX10 177 yX0_size ∈ w0c := List.mem_append_left _ (List.mem_of_getElem? (i := 590) rfl)
set_option maxRecDepth 100000 in
theorem cl_X10_171 : Cond.methodLink RX10 171 yX9_eval ∈ w0c := List.mem_append_left _ (List.mem_of_getElem? (i := 591) rfl)
set_option maxRecDepth 100000 in
theorem cl_X10_149 : Cond.methodLink RX10 149 yX0_lower ∈ w0c := List.mem_append_left _ (List.mem_of_getElem? (i := 592) rfl)
set_option maxRecDepth 100000 in
theorem cl_X10_189 : Cond.methodLink RX10 189 yX0_rest ∈ w0c := List.mem_append_left _ (List.mem_of_getElem? (i := 593) rfl)
set_option maxRecDepth 100000 in
theorem cl_X10_156 : Cond.methodLink RX10 156 yX0_put ∈ w0c := List.mem_append_left _ (List.mem_of_getElem? (i := 594) rfl)
set_option maxRecDepth 100000 in
theorem cl_X10_160 : Cond.methodLink RX10 160 yX0_times ∈ w0c := List.mem_append_left _ (List.mem_of_getElem? (i := 595) rfl)
set_option maxRecDepth 100000 in
theorem cf_10_61 : Cond.fieldLink RX10 61 "AlgebraicReals$Zones" "e" "I" ∈ w0c := List.mem_append_left _ (List.mem_of_getElem? (i := 596) rfl)
set_option maxRecDepth 100000 in
theorem cf_10_65 : Cond.fieldLink RX10 65 "AlgebraicReals$Zones" "kind" "I" ∈ w0c := List.mem_append_left _ (List.mem_of_getElem? (i := 597) rfl)
set_option maxRecDepth 100000 in
theorem cf_10_70 : Cond.fieldLink RX10 70 "AlgebraicReals$Zones" "ove\x72" "Z" ∈ w0c := List.mem_append_left _ (List.mem_of_getElem? (i := 598) rfl)
set_option maxRecDepth 100000 in
theorem cf_10_78 : Cond.fieldLink RX10 78 "AlgebraicReals$Zones" "f" "LAlgebraicReals$Poly;" ∈ w0c := List.mem_append_left _ (List.mem_of_getElem? (i := 599) rfl)
set_option maxRecDepth 100000 in
theorem cf_10_90 : Cond.fieldLink RX10 90 "AlgebraicReals$Zones" "facto\x72" "I" ∈ w0c := List.mem_append_left _ (List.mem_of_getElem? (i := 600) rfl)
set_option maxRecDepth 100000 in
theorem cl_X10_93 : Cond.methodLink RX10 93 Lib.Math.abs.name ∈ w0c := List.mem_append_left _ (List.mem_of_getElem? (i := 601) rfl)
set_option maxRecDepth 100000 in
theorem cl_X10_168 : Cond.methodLink RX10 168 yX0_clear ∈ w0c := List.mem_append_left _ (List.mem_of_getElem? (i := 602) rfl)
set_option maxRecDepth 100000 in
theorem cl_X10_99 : Cond.methodLink RX10 99 yX0_scale ∈ w0c := List.mem_append_left _ (List.mem_of_getElem? (i := 603) rfl)
set_option maxRecDepth 100000 in
theorem cf_11_449 : Cond.fieldLink RX11 449 "AlgebraicReals$Zones" "z" "[LAlgebraicReals$Big;" ∈ w0c := List.mem_append_left _ (List.mem_of_getElem? (i := 604) rfl)
set_option maxRecDepth 100000 in
theorem cf_11_328 : Cond.fieldLink RX11 328 "AlgebraicReals$Real" "lo" "LAlgebraicReals$Big;" ∈ w0c := List.mem_append_left _ (List.mem_of_getElem? (i := 605) rfl)
set_option maxRecDepth 100000 in
theorem cf_11_318 : Cond.fieldLink RX11 318 "AlgebraicReals$Real" "hi" "LAlgebraicReals$Big;" ∈ w0c := List.mem_append_left _ (List.mem_of_getElem? (i := 606) rfl)
set_option maxRecDepth 100000 in
theorem cf_11_321 : Cond.fieldLink RX11 321 "AlgebraicReals$Real" "e" "I" ∈ w0c := List.mem_append_left _ (List.mem_of_getElem? (i := 607) rfl)
set_option maxRecDepth 100000 in
theorem cl_X11_200 : Cond.methodLink RX11 200 yX7_build ∈ w0c := List.mem_append_left _ (List.mem_of_getElem? (i := 608) rfl)
set_option maxRecDepth 100000 in
theorem ci_X7_build : Cond.instanceMethod yX7_build ∈ w0c := List.mem_append_left _ (List.mem_of_getElem? (i := 609) rfl)
set_option maxRecDepth 100000 in
theorem cs_X7_build : Cond.selects RX7 yX7_build yX7_build ∈ w0c := List.mem_append_left _ (List.mem_of_getElem? (i := 610) rfl)
set_option maxRecDepth 100000 in
theorem cl_X11_426 : Cond.methodLink RX11 426 yX7_upTo ∈ w0c := List.mem_append_left _ (List.mem_of_getElem? (i := 611) rfl)
set_option maxRecDepth 100000 in
theorem cl_X11_452 : Cond.methodLink RX11 452 yX0_copy ∈ w0c := List.mem_append_left _ (List.mem_of_getElem? (i := 612) rfl)
set_option maxRecDepth 100000 in
theorem cl_X11_423 : Cond.methodLink RX11 423 yX11_finish ∈ w0c := List.mem_append_left _ (List.mem_of_getElem? (i := 613) rfl)
set_option maxRecDepth 100000 in
theorem ci_X11_finish : Cond.instanceMethod yX11_finish ∈ w0c := List.mem_append_left _ (List.mem_of_getElem? (i := 614) rfl)
set_option maxRecDepth 100000 in
theorem cs_X11_finish : Cond.selects RX11 yX11_finish yX11_finish ∈ w0c := List.mem_append_left _ (List.mem_of_getElem? (i := 615) rfl)
set_option maxRecDepth 100000 in
theorem cc_X11_finish : Cond.code yX11_finish cX11_finish 1 none ∈ w0c := List.mem_append_left _ (List.mem_of_getElem? (i := 616) rfl)
set_option maxRecDepth 100000 in
theorem cf_11_203 : Cond.fieldLink RX11 203 "AlgebraicReals$Sturm" "count" "I" ∈ w0c := List.mem_append_left _ (List.mem_of_getElem? (i := 617) rfl)
set_option maxRecDepth 100000 in
theorem cf_11_158 : Cond.fieldLink RX11 158 "AlgebraicReals$Real" "count" "I" ∈ w0c := List.mem_append_left _ (List.mem_of_getElem? (i := 618) rfl)
set_option maxRecDepth 100000 in
theorem cf_11_161 : Cond.fieldLink RX11 161 "AlgebraicReals$Real" "place" "I" ∈ w0c := List.mem_append_left _ (List.mem_of_getElem? (i := 619) rfl)
set_option maxRecDepth 100000 in
theorem cl_X11_430 : Cond.methodLink RX11 430 yX0_clear ∈ w0c := List.mem_append_left _ (List.mem_of_getElem? (i := 620) rfl)
set_option maxRecDepth 100000 in
theorem cc_X11_apply : Cond.code yX11_apply cX11_apply 5 (some .int) ∈ w0c := List.mem_append_left _ (List.mem_of_getElem? (i := 621) rfl)
set_option maxRecDepth 100000 in
theorem cc_X11_plain : Cond.code yX11_plain cX11_plain 4 (some .int) ∈ w0c := List.mem_append_left _ (List.mem_of_getElem? (i := 622) rfl)
set_option maxRecDepth 100000 in
theorem cl_X11_227 : Cond.methodLink RX11 227 Lib.Math.abs.name ∈ w0c := List.mem_append_left _ (List.mem_of_getElem? (i := 623) rfl)
set_option maxRecDepth 100000 in
theorem cl_X11_392 : Cond.methodLink RX11 392 yX4_monomial ∈ w0c := List.mem_append_left _ (List.mem_of_getElem? (i := 624) rfl)
set_option maxRecDepth 100000 in
theorem cf_11_395 : Cond.fieldLink RX11 395 "AlgebraicReals$Zones" "f" "LAlgebraicReals$Poly;" ∈ w0c := List.mem_append_left _ (List.mem_of_getElem? (i := 625) rfl)
set_option maxRecDepth 100000 in
theorem cc_X11_power : Cond.code yX11_power cX11_power 4 (some .int) ∈ w0c := List.mem_append_left _ (List.mem_of_getElem? (i := 626) rfl)
set_option maxRecDepth 100000 in
theorem cf_5_33 : Cond.fieldLink RX5 33 "AlgebraicReals$Real" "e" "I" ∈ w0c := List.mem_append_left _ (List.mem_of_getElem? (i := 627) rfl)
set_option maxRecDepth 100000 in
theorem cl_X5_26 : Cond.methodLink RX5 26 yX4_copy ∈ w0c := List.mem_append_left _ (List.mem_of_getElem? (i := 628) rfl)
set_option maxRecDepth 100000 in
theorem cl_X5_30 : Cond.methodLink RX5 30 yX0_copy ∈ w0c := List.mem_append_left _ (List.mem_of_getElem? (i := 629) rfl)
set_option maxRecDepth 100000 in
theorem cf_11_437 : Cond.fieldLink RX11 437 "AlgebraicReals$Big" "s" "I" ∈ w0c := List.mem_append_left _ (List.mem_of_getElem? (i := 630) rfl)
set_option maxRecDepth 100000 in
theorem cl_X11_419 : Cond.methodLink RX11 419 yX7_locate ∈ w0c := List.mem_append_left _ (List.mem_of_getElem? (i := 631) rfl)
set_option maxRecDepth 100000 in
theorem ci_X7_locate : Cond.instanceMethod yX7_locate ∈ w0c := List.mem_append_left _ (List.mem_of_getElem? (i := 632) rfl)
set_option maxRecDepth 100000 in
theorem cs_X7_locate : Cond.selects RX7 yX7_locate yX7_locate ∈ w0c := List.mem_append_left _ (List.mem_of_getElem? (i := 633) rfl)
set_option maxRecDepth 100000 in
theorem cl_X11_433 : Cond.methodLink RX11 433 yX9_eval ∈ w0c := List.mem_append_left _ (List.mem_of_getElem? (i := 634) rfl)
set_option maxRecDepth 100000 in
theorem cc_X11_root : Cond.code yX11_root cX11_root 4 (some .int) ∈ w0c := List.mem_append_left _ (List.mem_of_getElem? (i := 635) rfl)
set_option maxRecDepth 100000 in
theorem cl_X11_151 : Cond.methodLink RX11 151 yX11_circle ∈ w0c := List.mem_append_left _ (List.mem_of_getElem? (i := 636) rfl)
set_option maxRecDepth 100000 in
theorem ci_X11_circle : Cond.instanceMethod yX11_circle ∈ w0c := List.mem_append_left _ (List.mem_of_getElem? (i := 637) rfl)
set_option maxRecDepth 100000 in
theorem cs_X11_circle : Cond.selects RX11 yX11_circle yX11_circle ∈ w0c := List.mem_append_left _ (List.mem_of_getElem? (i := 638) rfl)
set_option maxRecDepth 100000 in
theorem cc_X11_circle : Cond.code yX11_circle cX11_circle 10 (some .int) ∈ w0c := List.mem_append_left _ (List.mem_of_getElem? (i := 639) rfl)
set_option maxRecDepth 100000 in
theorem cl_X11_401 : Cond.methodLink RX11 401 yJ9_floorMod_f86c9 ∈ w0c := List.mem_append_left _ (List.mem_of_getElem? (i := 640) rfl)
set_option maxRecDepth 100000 in
theorem ct_J9_floorMod_f86c9 : Cond.static yJ9_floorMod_f86c9 ∈ w0c := List.mem_append_left _ (List.mem_of_getElem? (i := 641) rfl)
set_option maxRecDepth 100000 in
theorem cc_J9_floorMod_f86c9 : Cond.code yJ9_floorMod_f86c9 cJ9_floorMod_f86c9 6 (some .long) ∈ w0c := List.mem_append_left _ (List.mem_of_getElem? (i := 642) rfl)
set_option maxRecDepth 100000 in
theorem cl_X11_405 : Cond.methodLink RX11 405 yJ9_floorMod_7cf53 ∈ w0c := List.mem_append_left _ (List.mem_of_getElem? (i := 643) rfl)
set_option maxRecDepth 100000 in
theorem ct_J9_floorMod_7cf53 : Cond.static yJ9_floorMod_7cf53 ∈ w0c := List.mem_append_left _ (List.mem_of_getElem? (i := 644) rfl)
set_option maxRecDepth 100000 in
theorem cc_J9_floorMod_7cf53 : Cond.code yJ9_floorMod_7cf53 cJ9_floorMod_7cf53 3 (some .int) ∈ w0c := List.mem_append_left _ (List.mem_of_getElem? (i := 645) rfl)
set_option maxRecDepth 100000 in
theorem cl_X11_407 : Cond.methodLink RX11 407 yX6_shared ∈ w0c := List.mem_append_left _ (List.mem_of_getElem? (i := 646) rfl)
set_option maxRecDepth 100000 in
theorem cl_X11_412 : Cond.methodLink RX11 412 yX6_units ∈ w0c := List.mem_append_left _ (List.mem_of_getElem? (i := 647) rfl)
set_option maxRecDepth 100000 in
theorem ct_X6_units : Cond.static yX6_units ∈ w0c := List.mem_append_left _ (List.mem_of_getElem? (i := 648) rfl)
set_option maxRecDepth 100000 in
theorem cl_X11_415 : Cond.methodLink RX11 415 yX2_cosines ∈ w0c := List.mem_append_left _ (List.mem_of_getElem? (i := 649) rfl)
set_option maxRecDepth 100000 in
theorem ci_X2_cosines : Cond.instanceMethod yX2_cosines ∈ w0c := List.mem_append_left _ (List.mem_of_getElem? (i := 650) rfl)
set_option maxRecDepth 100000 in
theorem cs_X2_cosines : Cond.selects RX2 yX2_cosines yX2_cosines ∈ w0c := List.mem_append_left _ (List.mem_of_getElem? (i := 651) rfl)
set_option maxRecDepth 100000 in
theorem cl_X11_155 : Cond.methodLink RX11 155 yX11_takePlace ∈ w0c := List.mem_append_left _ (List.mem_of_getElem? (i := 652) rfl)
set_option maxRecDepth 100000 in
theorem ci_X11_takePlace : Cond.instanceMethod yX11_takePlace ∈ w0c := List.mem_append_left _ (List.mem_of_getElem? (i := 653) rfl)
set_option maxRecDepth 100000 in
theorem cs_X11_takePlace : Cond.selects RX11 yX11_takePlace yX11_takePlace ∈ w0c := List.mem_append_left _ (List.mem_of_getElem? (i := 654) rfl)
set_option maxRecDepth 100000 in
theorem cc_X11_takePlace : Cond.code yX11_takePlace cX11_takePlace 1 (some .int) ∈ w0c := List.mem_append_left _ (List.mem_of_getElem? (i := 655) rfl)
set_option maxRecDepth 100000 in
theorem cc_X11_turn : Cond.code yX11_turn cX11_turn 6 (some .int) ∈ w0c := List.mem_append_left _ (List.mem_of_getElem? (i := 656) rfl)
set_option maxRecDepth 100000 in
theorem cc_X11_beside : Cond.code yX11_beside cX11_beside 3 (some .int) ∈ w0c := List.mem_append_left _ (List.mem_of_getElem? (i := 657) rfl)
set_option maxRecDepth 100000 in
theorem cl_X11_175 : Cond.methodLink RX11 175 yX11_isUntold ∈ w0c := List.mem_append_left _ (List.mem_of_getElem? (i := 658) rfl)
set_option maxRecDepth 100000 in
theorem ci_X11_isUntold : Cond.instanceMethod yX11_isUntold ∈ w0c := List.mem_append_left _ (List.mem_of_getElem? (i := 659) rfl)
set_option maxRecDepth 100000 in
theorem cs_X11_isUntold : Cond.selects RX11 yX11_isUntold yX11_isUntold ∈ w0c := List.mem_append_left _ (List.mem_of_getElem? (i := 660) rfl)
set_option maxRecDepth 100000 in
theorem cc_X11_isUntold : Cond.code yX11_isUntold cX11_isUntold 2 (some .boolean) ∈ w0c := List.mem_append_left _ (List.mem_of_getElem? (i := 661) rfl)
set_option maxRecDepth 100000 in
theorem cf_11_273 : Cond.fieldLink RX11 273 "AlgebraicReals" "toldCount" "I" ∈ w0c := List.mem_append_left _ (List.mem_of_getElem? (i := 662) rfl)
set_option maxRecDepth 100000 in
theorem cc_X11_value : Cond.code yX11_value cX11_value 4 (some .int) ∈ w0c := List.mem_append_left _ (List.mem_of_getElem? (i := 663) rfl)
set_option maxRecDepth 100000 in
theorem cc_X11_rootOf : Cond.code yX11_rootOf cX11_rootOf 4 (some .int) ∈ w0c := List.mem_append_left _ (List.mem_of_getElem? (i := 664) rfl)
set_option maxRecDepth 100000 in
theorem cc_X11_common : Cond.code yX11_common cX11_common 4 (some .int) ∈ w0c := List.mem_append_left _ (List.mem_of_getElem? (i := 665) rfl)
set_option maxRecDepth 100000 in
theorem cf_11_212 : Cond.fieldLink RX11 212 "AlgebraicReals$Texts" "steps" "I" ∈ w0c := List.mem_append_left _ (List.mem_of_getElem? (i := 666) rfl)
set_option maxRecDepth 100000 in
theorem cf_11_215 : Cond.fieldLink RX11 215 "AlgebraicReals$Texts" "kinds" "[I" ∈ w0c := List.mem_append_left _ (List.mem_of_getElem? (i := 667) rfl)
set_option maxRecDepth 100000 in
theorem cf_11_218 : Cond.fieldLink RX11 218 "AlgebraicReals$Texts" "firsts" "[I" ∈ w0c := List.mem_append_left _ (List.mem_of_getElem? (i := 668) rfl)
set_option maxRecDepth 100000 in
theorem cf_11_221 : Cond.fieldLink RX11 221 "AlgebraicReals$Texts" "seconds" "[I" ∈ w0c := List.mem_append_left _ (List.mem_of_getElem? (i := 669) rfl)
set_option maxRecDepth 100000 in
theorem cl_X11_209 : Cond.methodLink RX11 209 yX8_parse ∈ w0c := List.mem_append_left _ (List.mem_of_getElem? (i := 670) rfl)
set_option maxRecDepth 100000 in
theorem ci_X8_parse : Cond.instanceMethod yX8_parse ∈ w0c := List.mem_append_left _ (List.mem_of_getElem? (i := 671) rfl)
set_option maxRecDepth 100000 in
theorem cs_X8_parse : Cond.selects RX8 yX8_parse yX8_parse ∈ w0c := List.mem_append_left _ (List.mem_of_getElem? (i := 672) rfl)
set_option maxRecDepth 100000 in
theorem cl_X5_57 : Cond.methodLink RX5 57 yX0_flip ∈ w0c := List.mem_append_left _ (List.mem_of_getElem? (i := 673) rfl)
set_option maxRecDepth 100000 in
theorem cc_X11_read : Cond.code yX11_read cX11_read 11 (some .int) ∈ w0c := List.mem_append_left _ (List.mem_of_getElem? (i := 674) rfl)
set_option maxRecDepth 100000 in
theorem cc_X11_drop : Cond.code yX11_drop cX11_drop 1 (some .int) ∈ w0c := List.mem_append_left _ (List.mem_of_getElem? (i := 675) rfl)
set_option maxRecDepth 100000 in
theorem cl_X11_247 : Cond.methodLink RX11 247 yX0_times ∈ w0c := List.mem_append_left _ (List.mem_of_getElem? (i := 676) rfl)
set_option maxRecDepth 100000 in
theorem cl_X11_459 : Cond.methodLink RX11 459 yX0_raise ∈ w0c := List.mem_append_left _ (List.mem_of_getElem? (i := 677) rfl)
set_option maxRecDepth 100000 in
theorem cc_X11_compare : Cond.code yX11_compare cX11_compare 6 (some .int) ∈ w0c := List.mem_append_left _ (List.mem_of_getElem? (i := 678) rfl)
set_option maxRecDepth 100000 in
theorem cc_X11_sign : Cond.code yX11_sign cX11_sign 2 (some .int) ∈ w0c := List.mem_append_left _ (List.mem_of_getElem? (i := 679) rfl)
set_option maxRecDepth 100000 in
theorem cc_X11_about : Cond.code yX11_about cX11_about 3 (some .int) ∈ w0c := List.mem_append_left _ (List.mem_of_getElem? (i := 680) rfl)
set_option maxRecDepth 100000 in
theorem cc_X11_within : Cond.code yX11_within cX11_within 5 (some .int) ∈ w0c := List.mem_append_left _ (List.mem_of_getElem? (i := 681) rfl)
set_option maxRecDepth 100000 in
theorem cl_X11_276 : Cond.methodLink RX11 276 yX4_init ∈ w0c := List.mem_append_left _ (List.mem_of_getElem? (i := 682) rfl)
set_option maxRecDepth 100000 in
theorem cc_X11_polynomial : Cond.code yX11_polynomial cX11_polynomial 1 (some .int) ∈ w0c := List.mem_append_left _ (List.mem_of_getElem? (i := 683) rfl)
set_option maxRecDepth 100000 in
theorem cl_X11_281 : Cond.methodLink RX11 281 yX4_trim ∈ w0c := List.mem_append_left _ (List.mem_of_getElem? (i := 684) rfl)
set_option maxRecDepth 100000 in
theorem cc_X11_coefficient : Cond.code yX11_coefficient cX11_coefficient 5 (some .int) ∈ w0c := List.mem_append_left _ (List.mem_of_getElem? (i := 685) rfl)
set_option maxRecDepth 100000 in
theorem cc_X11_roots : Cond.code yX11_roots cX11_roots 2 (some .int) ∈ w0c := List.mem_append_left _ (List.mem_of_getElem? (i := 686) rfl)
set_option maxRecDepth 100000 in
theorem cc_X11_between : Cond.code yX11_between cX11_between 4 (some .int) ∈ w0c := List.mem_append_left _ (List.mem_of_getElem? (i := 687) rfl)
set_option maxRecDepth 100000 in
theorem cf_11_291 : Cond.fieldLink RX11 291 "AlgebraicReals" "pieceCount" "I" ∈ w0c := List.mem_append_left _ (List.mem_of_getElem? (i := 688) rfl)
set_option maxRecDepth 100000 in
theorem cc_X11_parts : Cond.code yX11_parts cX11_parts 3 (some .int) ∈ w0c := List.mem_append_left _ (List.mem_of_getElem? (i := 689) rfl)
set_option maxRecDepth 100000 in
theorem cc_X11_part : Cond.code yX11_part cX11_part 3 (some .int) ∈ w0c := List.mem_append_left _ (List.mem_of_getElem? (i := 690) rfl)
set_option maxRecDepth 100000 in
theorem cj_X11_301 : Cond.constantLong RX11 301 (10) ∈ w0c := List.mem_append_left _ (List.mem_of_getElem? (i := 691) rfl)
set_option maxRecDepth 100000 in
theorem cl_X11_303 : Cond.methodLink RX11 303 yX0_scale ∈ w0c := List.mem_append_left _ (List.mem_of_getElem? (i := 692) rfl)
set_option maxRecDepth 100000 in
theorem cl_X11_312 : Cond.methodLink RX11 312 yX0_size ∈ w0c := List.mem_append_left _ (List.mem_of_getElem? (i := 693) rfl)
set_option maxRecDepth 100000 in
theorem cl_X11_324 : Cond.methodLink RX11 324 yX0_lower ∈ w0c := List.mem_append_left _ (List.mem_of_getElem? (i := 694) rfl)
set_option maxRecDepth 100000 in
theorem cf_8_107 : Cond.fieldLink RX8 107 "AlgebraicReals$Texts" "length" "I" ∈ w0c := List.mem_append_left _ (List.mem_of_getElem? (i := 695) rfl)
set_option maxRecDepth 100000 in
theorem cf_8_110 : Cond.fieldLink RX8 110 "AlgebraicReals$Big" "s" "I" ∈ w0c := List.mem_append_left _ (List.mem_of_getElem? (i := 696) rfl)
set_option maxRecDepth 100000 in
theorem cf_8_140 : Cond.fieldLink RX8 140 "AlgebraicReals$Big" "n" "I" ∈ w0c := List.mem_append_left _ (List.mem_of_getElem? (i := 697) rfl)
set_option maxRecDepth 100000 in
theorem cj_X8_143 : Cond.constantLong RX8 143 (10) ∈ w0c := List.mem_append_left _ (List.mem_of_getElem? (i := 698) rfl)
set_option maxRecDepth 100000 in
theorem cl_X8_136 : Cond.methodLink RX8 136 yX0_copy ∈ w0c := List.mem_append_left _ (List.mem_of_getElem? (i := 699) rfl)
set_option maxRecDepth 100000 in
theorem cc_X11_write : Cond.code yX11_write cX11_write 5 (some .int) ∈ w0c := List.mem_append_left _ (List.mem_of_getElem? (i := 700) rfl)
set_option maxRecDepth 100000 in
theorem cf_8_121 : Cond.fieldLink RX8 121 "AlgebraicReals$Poly" "deg" "I" ∈ w0c := List.mem_append_left _ (List.mem_of_getElem? (i := 701) rfl)
set_option maxRecDepth 100000 in
theorem cf_8_126 : Cond.fieldLink RX8 126 "AlgebraicReals$Poly" "c" "[LAlgebraicReals$Big;" ∈ w0c := List.mem_append_left _ (List.mem_of_getElem? (i := 702) rfl)
set_option maxRecDepth 100000 in
theorem cl_X8_130 : Cond.methodLink RX8 130 yX0_isOne ∈ w0c := List.mem_append_left _ (List.mem_of_getElem? (i := 703) rfl)
set_option maxRecDepth 100000 in
theorem cl_X8_133 : Cond.methodLink RX8 133 yX0_put ∈ w0c := List.mem_append_left _ (List.mem_of_getElem? (i := 704) rfl)
set_option maxRecDepth 100000 in
theorem cc_X11_writeLeast : Cond.code yX11_writeLeast cX11_writeLeast 2 (some .int) ∈ w0c := List.mem_append_left _ (List.mem_of_getElem? (i := 705) rfl)
set_option maxRecDepth 100000 in
theorem cc_X11_writePart : Cond.code yX11_writePart cX11_writePart 2 (some .int) ∈ w0c := List.mem_append_left _ (List.mem_of_getElem? (i := 706) rfl)
set_option maxRecDepth 100000 in
theorem cf_11_346 : Cond.fieldLink RX11 346 "AlgebraicReals$Texts" "length" "I" ∈ w0c := List.mem_append_left _ (List.mem_of_getElem? (i := 707) rfl)
set_option maxRecDepth 100000 in
theorem cf_11_349 : Cond.fieldLink RX11 349 "AlgebraicReals$Texts" "written" "[I" ∈ w0c := List.mem_append_left _ (List.mem_of_getElem? (i := 708) rfl)
set_option maxRecDepth 100000 in
theorem cc_X11_at : Cond.code yX11_at cX11_at 2 (some .int) ∈ w0c := List.mem_append_left _ (List.mem_of_getElem? (i := 709) rfl)
set_option maxRecDepth 100000 in
theorem ca_X11_356 : Cond.classLink RX11 356 "java/lang/IllegalStateException" ∈ w0c := List.mem_append_left _ (List.mem_of_getElem? (i := 710) rfl)
set_option maxRecDepth 100000 in
theorem cn_java_lang_IllegalStateException : Cond.initialized "java/lang/IllegalStateException" ∈ w0c := List.mem_append_left _ (List.mem_of_getElem? (i := 711) rfl)
set_option maxRecDepth 100000 in
theorem cf_11_352 : Cond.fieldLink RX11 352 "AlgebraicReals$Texts" "size" "I" ∈ w0c := List.mem_append_left _ (List.mem_of_getElem? (i := 712) rfl)
set_option maxRecDepth 100000 in
theorem cf_11_353 : Cond.fieldLink RX11 353 "AlgebraicReals$Texts" "tape" "[I" ∈ w0c := List.mem_append_left _ (List.mem_of_getElem? (i := 713) rfl)
set_option maxRecDepth 100000 in
theorem cl_X11_359 : Cond.methodLink RX11 359 yX8_take ∈ w0c := List.mem_append_left _ (List.mem_of_getElem? (i := 714) rfl)
set_option maxRecDepth 100000 in
theorem ci_X8_take : Cond.instanceMethod yX8_take ∈ w0c := List.mem_append_left _ (List.mem_of_getElem? (i := 715) rfl)
set_option maxRecDepth 100000 in
theorem cs_X8_take : Cond.selects RX8 yX8_take yX8_take ∈ w0c := List.mem_append_left _ (List.mem_of_getElem? (i := 716) rfl)
set_option maxRecDepth 100000 in
theorem cc_X11_feed : Cond.code yX11_feed cX11_feed 6 (some .int) ∈ w0c := List.mem_append_left _ (List.mem_of_getElem? (i := 717) rfl)
set_option maxRecDepth 100000 in
theorem ca_X11_362 : Cond.classLink RX11 362 "java/lang/IllegalArgumentException" ∈ w0c := List.mem_append_left _ (List.mem_of_getElem? (i := 718) rfl)
set_option maxRecDepth 100000 in
theorem cn_java_lang_IllegalArgumentException : Cond.initialized "java/lang/IllegalArgumentException" ∈ w0c := List.mem_append_left _ (List.mem_of_getElem? (i := 719) rfl)
set_option maxRecDepth 100000 in
theorem cc_X11_end : Cond.code yX11_end cX11_end 2 none ∈ w0c := List.mem_append_left _ (List.mem_of_getElem? (i := 720) rfl)
theorem w0c_in0 : ∀ w ∈ u_ws RX0 TX0 3, w ∈ w0c := fun _ h => List.mem_append_right _ (List.mem_append_left _ h)
theorem w0c_in1 : ∀ w ∈ u_ws RX1 TX1 9, w ∈ w0c := fun _ h => List.mem_append_right _ (List.mem_append_right _ (List.mem_append_left _ h))
theorem w0c_in2 : ∀ w ∈ u_ws RX2 TX2 19, w ∈ w0c := fun _ h => List.mem_append_right _ (List.mem_append_right _ (List.mem_append_right _ (List.mem_append_left _ h)))
theorem w0c_in3 : ∀ w ∈ u_ws RX3 TX3 19, w ∈ w0c := fun _ h => List.mem_append_right _ (List.mem_append_right _ (List.mem_append_right _ (List.mem_append_right _ (List.mem_append_left _ h))))
theorem w0c_in4 : ∀ w ∈ u_ws RX4 TX4 2, w ∈ w0c := fun _ h => List.mem_append_right _ (List.mem_append_right _ (List.mem_append_right _ (List.mem_append_right _ (List.mem_append_right _ (List.mem_append_left _ h)))))
theorem w0c_in5 : ∀ w ∈ u_ws RX5 TX5 7, w ∈ w0c := fun _ h => List.mem_append_right _ (List.mem_append_right _ (List.mem_append_right _ (List.mem_append_right _ (List.mem_append_right _ (List.mem_append_right _ (List.mem_append_left _ h))))))
theorem w0c_in6 : ∀ w ∈ u_ws RX6 TX6 2, w ∈ w0c := fun _ h => List.mem_append_right _ (List.mem_append_right _ (List.mem_append_right _ (List.mem_append_right _ (List.mem_append_right _ (List.mem_append_right _ (List.mem_append_right _ (List.mem_append_left _ h)))))))
theorem w0c_in7 : ∀ w ∈ u_ws RX7 TX7 10, w ∈ w0c := fun _ h => List.mem_append_right _ (List.mem_append_right _ (List.mem_append_right _ (List.mem_append_right _ (List.mem_append_right _ (List.mem_append_right _ (List.mem_append_right _ (List.mem_append_right _ (List.mem_append_left _ h))))))))
theorem w0c_in8 : ∀ w ∈ u_ws RX8 TX8 15, w ∈ w0c := fun _ h => List.mem_append_right _ (List.mem_append_right _ (List.mem_append_right _ (List.mem_append_right _ (List.mem_append_right _ (List.mem_append_right _ (List.mem_append_right _ (List.mem_append_right _ (List.mem_append_right _ (List.mem_append_left _ h)))))))))
theorem w0c_in9 : ∀ w ∈ u_ws RX9 TX9 8, w ∈ w0c := fun _ h => List.mem_append_right _ (List.mem_append_right _ (List.mem_append_right _ (List.mem_append_right _ (List.mem_append_right _ (List.mem_append_right _ (List.mem_append_right _ (List.mem_append_right _ (List.mem_append_right _ (List.mem_append_right _ (List.mem_append_left _ h))))))))))
theorem w0c_in10 : ∀ w ∈ u_ws RX10 TX10 21, w ∈ w0c := fun _ h => List.mem_append_right _ (List.mem_append_right _ (List.mem_append_right _ (List.mem_append_right _ (List.mem_append_right _ (List.mem_append_right _ (List.mem_append_right _ (List.mem_append_right _ (List.mem_append_right _ (List.mem_append_right _ (List.mem_append_right _ (List.mem_append_left _ h)))))))))))
theorem w0c_in11 : ∀ w ∈ u_ws RX11 TX11 20, w ∈ w0c := fun _ h => List.mem_append_right _ (List.mem_append_right _ (List.mem_append_right _ (List.mem_append_right _ (List.mem_append_right _ (List.mem_append_right _ (List.mem_append_right _ (List.mem_append_right _ (List.mem_append_right _ (List.mem_append_right _ (List.mem_append_right _ (List.mem_append_right _ h)))))))))))
theorem w0c_good : w0c.all goodWord = true := by decide +kernel
