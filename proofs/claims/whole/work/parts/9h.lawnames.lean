def wsL_meet_r1 : List Cond := [Cond.classLink RL 13 "java/lang/ArithmeticException", Cond.methodLink RL 7 yX6_meet, Cond.instanceMethod yX6_meet, Cond.selects RX6 yX6_meet yX6_meet, Cond.initialized RX6, Cond.code yX6_meet cX6_meet 4 (some .int), Cond.classLink RX6 156 "java/lang/ArithmeticException", Cond.initialized "java/lang/ArithmeticException", Cond.methodLink RX6 153 yX6_placeOfBoth, Cond.instanceMethod yX6_placeOfBoth, Cond.selects RX6 yX6_placeOfBoth yX6_placeOfBoth, Cond.code yX6_placeOfBoth cX6_placeOfBoth 3 (some .int), Cond.fieldLink RX6 20 "ConfigSearch" "text" "LConfigSearch$Text;", Cond.fieldLink RX6 39 "ConfigSearch" "search" "LConfigSearch$Search;", Cond.fieldLink RX6 143 "ConfigSearch$Search" "found" "Z", Cond.fieldLink RX6 214 "ConfigSearch$Search" "plane" "LConfigSearch$Plane;", Cond.fieldLink RX6 218 "ConfigSearch$Plane" "field" "I", Cond.fieldLink RX6 101 "ConfigSearch$Text" "word" "[[I", Cond.methodLink RX6 94 yX4_hasLine, Cond.instanceMethod yX4_hasLine, Cond.selects RX4 yX4_hasLine yX4_hasLine, Cond.initialized RX4, Cond.code yX4_hasLine cX4_hasLine 2 (some .boolean), Cond.fieldLink RX4 15 "ConfigSearch$Text" "lines" "I"]
def wsL_meet_r2 : List Cond := [Cond.methodLink RX6 221 yX3_placeOnBoth, Cond.instanceMethod yX3_placeOnBoth, Cond.selects RX3 yX3_placeOnBoth yX3_placeOnBoth, Cond.initialized RX3, Cond.code yX3_placeOnBoth cX3_placeOnBoth 3 (some .int), Cond.fieldLink RX3 53 "ConfigSearch$Search" "oneLine" "[I", Cond.fieldLink RX3 56 "ConfigSearch$Search" "otherLine" "[I", Cond.fieldLink RX3 47 "ConfigSearch$Search" "onePlace" "[I", Cond.fieldLink RX3 12 "ConfigSearch$Search" "plane" "LConfigSearch$Plane;", Cond.methodLink RX3 89 yX3_joinPoints, Cond.instanceMethod yX3_joinPoints, Cond.selects RX3 yX3_joinPoints yX3_joinPoints, Cond.code yX3_joinPoints cX3_joinPoints 4 none, Cond.fieldLink RX3 50 "ConfigSearch$Search" "otherPlace" "[I", Cond.methodLink RX3 101 yX3_numbersOf, Cond.instanceMethod yX3_numbersOf, Cond.selects RX3 yX3_numbersOf yX3_numbersOf, Cond.code yX3_numbersOf cX3_numbersOf 4 none, Cond.fieldLink RX3 86 "ConfigSearch$Plane" "numbers" "[[I", Cond.fieldLink RX3 26 "ConfigSearch$Search" "places" "[I", Cond.methodLink RX3 93 yX3_cross, Cond.instanceMethod yX3_cross, Cond.selects RX3 yX3_cross yX3_cross, Cond.code yX3_cross cX3_cross 4 none]
def wsL_meet_r3 : List Cond := [Cond.methodLink RX3 105 yX2_rest, Cond.instanceMethod yX2_rest, Cond.selects RX2 yX2_rest yX2_rest, Cond.initialized RX2, Cond.code yX2_rest cX2_rest 2 (some .int), Cond.fieldLink RX2 9 "ConfigSearch$Plane" "field" "I", Cond.methodLink RX2 27 yJ9_floorMod_7cf53, Cond.static yJ9_floorMod_7cf53, Cond.initialized RJ9, Cond.code yJ9_floorMod_7cf53 cJ9_floorMod_7cf53 3 (some .int), Cond.methodLink RX3 97 yX2_placeAt, Cond.instanceMethod yX2_placeAt, Cond.selects RX2 yX2_placeAt yX2_placeAt, Cond.code yX2_placeAt cX2_placeAt 2 (some .int), Cond.methodLink RX2 33 yX2_quotient, Cond.static yX2_quotient, Cond.code yX2_quotient cX2_quotient 6 (some .int)]
def wsL_meet : List Cond := .codeWith yL_meet cL_meet 5 (some .int) [(0, 10, 13, 13)] :: ((wsL_meet_r1 ++ (wsL_meet_r2 ++ wsL_meet_r3)) ++ wsX60 ++ wsX30 ++ wsX20 ++ wsX40 ++ (vx_atS RX6 160 "java/lang/ArithmeticException" ["java/lang/RuntimeException", "java/lang/Exception"]).filter goodWord)
def wsL_pivot : List Cond := .codeWith yL_pivot cL_pivot 6 (some .int) [(0, 12, 15, 13)] :: ([.classLink RL 13 "java/lang/ArithmeticException", .methodLink RL 15 yX6_pivot, .instanceMethod yX6_pivot, .selects RX6 yX6_pivot yX6_pivot, .initialized RX6, .code yX6_pivot cX6_pivot 5 (some .int), .classLink RX6 156 "java/lang/ArithmeticException", .initialized "java/lang/ArithmeticException", .methodLink RX6 134 yX6_isPrime, .static yX6_isPrime, .code yX6_isPrime cX6_isPrime 5 (some .boolean), .fieldLink RX6 225 "ConfigSearch" "PRIMES" "[I", .methodLink RX6 163 yX2_quotient, .static yX2_quotient, .initialized RX2, .code yX2_quotient cX2_quotient 6 (some .int), .methodLink RX2 27 yJ9_floorMod_7cf53, .static yJ9_floorMod_7cf53, .initialized RJ9, .code yJ9_floorMod_7cf53 cJ9_floorMod_7cf53 3 (some .int)] ++ (vx_atS RX6 160 "java/lang/ArithmeticException" ["java/lang/RuntimeException", "java/lang/Exception"]).filter goodWord)
def wsL_law0_r1 : List Cond := [Cond.classLink RL 8 RX6, Cond.instantiable RX6 8, Cond.initialized RX6, Cond.classLink RL 20 RX7, Cond.instantiable RX7 53, Cond.initialized RX7, Cond.arrayClass .long, Cond.methodLink RL 19 yX6_init, Cond.instanceMethod yX6_init, Cond.code yX6_init cX6_init 1 none, Cond.methodLink RX6 1 objectInit, Cond.instanceMethod objectInit, Cond.code objectInit ⟨#[0xb1]⟩ 1 none, Cond.arrayClass .int, Cond.fieldLink RX6 9 "ConfigSearch" "tape" "[I", Cond.fieldLink RX6 13 "ConfigSearch" "onTape" "I", Cond.classLink RX6 17 RX4, Cond.instantiable RX4 8, Cond.initialized RX4, Cond.fieldLink RX6 20 "ConfigSearch" "text" "LConfigSearch$Text;", Cond.fieldLink RX6 24 "ConfigSearch" "spare" "LConfigSearch$Text;", Cond.classLink RX6 27 RX5, Cond.instantiable RX5 5, Cond.initialized RX5]
def wsL_law0_r2 : List Cond := [Cond.fieldLink RX6 30 "ConfigSearch" "told" "LConfigSearch$Told;", Cond.classLink RX6 34 RX3, Cond.instantiable RX3 14, Cond.initialized RX3, Cond.fieldLink RX6 39 "ConfigSearch" "search" "LConfigSearch$Search;", Cond.classLink RX6 43 RX0, Cond.instantiable RX0 11, Cond.initialized RX0, Cond.fieldLink RX6 46 "ConfigSearch" "following" "LConfigSearch$Following;", Cond.classLink RX6 50 RX1, Cond.instantiable RX1 9, Cond.initialized RX1, Cond.fieldLink RX6 53 "ConfigSearch" "forms" "LConfigSearch$Forms;", Cond.instanceMethod yX4_init, Cond.code yX4_init cX4_init 1 none, Cond.methodLink RX4 3 objectInit, Cond.fieldLink RX4 9 "ConfigSearch$Text" "points" "I", Cond.fieldLink RX4 15 "ConfigSearch$Text" "lines" "I", Cond.fieldLink RX4 18 "ConfigSearch$Text" "letters" "I", Cond.fieldLink RX4 21 "ConfigSearch$Text" "letterOf" "[I", Cond.fieldLink RX4 25 "ConfigSearch$Text" "size" "[I", Cond.classLink RX4 28 "[[I", Cond.fieldLink RX4 30 "ConfigSearch$Text" "word" "[[I", Cond.fieldLink RX4 33 "ConfigSearch$Text" "mask" "[I"]
def wsL_law0_r3 : List Cond := [Cond.fieldLink RX4 36 "ConfigSearch$Text" "inWord" "Z", Cond.instanceMethod yX5_init, Cond.code yX5_init cX5_init 1 none, Cond.methodLink RX5 3 objectInit, Cond.arrayClass .boolean, Cond.fieldLink RX5 9 "ConfigSearch$Told" "flat" "[Z", Cond.fieldLink RX5 15 "ConfigSearch$Told" "barred" "[Z", Cond.fieldLink RX5 18 "ConfigSearch$Told" "oriented" "[I", Cond.fieldLink RX5 22 "ConfigSearch$Told" "barredOnes" "I", Cond.fieldLink RX5 26 "ConfigSearch$Told" "orientedOnes" "I", Cond.methodLink RX6 36 yX3_init, Cond.instanceMethod yX3_init, Cond.code yX3_init cX3_init 2 none, Cond.methodLink RX3 3 objectInit, Cond.classLink RX3 9 RX2, Cond.instantiable RX2 3, Cond.initialized RX2, Cond.fieldLink RX3 12 "ConfigSearch$Search" "plane" "LConfigSearch$Plane;", Cond.fieldLink RX3 18 "ConfigSearch$Search" "found" "Z", Cond.fieldLink RX3 22 "ConfigSearch$Search" "steps" "I", Cond.fieldLink RX3 26 "ConfigSearch$Search" "places" "[I", Cond.fieldLink RX3 30 "ConfigSearch$Search" "begin" "[I", Cond.fieldLink RX3 33 "ConfigSearch$Search" "low" "[I", Cond.fieldLink RX3 36 "ConfigSearch$Search" "middle" "[I"]
def wsL_law0_r4 : List Cond := [Cond.fieldLink RX3 39 "ConfigSearch$Search" "wanted" "[I", Cond.classLink RX3 42 "[[I", Cond.fieldLink RX3 44 "ConfigSearch$Search" "factor" "[[I", Cond.fieldLink RX3 47 "ConfigSearch$Search" "onePlace" "[I", Cond.fieldLink RX3 50 "ConfigSearch$Search" "otherPlace" "[I", Cond.fieldLink RX3 53 "ConfigSearch$Search" "oneLine" "[I", Cond.fieldLink RX3 56 "ConfigSearch$Search" "otherLine" "[I", Cond.fieldLink RX3 59 "ConfigSearch$Search" "told" "LConfigSearch$Told;", Cond.instanceMethod yX2_init, Cond.code yX2_init cX2_init 1 none, Cond.methodLink RX2 3 objectInit, Cond.fieldLink RX2 9 "ConfigSearch$Plane" "field" "I", Cond.fieldLink RX2 15 "ConfigSearch$Plane" "size" "I", Cond.classLink RX2 18 "[[I", Cond.fieldLink RX2 20 "ConfigSearch$Plane" "numbers" "[[I", Cond.methodLink RX6 45 yX0_init, Cond.instanceMethod yX0_init, Cond.code yX0_init cX0_init 2 none, Cond.methodLink RX0 3 objectInit, Cond.fieldLink RX0 9 "ConfigSearch$Following" "rows" "I", Cond.fieldLink RX0 15 "ConfigSearch$Following" "outcome" "I", Cond.fieldLink RX0 18 "ConfigSearch$Following" "kind" "[I", Cond.fieldLink RX0 22 "ConfigSearch$Following" "signs" "[I", Cond.fieldLink RX0 25 "ConfigSearch$Following" "relations" "[I"]
def wsL_law0_r5 : List Cond := [Cond.fieldLink RX0 28 "ConfigSearch$Following" "triples" "[I", Cond.fieldLink RX0 31 "ConfigSearch$Following" "now" "[I", Cond.fieldLink RX0 34 "ConfigSearch$Following" "relation" "[I", Cond.fieldLink RX0 37 "ConfigSearch$Following" "toldTriple" "[I", Cond.fieldLink RX0 40 "ConfigSearch$Following" "toldSign" "I", Cond.fieldLink RX0 43 "ConfigSearch$Following" "told" "LConfigSearch$Told;", Cond.methodLink RX6 52 yX1_init, Cond.instanceMethod yX1_init, Cond.code yX1_init cX1_init 1 none, Cond.methodLink RX1 3 objectInit, Cond.fieldLink RX1 9 "ConfigSearch$Forms" "least" "[I", Cond.fieldLink RX1 15 "ConfigSearch$Forms" "keeping" "[I", Cond.fieldLink RX1 18 "ConfigSearch$Forms" "studied" "Z", Cond.fieldLink RX1 22 "ConfigSearch$Forms" "own" "[I", Cond.fieldLink RX1 25 "ConfigSearch$Forms" "image" "[I", Cond.fieldLink RX1 28 "ConfigSearch$Forms" "renaming" "[I", Cond.fieldLink RX1 31 "ConfigSearch$Forms" "moved" "[I", Cond.fieldLink RX1 34 "ConfigSearch$Forms" "chosen" "[I", Cond.fieldLink RX1 37 "ConfigSearch$Forms" "counted" "[I", Cond.methodLink RX1 40 yJ7_fill_53178, Cond.static yJ7_fill_53178, Cond.initialized RJ7, Cond.code yJ7_fill_53178 cJ7_fill_53178 4 none, Cond.methodLink RL 22 yX7_init]
def wsL_law0_r6 : List Cond := [Cond.instanceMethod yX7_init, Cond.code yX7_init cX7_init 1 none, Cond.methodLink RX7 1 objectInit, Cond.fieldLink RX7 7 "ConfigSearchModel" "tape" "[I", Cond.fieldLink RX7 13 "ConfigSearchModel" "letterOf" "[I", Cond.fieldLink RX7 16 "ConfigSearchModel" "pointOf" "[I", Cond.fieldLink RX7 19 "ConfigSearchModel" "lineSize" "[I", Cond.fieldLink RX7 22 "ConfigSearchModel" "linePoint" "[I", Cond.fieldLink RX7 25 "ConfigSearchModel" "lineMask" "[I", Cond.fieldLink RX7 28 "ConfigSearchModel" "wordSize" "[I", Cond.fieldLink RX7 31 "ConfigSearchModel" "wordLetter" "[I", Cond.fieldLink RX7 34 "ConfigSearchModel" "wordMask" "[I", Cond.fieldLink RX7 37 "ConfigSearchModel" "barMask" "[I", Cond.fieldLink RX7 40 "ConfigSearchModel" "orientMask" "[I", Cond.fieldLink RX7 43 "ConfigSearchModel" "orientSign" "[I", Cond.fieldLink RX7 46 "ConfigSearchModel" "placeOf" "[I", Cond.fieldLink RX7 49 "ConfigSearchModel" "tries" "[I", Cond.fieldLink RX7 52 "ConfigSearchModel" "spot" "[I", Cond.fieldLink RX7 55 "ConfigSearchModel" "laid" "I", Cond.fieldLink RX7 59 "ConfigSearchModel" "first" "[I", Cond.fieldLink RX7 62 "ConfigSearchModel" "second" "[I", Cond.fieldLink RX7 65 "ConfigSearchModel" "third" "[I", Cond.fieldLink RX7 68 "ConfigSearchModel" "wants" "[I", Cond.fieldLink RX7 71 "ConfigSearchModel" "signs" "[I"]
def wsL_law0_r7 : List Cond := [Cond.fieldLink RX7 74 "ConfigSearchModel" "rowKind" "[I", Cond.fieldLink RX7 77 "ConfigSearchModel" "rowFive" "[I", Cond.fieldLink RX7 80 "ConfigSearchModel" "rowTriple" "[I", Cond.fieldLink RX7 83 "ConfigSearchModel" "rowSign" "[I", Cond.fieldLink RX7 86 "ConfigSearchModel" "six" "[I", Cond.fieldLink RX7 89 "ConfigSearchModel" "name" "[I", Cond.fieldLink RX7 92 "ConfigSearchModel" "again" "[I", Cond.fieldLink RX7 95 "ConfigSearchModel" "free" "[I", Cond.fieldLink RX7 98 "ConfigSearchModel" "form" "[I", Cond.fieldLink RX7 101 "ConfigSearchModel" "best" "[I", Cond.fieldLink RX7 104 "ConfigSearchModel" "own" "[I", Cond.fieldLink RX7 107 "ConfigSearchModel" "keeps" "[I", Cond.fieldLink RX7 110 "ConfigSearchModel" "kindsKnown" "[I", Cond.fieldLink RX7 113 "ConfigSearchModel" "tripleMask" "[I", Cond.fieldLink RX7 116 "ConfigSearchModel" "chosen" "[I", Cond.fieldLink RX7 119 "ConfigSearchModel" "told" "I", Cond.methodLink RL 23 yX6_sign, Cond.instanceMethod yX6_sign, Cond.selects RX6 yX6_sign yX6_sign, Cond.code yX6_sign cX6_sign 2 (some .int), Cond.methodLink RL 27 yX7_sign, Cond.instanceMethod yX7_sign, Cond.selects RX7 yX7_sign yX7_sign, Cond.code yX7_sign cX7_sign 2 (some .int)]
def wsL_law0_r8 : List Cond := [Cond.fieldLink RX7 122 "ConfigSearchModel" "code" "I", Cond.fieldLink RX7 129 "ConfigSearchModel" "tapeSize" "I", Cond.methodLink RX7 125 yX7_isIn, Cond.static yX7_isIn, Cond.code yX7_isIn cX7_isIn 3 (some .boolean), Cond.methodLink RL 28 yX6_read, Cond.instanceMethod yX6_read, Cond.selects RX6 yX6_read yX6_read, Cond.code yX6_read cX6_read 3 (some .int), Cond.fieldLink RX6 70 "ConfigSearch$Text" "letters" "I", Cond.methodLink RX6 57 yX4_take, Cond.instanceMethod yX4_take, Cond.selects RX4 yX4_take yX4_take, Cond.code yX4_take cX4_take 5 (some .int), Cond.methodLink RX4 44 yX4_endsWord, Cond.instanceMethod yX4_endsWord, Cond.selects RX4 yX4_endsWord yX4_endsWord, Cond.code yX4_endsWord cX4_endsWord 1 (some .boolean), Cond.methodLink RX4 48 yX4_addsLetter, Cond.instanceMethod yX4_addsLetter, Cond.selects RX4 yX4_addsLetter yX4_addsLetter, Cond.code yX4_addsLetter cX4_addsLetter 4 (some .boolean), Cond.methodLink RX4 51 yX4_startsWord, Cond.instanceMethod yX4_startsWord]
def wsL_law0_r9 : List Cond := [Cond.selects RX4 yX4_startsWord yX4_startsWord, Cond.code yX4_startsWord cX4_startsWord 1 (some .boolean), Cond.methodLink RX4 54 yX4_pointOf, Cond.instanceMethod yX4_pointOf, Cond.selects RX4 yX4_pointOf yX4_pointOf, Cond.code yX4_pointOf cX4_pointOf 3 (some .int), Cond.methodLink RX4 58 yX4_clashes, Cond.instanceMethod yX4_clashes, Cond.selects RX4 yX4_clashes yX4_clashes, Cond.code yX4_clashes cX4_clashes 5 (some .boolean), Cond.methodLink RX4 62 yJ6_bitCount_0f7a4, Cond.static yJ6_bitCount_0f7a4, Cond.initialized RJ6, Cond.code yJ6_bitCount_0f7a4 cJ6_bitCount_0f7a4 1 (some .int), Cond.constant RJ6 265 (1431655765), Cond.constant RJ6 266 (858993459), Cond.constant RJ6 267 (252645135), Cond.methodLink RX6 61 yX5_startWith, Cond.instanceMethod yX5_startWith, Cond.selects RX5 yX5_startWith yX5_startWith, Cond.code yX5_startWith cX5_startWith 3 none, Cond.fieldLink RX5 38 "ConfigSearch$Text" "lines" "I", Cond.fieldLink RX5 43 "ConfigSearch$Text" "word" "[[I", Cond.fieldLink RX5 47 "ConfigSearch$Text" "size" "[I"]
def wsL_law0_r10 : List Cond := [Cond.methodLink RX5 50 yX5_flatten, Cond.instanceMethod yX5_flatten, Cond.selects RX5 yX5_flatten yX5_flatten, Cond.code yX5_flatten cX5_flatten 6 none, Cond.methodLink RX5 54 yX5_spotOf, Cond.static yX5_spotOf, Cond.code yX5_spotOf cX5_spotOf 6 (some .int), Cond.methodLink RX5 29 Lib.Math.min.name, Cond.static Lib.Math.min.name, Cond.initialized "java/lang/Math", Cond.code Lib.Math.min.name Lib.Math.min.code 2 (some .int), Cond.methodLink RX5 35 Lib.Math.max.name, Cond.static Lib.Math.max.name, Cond.code Lib.Math.max.name Lib.Math.max.code 2 (some .int), Cond.methodLink RX6 65 yX3_forget, Cond.instanceMethod yX3_forget, Cond.selects RX3 yX3_forget yX3_forget, Cond.code yX3_forget cX3_forget 1 none, Cond.methodLink RX6 68 yX0_forget, Cond.instanceMethod yX0_forget, Cond.selects RX0 yX0_forget yX0_forget, Cond.code yX0_forget cX0_forget 1 none, Cond.methodLink RX6 69 yX1_forget, Cond.instanceMethod yX1_forget]
def wsL_law0_r11 : List Cond := [Cond.selects RX1 yX1_forget yX1_forget, Cond.code yX1_forget cX1_forget 1 none, Cond.methodLink RL 32 yX7_read, Cond.instanceMethod yX7_read, Cond.selects RX7 yX7_read yX7_read, Cond.code yX7_read cX7_read 6 (some .int), Cond.fieldLink RX7 143 "ConfigSearchModel" "points" "I", Cond.fieldLink RX7 132 "ConfigSearchModel" "words" "I", Cond.fieldLink RX7 146 "ConfigSearchModel" "lines" "I", Cond.fieldLink RX7 149 "ConfigSearchModel" "bars" "I", Cond.fieldLink RX7 152 "ConfigSearchModel" "orients" "I", Cond.fieldLink RX7 155 "ConfigSearchModel" "rows" "I", Cond.fieldLink RX7 158 "ConfigSearchModel" "hasPicture" "Z", Cond.fieldLink RX7 162 "ConfigSearchModel" "isNamed" "Z", Cond.fieldLink RX7 165 "ConfigSearchModel" "steps" "I", Cond.methodLink RX7 139 yX7_readWords, Cond.instanceMethod yX7_readWords, Cond.selects RX7 yX7_readWords yX7_readWords, Cond.code yX7_readWords cX7_readWords 4 (some .int), Cond.methodLink RX7 135 yX7_mayCome, Cond.instanceMethod yX7_mayCome, Cond.selects RX7 yX7_mayCome yX7_mayCome, Cond.code yX7_mayCome cX7_mayCome 6 (some .boolean), Cond.methodLink RL 33 yX6_count]
def wsL_law0_r12 : List Cond := [Cond.instanceMethod yX6_count, Cond.selects RX6 yX6_count yX6_count, Cond.code yX6_count cX6_count 2 (some .int), Cond.fieldLink RX6 73 "ConfigSearch$Text" "points" "I", Cond.fieldLink RX6 76 "ConfigSearch$Text" "lines" "I", Cond.fieldLink RX6 79 "ConfigSearch$Told" "barredOnes" "I", Cond.fieldLink RX6 82 "ConfigSearch$Told" "orientedOnes" "I", Cond.fieldLink RX6 85 "ConfigSearch$Following" "rows" "I", Cond.fieldLink RX6 88 "ConfigSearch$Search" "steps" "I", Cond.fieldLink RX6 91 "ConfigSearch$Following" "outcome" "I", Cond.methodLink RL 36 yX7_count, Cond.instanceMethod yX7_count, Cond.selects RX7 yX7_count yX7_count, Cond.code yX7_count cX7_count 2 (some .int), Cond.methodLink RL 37 yX6_line, Cond.instanceMethod yX6_line, Cond.selects RX6 yX6_line yX6_line, Cond.code yX6_line cX6_line 5 (some .int), Cond.fieldLink RX6 98 "ConfigSearch$Text" "size" "[I", Cond.fieldLink RX6 101 "ConfigSearch$Text" "word" "[[I", Cond.fieldLink RX6 105 "ConfigSearch$Text" "letterOf" "[I", Cond.methodLink RX6 94 yX4_hasLine, Cond.instanceMethod yX4_hasLine, Cond.selects RX4 yX4_hasLine yX4_hasLine]
def wsL_law0_r13 : List Cond := [Cond.code yX4_hasLine cX4_hasLine 2 (some .boolean), Cond.methodLink RL 41 yX7_line, Cond.instanceMethod yX7_line, Cond.selects RX7 yX7_line yX7_line, Cond.code yX7_line cX7_line 5 (some .int), Cond.methodLink RL 42 yX6_bar, Cond.instanceMethod yX6_bar, Cond.selects RX6 yX6_bar yX6_bar, Cond.code yX6_bar cX6_bar 5 (some .int), Cond.fieldLink RX6 116 "ConfigSearch$Told" "flat" "[Z", Cond.methodLink RX6 108 yX4_isTriple, Cond.instanceMethod yX4_isTriple, Cond.selects RX4 yX4_isTriple yX4_isTriple, Cond.code yX4_isTriple cX4_isTriple 4 (some .boolean), Cond.methodLink RX4 40 yX4_hasPoint, Cond.instanceMethod yX4_hasPoint, Cond.selects RX4 yX4_hasPoint yX4_hasPoint, Cond.code yX4_hasPoint cX4_hasPoint 2 (some .boolean), Cond.methodLink RX6 112 yX5_spotOf, Cond.methodLink RX6 120 yX5_addBarred, Cond.instanceMethod yX5_addBarred, Cond.selects RX5 yX5_addBarred yX5_addBarred, Cond.code yX5_addBarred cX5_addBarred 2 (some .int), Cond.methodLink RL 45 yX7_bar]
def wsL_law0_r14 : List Cond := [Cond.instanceMethod yX7_bar, Cond.selects RX7 yX7_bar yX7_bar, Cond.code yX7_bar cX7_bar 5 (some .int), Cond.methodLink RX7 168 yX7_isTriple, Cond.instanceMethod yX7_isTriple, Cond.selects RX7 yX7_isTriple yX7_isTriple, Cond.code yX7_isTriple cX7_isTriple 4 (some .boolean), Cond.methodLink RX7 171 yX7_maskOf, Cond.static yX7_maskOf, Cond.code yX7_maskOf cX7_maskOf 3 (some .int), Cond.methodLink RX7 175 yX7_isFlat, Cond.instanceMethod yX7_isFlat, Cond.selects RX7 yX7_isFlat yX7_isFlat, Cond.code yX7_isFlat cX7_isFlat 4 (some .boolean), Cond.methodLink RX7 179 yX7_barAt, Cond.instanceMethod yX7_barAt, Cond.selects RX7 yX7_barAt yX7_barAt, Cond.code yX7_barAt cX7_barAt 4 (some .int), Cond.methodLink RL 46 yX6_orient, Cond.instanceMethod yX6_orient, Cond.selects RX6 yX6_orient yX6_orient, Cond.code yX6_orient cX6_orient 7 (some .int), Cond.fieldLink RX6 127 "ConfigSearch$Told" "oriented" "[I", Cond.methodLink RX6 124 yX5_turnOf]
def wsL_law0_r15 : List Cond := [Cond.static yX5_turnOf, Cond.code yX5_turnOf cX5_turnOf 4 (some .int), Cond.methodLink RX6 130 yX5_addOriented, Cond.instanceMethod yX5_addOriented, Cond.selects RX5 yX5_addOriented yX5_addOriented, Cond.code yX5_addOriented cX5_addOriented 3 (some .int), Cond.methodLink RL 50 yX7_orient, Cond.instanceMethod yX7_orient, Cond.selects RX7 yX7_orient yX7_orient, Cond.code yX7_orient cX7_orient 8 (some .int), Cond.methodLink RX7 183 yX7_turnOf, Cond.static yX7_turnOf, Cond.code yX7_turnOf cX7_turnOf 4 (some .int), Cond.methodLink RX7 186 yX7_orientAt, Cond.instanceMethod yX7_orientAt, Cond.selects RX7 yX7_orientAt yX7_orientAt, Cond.code yX7_orientAt cX7_orientAt 4 (some .int), Cond.methodLink RL 51 yX6_realise, Cond.instanceMethod yX6_realise, Cond.selects RX6 yX6_realise yX6_realise, Cond.code yX6_realise cX6_realise 3 (some .int), Cond.methodLink RX6 134 yX6_isPrime, Cond.static yX6_isPrime, Cond.code yX6_isPrime cX6_isPrime 5 (some .boolean)]
def wsL_law0_r16 : List Cond := [Cond.fieldLink RX6 225 "ConfigSearch" "PRIMES" "[I", Cond.methodLink RX6 137 yX3_seek, Cond.instanceMethod yX3_seek, Cond.selects RX3 yX3_seek yX3_seek, Cond.code yX3_seek cX3_seek 5 (some .int), Cond.fieldLink RX3 80 "ConfigSearch$Plane" "size" "I", Cond.methodLink RX3 63 yX2_choose, Cond.instanceMethod yX2_choose, Cond.selects RX2 yX2_choose yX2_choose, Cond.code yX2_choose cX2_choose 5 none, Cond.methodLink RX2 23 yX2_add, Cond.instanceMethod yX2_add, Cond.selects RX2 yX2_add yX2_add, Cond.code yX2_add cX2_add 4 none, Cond.methodLink RX3 67 yX3_gatherWants, Cond.instanceMethod yX3_gatherWants, Cond.selects RX3 yX3_gatherWants yX3_gatherWants, Cond.code yX3_gatherWants cX3_gatherWants 7 none, Cond.methodLink RX3 109 yX5_spotOf, Cond.methodLink RX3 115 yX3_isWanted, Cond.instanceMethod yX3_isWanted, Cond.selects RX3 yX3_isWanted yX3_isWanted, Cond.code yX3_isWanted cX3_isWanted 2 (some .boolean), Cond.fieldLink RX3 121 "ConfigSearch$Told" "flat" "[Z"]
def wsL_law0_r17 : List Cond := [Cond.fieldLink RX3 125 "ConfigSearch$Told" "barred" "[Z", Cond.fieldLink RX3 128 "ConfigSearch$Told" "oriented" "[I", Cond.methodLink RX3 118 yX3_wantOf, Cond.instanceMethod yX3_wantOf, Cond.selects RX3 yX3_wantOf yX3_wantOf, Cond.code yX3_wantOf cX3_wantOf 3 (some .int), Cond.fieldLink RX3 131 "ConfigSearch$Plane" "field" "I", Cond.methodLink RX3 70 yX3_forget, Cond.methodLink RX3 73 yX3_enter, Cond.instanceMethod yX3_enter, Cond.selects RX3 yX3_enter yX3_enter, Cond.code yX3_enter cX3_enter 2 none, Cond.methodLink RX3 83 yX3_prepare, Cond.instanceMethod yX3_prepare, Cond.selects RX3 yX3_prepare yX3_prepare, Cond.code yX3_prepare cX3_prepare 4 none, Cond.methodLink RX3 89 yX3_joinPoints, Cond.instanceMethod yX3_joinPoints, Cond.selects RX3 yX3_joinPoints yX3_joinPoints, Cond.code yX3_joinPoints cX3_joinPoints 4 none, Cond.methodLink RX3 101 yX3_numbersOf, Cond.instanceMethod yX3_numbersOf, Cond.selects RX3 yX3_numbersOf yX3_numbersOf, Cond.code yX3_numbersOf cX3_numbersOf 4 none]
def wsL_law0_r18 : List Cond := [Cond.fieldLink RX3 86 "ConfigSearch$Plane" "numbers" "[[I", Cond.methodLink RX3 93 yX3_cross, Cond.instanceMethod yX3_cross, Cond.selects RX3 yX3_cross yX3_cross, Cond.code yX3_cross cX3_cross 4 none, Cond.methodLink RX3 105 yX2_rest, Cond.instanceMethod yX2_rest, Cond.selects RX2 yX2_rest yX2_rest, Cond.code yX2_rest cX2_rest 2 (some .int), Cond.methodLink RX2 27 yJ9_floorMod_7cf53, Cond.static yJ9_floorMod_7cf53, Cond.initialized RJ9, Cond.code yJ9_floorMod_7cf53 cJ9_floorMod_7cf53 3 (some .int), Cond.methodLink RX3 76 yX3_goes, Cond.instanceMethod yX3_goes, Cond.selects RX3 yX3_goes yX3_goes, Cond.code yX3_goes cX3_goes 8 (some .boolean), Cond.methodLink RX3 134 yX3_fits, Cond.static yX3_fits, Cond.code yX3_fits cX3_fits 2 (some .boolean), Cond.methodLink RX3 138 yJ6_compare_7cf53, Cond.static yJ6_compare_7cf53, Cond.code yJ6_compare_7cf53 cJ6_compare_7cf53 2 (some .int), Cond.methodLink RL 54 yX7_realise]
def wsL_law0_r19 : List Cond := [Cond.instanceMethod yX7_realise, Cond.selects RX7 yX7_realise yX7_realise, Cond.code yX7_realise cX7_realise 6 (some .int), Cond.methodLink RX7 207 yX7_isPrime, Cond.static yX7_isPrime, Cond.code yX7_isPrime cX7_isPrime 1 (some .boolean), Cond.methodLink RX7 189 yX7_placesOf, Cond.static yX7_placesOf, Cond.code yX7_placesOf cX7_placesOf 1 (some .int), Cond.methodLink RX7 210 yX7_layWants, Cond.instanceMethod yX7_layWants, Cond.selects RX7 yX7_layWants yX7_layWants, Cond.code yX7_layWants cX7_layWants 8 none, Cond.methodLink RX7 195 yX7_layField, Cond.instanceMethod yX7_layField, Cond.selects RX7 yX7_layField yX7_layField, Cond.code yX7_layField cX7_layField 3 none, Cond.methodLink RX7 192 yX7_part, Cond.static yX7_part, Cond.code yX7_part cX7_part 3 (some .int), Cond.methodLink RX7 213 yX7_goes, Cond.instanceMethod yX7_goes, Cond.selects RX7 yX7_goes yX7_goes, Cond.code yX7_goes cX7_goes 7 (some .boolean)]
def wsL_law0_r20 : List Cond := [Cond.methodLink RX7 203 yX7_isRight, Cond.instanceMethod yX7_isRight, Cond.selects RX7 yX7_isRight yX7_isRight, Cond.code yX7_isRight cX7_isRight 10 (some .boolean), Cond.methodLink RX7 199 yX7_valueOf, Cond.instanceMethod yX7_valueOf, Cond.selects RX7 yX7_valueOf yX7_valueOf, Cond.code yX7_valueOf cX7_valueOf 6 (some .int), Cond.methodLink RX7 216 yX7_found, Cond.instanceMethod yX7_found, Cond.selects RX7 yX7_found yX7_found, Cond.code yX7_found cX7_found 3 (some .int), Cond.fieldLink RX7 219 "ConfigSearchModel" "field" "I", Cond.methodLink RL 55 yX6_coordinate, Cond.instanceMethod yX6_coordinate, Cond.selects RX6 yX6_coordinate yX6_coordinate, Cond.code yX6_coordinate cX6_coordinate 3 (some .int), Cond.fieldLink RX6 143 "ConfigSearch$Search" "found" "Z", Cond.methodLink RX6 140 yX4_hasPoint, Cond.methodLink RX6 147 yX3_numberOf, Cond.instanceMethod yX3_numberOf, Cond.selects RX3 yX3_numberOf yX3_numberOf, Cond.code yX3_numberOf cX3_numberOf 4 (some .int), Cond.methodLink RL 58 yX7_coordinate]
def wsL_law0_r21 : List Cond := [Cond.instanceMethod yX7_coordinate, Cond.selects RX7 yX7_coordinate yX7_coordinate, Cond.code yX7_coordinate cX7_coordinate 3 (some .int), Cond.methodLink RL 59 yX6_check, Cond.instanceMethod yX6_check, Cond.selects RX6 yX6_check yX6_check, Cond.code yX6_check cX6_check 1 (some .int), Cond.methodLink RX6 150 yX3_stillHolds, Cond.instanceMethod yX3_stillHolds, Cond.selects RX3 yX3_stillHolds yX3_stillHolds, Cond.code yX3_stillHolds cX3_stillHolds 3 (some .boolean), Cond.methodLink RL 62 yX7_check, Cond.instanceMethod yX7_check, Cond.selects RX7 yX7_check yX7_check, Cond.code yX7_check cX7_check 5 (some .int), Cond.methodLink RL 63 yL_meet, Cond.static yL_meet, Cond.initialized RL, Cond.codeWith yL_meet cL_meet 5 (some .int) [(0, 10, 13, 13)], Cond.classLink RL 13 "java/lang/ArithmeticException", Cond.methodLink RL 7 yX6_meet, Cond.instanceMethod yX6_meet, Cond.selects RX6 yX6_meet yX6_meet, Cond.code yX6_meet cX6_meet 4 (some .int)]
def wsL_law0_r22 : List Cond := [Cond.classLink RX6 156 "java/lang/ArithmeticException", Cond.initialized "java/lang/ArithmeticException", Cond.methodLink RX6 153 yX6_placeOfBoth, Cond.instanceMethod yX6_placeOfBoth, Cond.selects RX6 yX6_placeOfBoth yX6_placeOfBoth, Cond.code yX6_placeOfBoth cX6_placeOfBoth 3 (some .int), Cond.fieldLink RX6 214 "ConfigSearch$Search" "plane" "LConfigSearch$Plane;", Cond.fieldLink RX6 218 "ConfigSearch$Plane" "field" "I", Cond.methodLink RX6 221 yX3_placeOnBoth, Cond.instanceMethod yX3_placeOnBoth, Cond.selects RX3 yX3_placeOnBoth yX3_placeOnBoth, Cond.code yX3_placeOnBoth cX3_placeOnBoth 3 (some .int), Cond.methodLink RX3 97 yX2_placeAt, Cond.instanceMethod yX2_placeAt, Cond.selects RX2 yX2_placeAt yX2_placeAt, Cond.code yX2_placeAt cX2_placeAt 2 (some .int), Cond.methodLink RX2 33 yX2_quotient, Cond.static yX2_quotient, Cond.code yX2_quotient cX2_quotient 6 (some .int), Cond.methodLink RL 68 yX7_meet, Cond.instanceMethod yX7_meet, Cond.selects RX7 yX7_meet yX7_meet, Cond.code yX7_meet cX7_meet 6 (some .int), Cond.methodLink RX7 222 yX7_on]
def wsL_law0_r23 : List Cond := [Cond.instanceMethod yX7_on, Cond.selects RX7 yX7_on yX7_on, Cond.code yX7_on cX7_on 3 (some .int), Cond.methodLink RL 69 yX7_thrown, Cond.instanceMethod yX7_thrown, Cond.selects RX7 yX7_thrown yX7_thrown, Cond.code yX7_thrown cX7_thrown 1 (some .int), Cond.methodLink RL 72 yX6_meets, Cond.instanceMethod yX6_meets, Cond.selects RX6 yX6_meets yX6_meets, Cond.code yX6_meets cX6_meets 3 (some .int), Cond.methodLink RL 75 yX7_meets, Cond.instanceMethod yX7_meets, Cond.selects RX7 yX7_meets yX7_meets, Cond.code yX7_meets cX7_meets 5 (some .int), Cond.methodLink RX7 226 yX7_meet, Cond.methodLink RL 76 yL_pivot, Cond.static yL_pivot, Cond.codeWith yL_pivot cL_pivot 6 (some .int) [(0, 12, 15, 13)], Cond.methodLink RL 15 yX6_pivot, Cond.instanceMethod yX6_pivot, Cond.selects RX6 yX6_pivot yX6_pivot, Cond.code yX6_pivot cX6_pivot 5 (some .int), Cond.methodLink RX6 163 yX2_quotient]
def wsL_law0_r24 : List Cond := [Cond.methodLink RL 79 yX7_pivot, Cond.instanceMethod yX7_pivot, Cond.selects RX7 yX7_pivot yX7_pivot, Cond.code yX7_pivot cX7_pivot 5 (some .int), Cond.methodLink RL 80 yX6_deduce, Cond.instanceMethod yX6_deduce, Cond.selects RX6 yX6_deduce yX6_deduce, Cond.code yX6_deduce cX6_deduce 1 (some .int), Cond.methodLink RX6 170 yX0_follow, Cond.instanceMethod yX0_follow, Cond.selects RX0 yX0_follow yX0_follow, Cond.code yX0_follow cX0_follow 4 (some .int), Cond.methodLink RX0 47 yX0_forget, Cond.methodLink RX0 50 yX0_gather, Cond.instanceMethod yX0_gather, Cond.selects RX0 yX0_gather yX0_gather, Cond.code yX0_gather cX0_gather 6 none, Cond.fieldLink RX0 94 "ConfigSearch$Told" "flat" "[Z", Cond.fieldLink RX0 98 "ConfigSearch$Told" "oriented" "[I", Cond.methodLink RX0 82 yJ7_fill_53178, Cond.methodLink RX0 88 yX5_spotOf, Cond.methodLink RX0 101 yX0_setNow, Cond.instanceMethod yX0_setNow, Cond.selects RX0 yX0_setNow yX0_setNow]
def wsL_law0_r25 : List Cond := [Cond.code yX0_setNow cX0_setNow 5 none, Cond.methodLink RX0 105 yX0_orderOf, Cond.static yX0_orderOf, Cond.code yX0_orderOf cX0_orderOf 3 (some .int), Cond.methodLink RX0 61 yX0_learn, Cond.instanceMethod yX0_learn, Cond.selects RX0 yX0_learn yX0_learn, Cond.code yX0_learn cX0_learn 2 none, Cond.methodLink RX0 54 yX0_firstKind, Cond.instanceMethod yX0_firstKind, Cond.selects RX0 yX0_firstKind yX0_firstKind, Cond.code yX0_firstKind cX0_firstKind 9 (some .int), Cond.methodLink RX0 114 yX0_setRelation, Cond.instanceMethod yX0_setRelation, Cond.selects RX0 yX0_setRelation yX0_setRelation, Cond.code yX0_setRelation cX0_setRelation 6 none, Cond.methodLink RX0 67 yX0_judge, Cond.instanceMethod yX0_judge, Cond.selects RX0 yX0_judge yX0_judge, Cond.code yX0_judge cX0_judge 8 (some .int), Cond.fieldLink RX0 79 "ConfigSearch$Following" "TERM_TURN" "[I", Cond.methodLink RX0 75 yX0_signIn, Cond.instanceMethod yX0_signIn, Cond.selects RX0 yX0_signIn yX0_signIn]
def wsL_law0_r26 : List Cond := [Cond.code yX0_signIn cX0_signIn 4 (some .int), Cond.fieldLink RX0 118 "ConfigSearch$Following" "BEHIND" "[I", Cond.methodLink RX0 121 yX0_tell, Cond.instanceMethod yX0_tell, Cond.selects RX0 yX0_tell yX0_tell, Cond.code yX0_tell cX0_tell 9 (some .int), Cond.methodLink RX0 127 Lib.Math.min.name, Cond.methodLink RX0 132 Lib.Math.max.name, Cond.fieldLink RX0 135 "ConfigSearch$Told" "barred" "[Z", Cond.methodLink RX0 124 yX5_turnOf, Cond.methodLink RX0 58 yX0_addRow, Cond.instanceMethod yX0_addRow, Cond.selects RX0 yX0_addRow yX0_addRow, Cond.code yX0_addRow cX0_addRow 4 none, Cond.methodLink RX0 108 arraycopyName, Cond.native arraycopyName, Cond.static arraycopyName, Cond.initialized "java/lang/System", Cond.methodLink RL 83 yX7_deduce, Cond.instanceMethod yX7_deduce, Cond.selects RX7 yX7_deduce yX7_deduce, Cond.code yX7_deduce cX7_deduce 1 (some .int), Cond.methodLink RX7 270 yX7_layTable, Cond.instanceMethod yX7_layTable]
def wsL_law0_r27 : List Cond := [Cond.selects RX7 yX7_layTable yX7_layTable, Cond.code yX7_layTable cX7_layTable 7 none, Cond.methodLink RX7 229 yX7_layRow, Cond.instanceMethod yX7_layRow, Cond.selects RX7 yX7_layRow yX7_layRow, Cond.code yX7_layRow cX7_layRow 2 none, Cond.methodLink RX7 273 yX7_follows, Cond.instanceMethod yX7_follows, Cond.selects RX7 yX7_follows yX7_follows, Cond.code yX7_follows cX7_follows 6 (some .boolean), Cond.fieldLink RX7 238 "ConfigSearchModel" "comes" "I", Cond.methodLink RX7 264 yX7_work, Cond.instanceMethod yX7_work, Cond.selects RX7 yX7_work yX7_work, Cond.code yX7_work cX7_work 13 none, Cond.methodLink RX7 241 yX7_laySix, Cond.instanceMethod yX7_laySix, Cond.selects RX7 yX7_laySix yX7_laySix, Cond.code yX7_laySix cX7_laySix 6 none, Cond.methodLink RX7 235 yX7_signOf, Cond.instanceMethod yX7_signOf, Cond.selects RX7 yX7_signOf yX7_signOf, Cond.code yX7_signOf cX7_signOf 5 (some .int), Cond.methodLink RX7 232 yX7_placeIn]
def wsL_law0_r28 : List Cond := [Cond.static yX7_placeIn, Cond.code yX7_placeIn cX7_placeIn 5 (some .int), Cond.methodLink RX7 245 yX7_term, Cond.instanceMethod yX7_term, Cond.selects RX7 yX7_term yX7_term, Cond.code yX7_term cX7_term 2 (some .int), Cond.methodLink RX7 248 yX7_tells, Cond.instanceMethod yX7_tells, Cond.selects RX7 yX7_tells yX7_tells, Cond.code yX7_tells cX7_tells 10 none, Cond.fieldLink RX7 252 "ConfigSearchModel" "comesTriple" "I", Cond.fieldLink RX7 255 "ConfigSearchModel" "comesSign" "I", Cond.methodLink RX7 267 yX7_makeRow, Cond.instanceMethod yX7_makeRow, Cond.selects RX7 yX7_makeRow yX7_makeRow, Cond.code yX7_makeRow cX7_makeRow 6 none, Cond.methodLink RX7 261 yX7_kindThen, Cond.instanceMethod yX7_kindThen, Cond.selects RX7 yX7_kindThen yX7_kindThen, Cond.code yX7_kindThen cX7_kindThen 1 (some .int), Cond.methodLink RX7 258 yX7_maskAt, Cond.static yX7_maskAt, Cond.code yX7_maskAt cX7_maskAt 1 (some .int), Cond.methodLink RL 84 yX6_row]
def wsL_law0_r29 : List Cond := [Cond.instanceMethod yX6_row, Cond.selects RX6 yX6_row yX6_row, Cond.code yX6_row cX6_row 3 (some .int), Cond.methodLink RX6 173 yX0_hasRow, Cond.instanceMethod yX0_hasRow, Cond.selects RX0 yX0_hasRow yX0_hasRow, Cond.code yX0_hasRow cX0_hasRow 2 (some .boolean), Cond.methodLink RX6 176 yX0_entry, Cond.instanceMethod yX0_entry, Cond.selects RX0 yX0_entry yX0_entry, Cond.code yX0_entry cX0_entry 3 (some .int), Cond.methodLink RL 87 yX7_row, Cond.instanceMethod yX7_row, Cond.selects RX7 yX7_row yX7_row, Cond.code yX7_row cX7_row 4 (some .int), Cond.methodLink RL 88 yX6_plant, Cond.instanceMethod yX6_plant, Cond.selects RX6 yX6_plant yX6_plant, Cond.code yX6_plant cX6_plant 4 (some .int), Cond.fieldLink RX6 179 "ConfigSearch$Following" "kind" "[I", Cond.fieldLink RX6 182 "ConfigSearch$Following" "signs" "[I", Cond.methodLink RL 91 yX7_plant, Cond.instanceMethod yX7_plant, Cond.selects RX7 yX7_plant yX7_plant]
def wsL_law0_r30 : List Cond := [Cond.code yX7_plant cX7_plant 4 (some .int), Cond.methodLink RL 92 yX6_proof, Cond.instanceMethod yX6_proof, Cond.selects RX6 yX6_proof yX6_proof, Cond.code yX6_proof cX6_proof 1 (some .int), Cond.methodLink RX6 185 yX0_allFollow, Cond.instanceMethod yX0_allFollow, Cond.selects RX0 yX0_allFollow yX0_allFollow, Cond.code yX0_allFollow cX0_allFollow 2 (some .boolean), Cond.methodLink RX0 64 yX0_recall, Cond.instanceMethod yX0_recall, Cond.selects RX0 yX0_recall yX0_recall, Cond.code yX0_recall cX0_recall 2 none, Cond.methodLink RX0 71 yX0_tellsSame, Cond.instanceMethod yX0_tellsSame, Cond.selects RX0 yX0_tellsSame yX0_tellsSame, Cond.code yX0_tellsSame cX0_tellsSame 3 (some .boolean), Cond.methodLink RL 95 yX7_proof, Cond.instanceMethod yX7_proof, Cond.selects RX7 yX7_proof yX7_proof, Cond.code yX7_proof cX7_proof 3 (some .int), Cond.methodLink RL 96 yX6_known, Cond.instanceMethod yX6_known, Cond.selects RX6 yX6_known yX6_known]
def wsL_law0_r31 : List Cond := [Cond.code yX6_known cX6_known 4 (some .int), Cond.methodLink RX6 189 yX0_gather, Cond.methodLink RX6 193 yX0_signNow, Cond.instanceMethod yX0_signNow, Cond.selects RX0 yX0_signNow yX0_signNow, Cond.code yX0_signNow cX0_signNow 4 (some .int), Cond.methodLink RL 99 yX7_known, Cond.instanceMethod yX7_known, Cond.selects RX7 yX7_known yX7_known, Cond.code yX7_known cX7_known 5 (some .int), Cond.methodLink RL 100 yX6_certificate, Cond.instanceMethod yX6_certificate, Cond.selects RX6 yX6_certificate yX6_certificate, Cond.code yX6_certificate cX6_certificate 3 (some .int), Cond.methodLink RX6 196 yX0_lastTerm, Cond.instanceMethod yX0_lastTerm, Cond.selects RX0 yX0_lastTerm yX0_lastTerm, Cond.code yX0_lastTerm cX0_lastTerm 5 (some .int), Cond.methodLink RL 103 yX7_certificate, Cond.instanceMethod yX7_certificate, Cond.selects RX7 yX7_certificate yX7_certificate, Cond.code yX7_certificate cX7_certificate 4 (some .int), Cond.methodLink RL 104 yX6_kinds, Cond.instanceMethod yX6_kinds]
def wsL_law0_r32 : List Cond := [Cond.selects RX6 yX6_kinds yX6_kinds, Cond.code yX6_kinds cX6_kinds 3 (some .int), Cond.methodLink RX6 199 yX1_kindsOf, Cond.instanceMethod yX1_kindsOf, Cond.selects RX1 yX1_kindsOf yX1_kindsOf, Cond.code yX1_kindsOf cX1_kindsOf 4 (some .int), Cond.methodLink RX1 88 yX1_leastFrom, Cond.instanceMethod yX1_leastFrom, Cond.selects RX1 yX1_leastFrom yX1_leastFrom, Cond.code yX1_leastFrom cX1_leastFrom 7 (some .int), Cond.methodLink RX1 92 yX1_isLeast, Cond.instanceMethod yX1_isLeast, Cond.selects RX1 yX1_isLeast yX1_isLeast, Cond.code yX1_isLeast cX1_isLeast 5 (some .boolean), Cond.methodLink RX1 64 yX1_startRenaming, Cond.instanceMethod yX1_startRenaming, Cond.selects RX1 yX1_startRenaming yX1_startRenaming, Cond.code yX1_startRenaming cX1_startRenaming 2 none, Cond.methodLink RX1 70 yX1_factorial, Cond.static yX1_factorial, Cond.code yX1_factorial cX1_factorial 3 (some .int), Cond.methodLink RX1 74 yX1_rename, Cond.instanceMethod yX1_rename, Cond.selects RX1 yX1_rename yX1_rename]
def wsL_law0_r33 : List Cond := [Cond.code yX1_rename cX1_rename 6 none, Cond.methodLink RX1 61 yX1_sort, Cond.static yX1_sort, Cond.code yX1_sort cX1_sort 5 none, Cond.methodLink RX1 77 yX1_compareRows, Cond.static yX1_compareRows, Cond.code yX1_compareRows cX1_compareRows 4 (some .int), Cond.methodLink RX1 108 yJ6_compare_7cf53, Cond.methodLink RX1 84 yX1_nextRenaming, Cond.instanceMethod yX1_nextRenaming, Cond.selects RX1 yX1_nextRenaming yX1_nextRenaming, Cond.code yX1_nextRenaming cX1_nextRenaming 6 none, Cond.methodLink RX1 104 yX1_exchange, Cond.instanceMethod yX1_exchange, Cond.selects RX1 yX1_exchange yX1_exchange, Cond.code yX1_exchange cX1_exchange 4 none, Cond.methodLink RX1 96 yJ6_bitCount_0f7a4, Cond.methodLink RX1 101 yX1_standsBeside, Cond.instanceMethod yX1_standsBeside, Cond.selects RX1 yX1_standsBeside yX1_standsBeside, Cond.code yX1_standsBeside cX1_standsBeside 4 (some .boolean), Cond.methodLink RL 107 yX7_kinds, Cond.instanceMethod yX7_kinds, Cond.selects RX7 yX7_kinds yX7_kinds]
def wsL_law0_r34 : List Cond := [Cond.code yX7_kinds cX7_kinds 7 (some .int), Cond.fieldLink RX7 303 "ConfigSearchModel" "triples" "I", Cond.methodLink RX7 309 yX7_layTriples, Cond.instanceMethod yX7_layTriples, Cond.selects RX7 yX7_layTriples yX7_layTriples, Cond.code yX7_layTriples cX7_layTriples 5 none, Cond.methodLink RX7 312 yX7_isGoodSet, Cond.instanceMethod yX7_isGoodSet, Cond.selects RX7 yX7_isGoodSet yX7_isGoodSet, Cond.code yX7_isGoodSet cX7_isGoodSet 5 (some .boolean), Cond.methodLink RX7 306 yX7_isApart, Cond.static yX7_isApart, Cond.code yX7_isApart cX7_isApart 3 (some .boolean), Cond.methodLink RX7 315 yX7_isLeastSet, Cond.instanceMethod yX7_isLeastSet, Cond.selects RX7 yX7_isLeastSet yX7_isLeastSet, Cond.code yX7_isLeastSet cX7_isLeastSet 6 (some .boolean), Cond.methodLink RX7 280 yX7_sortForm, Cond.instanceMethod yX7_sortForm, Cond.selects RX7 yX7_sortForm yX7_sortForm, Cond.code yX7_sortForm cX7_sortForm 5 none, Cond.methodLink RX7 277 yX7_factorial, Cond.static yX7_factorial, Cond.code yX7_factorial cX7_factorial 3 (some .int)]
def wsL_law0_r35 : List Cond := [Cond.methodLink RX7 283 yX7_layNames, Cond.instanceMethod yX7_layNames, Cond.selects RX7 yX7_layNames yX7_layNames, Cond.code yX7_layNames cX7_layNames 8 none, Cond.methodLink RX7 287 yX7_renamed, Cond.instanceMethod yX7_renamed, Cond.selects RX7 yX7_renamed yX7_renamed, Cond.code yX7_renamed cX7_renamed 5 (some .int), Cond.methodLink RX7 290 yX7_compareForm, Cond.instanceMethod yX7_compareForm, Cond.selects RX7 yX7_compareForm yX7_compareForm, Cond.code yX7_compareForm cX7_compareForm 5 (some .int), Cond.methodLink RX7 318 yX7_nextSet, Cond.instanceMethod yX7_nextSet, Cond.selects RX7 yX7_nextSet yX7_nextSet, Cond.code yX7_nextSet cX7_nextSet 4 (some .boolean), Cond.methodLink RL 108 yX6_canonical, Cond.instanceMethod yX6_canonical, Cond.selects RX6 yX6_canonical yX6_canonical, Cond.code yX6_canonical cX6_canonical 2 (some .int), Cond.fieldLink RX6 208 "ConfigSearch$Forms" "least" "[I", Cond.methodLink RX6 202 yX6_renamable, Cond.instanceMethod yX6_renamable, Cond.selects RX6 yX6_renamable yX6_renamable]
def wsL_law0_r36 : List Cond := [Cond.code yX6_renamable cX6_renamable 1 (some .boolean), Cond.methodLink RX6 205 yX1_study, Cond.instanceMethod yX1_study, Cond.selects RX1 yX1_study yX1_study, Cond.code yX1_study cX1_study 5 none, Cond.fieldLink RX1 46 "ConfigSearch$Text" "lines" "I", Cond.fieldLink RX1 52 "ConfigSearch$Text" "mask" "[I", Cond.methodLink RX1 55 arraycopyName, Cond.fieldLink RX1 67 "ConfigSearch$Text" "points" "I", Cond.methodLink RX1 81 yX1_orderOfRenaming, Cond.instanceMethod yX1_orderOfRenaming, Cond.selects RX1 yX1_orderOfRenaming yX1_orderOfRenaming, Cond.code yX1_orderOfRenaming cX1_orderOfRenaming 5 (some .int), Cond.methodLink RL 111 yX7_canonical, Cond.instanceMethod yX7_canonical, Cond.selects RX7 yX7_canonical yX7_canonical, Cond.code yX7_canonical cX7_canonical 2 (some .int), Cond.methodLink RX7 300 yX7_mayName, Cond.instanceMethod yX7_mayName, Cond.selects RX7 yX7_mayName yX7_mayName, Cond.code yX7_mayName cX7_mayName 1 (some .boolean), Cond.methodLink RX7 297 yX7_nameAll, Cond.instanceMethod yX7_nameAll, Cond.selects RX7 yX7_nameAll yX7_nameAll]
def wsL_law0_r37 : List Cond := [Cond.code yX7_nameAll cX7_nameAll 3 none, Cond.methodLink RX7 294 yX7_orderOf, Cond.instanceMethod yX7_orderOf, Cond.selects RX7 yX7_orderOf yX7_orderOf, Cond.code yX7_orderOf cX7_orderOf 5 (some .int), Cond.methodLink RL 112 yX6_orbit, Cond.instanceMethod yX6_orbit, Cond.selects RX6 yX6_orbit yX6_orbit, Cond.code yX6_orbit cX6_orbit 2 (some .int), Cond.fieldLink RX6 211 "ConfigSearch$Forms" "keeping" "[I", Cond.methodLink RL 115 yX7_orbit, Cond.instanceMethod yX7_orbit, Cond.selects RX7 yX7_orbit yX7_orbit, Cond.code yX7_orbit cX7_orbit 2 (some .int)]
def wsL_law0 : List Cond := (wsL_law0_r1 ++ (wsL_law0_r2 ++ (wsL_law0_r3 ++ (wsL_law0_r4 ++ (wsL_law0_r5 ++ (wsL_law0_r6 ++ (wsL_law0_r7 ++ (wsL_law0_r8 ++ (wsL_law0_r9 ++ (wsL_law0_r10 ++ (wsL_law0_r11 ++ (wsL_law0_r12 ++ (wsL_law0_r13 ++ (wsL_law0_r14 ++ (wsL_law0_r15 ++ (wsL_law0_r16 ++ (wsL_law0_r17 ++ (wsL_law0_r18 ++ (wsL_law0_r19 ++ (wsL_law0_r20 ++ (wsL_law0_r21 ++ (wsL_law0_r22 ++ (wsL_law0_r23 ++ (wsL_law0_r24 ++ (wsL_law0_r25 ++ (wsL_law0_r26 ++ (wsL_law0_r27 ++ (wsL_law0_r28 ++ (wsL_law0_r29 ++ (wsL_law0_r30 ++ (wsL_law0_r31 ++ (wsL_law0_r32 ++ (wsL_law0_r33 ++ (wsL_law0_r34 ++ (wsL_law0_r35 ++ (wsL_law0_r36 ++ wsL_law0_r37)))))))))))))))))))))))))))))))))))) ++ wsX60 ++ wsX70 ++ wsX40 ++ wsX50 ++ wsX30 ++ wsX00 ++ wsX10 ++ wsX20 ++ ([] : List Cond)
def wsL_law : List Cond := wsL_law0 ++ (vx_atS RX6 160 "java/lang/ArithmeticException" ["java/lang/RuntimeException", "java/lang/Exception"]).filter goodWord
set_option maxRecDepth 20000 in
theorem wsL_law_in0 : ∀ w ∈ wsL_law0, w ∈ lw_tbl := fun w h => (goodIn_p wsL_law0 [92, 95, 100, 146, 179, 185, 253, 297, 301, 836, 360, 1005, 1008, 364, 368, 372, 376, 380, 384, 388, 391, 398, 402, 405, 408, 411, 415, 419, 423, 1012, 1016, 1020, 427, 1024, 431, 435, 1028, 439, 443, 447, 452, 1032, 1036, 1039, 1043, 1047, 456, 459, 463, 1051, 1054, 1058, 467, 470, 476, 480, 484, 488, 493, 497, 502, 506, 510, 514, 518, 522, 525, 529, 532, 535, 1062, 1065, 1068, 1072, 1076, 1079, 1083, 1087, 1091, 1095, 539, 544, 1099, 548, 552, 1103, 756, 560, 564, 568, 571, 1107, 1111, 1001, 556, 1115, 829, 1120, 575, 579, 584, 590, 593, 597, 601, 605, 609, 613, 621, 628, 1124, 1128, 1132, 1136, 1140, 1144, 1148, 1151, 1155, 1159, 1163, 1167, 1170, 635, 639, 643, 1174, 647, 1178, 651, 655, 659, 663, 1182, 667, 672, 1186, 676, 680, 1190, 684, 688, 692, 696, 700, 703, 707, 710, 713, 718, 722, 727, 1233, 1237, 1241, 1244, 1248, 1206, 1209, 1213, 1217, 1221, 1252, 731, 735, 739, 744, 1194, 1198, 1202, 1225, 748, 1229] (by decide +kernel) (by decide +kernel) w h).1
theorem wsL_law_x0 : ∀ w ∈ (vx_atS RX6 160 "java/lang/ArithmeticException" ["java/lang/RuntimeException", "java/lang/Exception"]).filter goodWord, w ∈ lw_tbl := by decide +kernel
theorem wsL_law_in : ∀ w ∈ wsL_law, w ∈ lw_tbl := fun w h => (List.mem_append.mp h).elim (fun h => wsL_law_in0 w h) (fun h => wsL_law_x0 w h)
theorem inlX0 : ∀ w ∈ wsX00, w ∈ wsL_law := fun _ h => List.mem_append_left _ (List.mem_append_left _ (List.mem_append_left _ (List.mem_append_left _ (List.mem_append_right _ h))))
theorem inX0 : ∀ w ∈ wsX00, w ∈ lw_tbl := fun w h => wsL_law_in w (inlX0 w h)
theorem inlX1 : ∀ w ∈ wsX10, w ∈ wsL_law := fun _ h => List.mem_append_left _ (List.mem_append_left _ (List.mem_append_left _ (List.mem_append_right _ h)))
theorem inX1 : ∀ w ∈ wsX10, w ∈ lw_tbl := fun w h => wsL_law_in w (inlX1 w h)
theorem inlX2 : ∀ w ∈ wsX20, w ∈ wsL_law := fun _ h => List.mem_append_left _ (List.mem_append_left _ (List.mem_append_right _ h))
theorem inX2 : ∀ w ∈ wsX20, w ∈ lw_tbl := fun w h => wsL_law_in w (inlX2 w h)
theorem inlX3 : ∀ w ∈ wsX30, w ∈ wsL_law := fun _ h => List.mem_append_left _ (List.mem_append_left _ (List.mem_append_left _ (List.mem_append_left _ (List.mem_append_left _ (List.mem_append_right _ h)))))
theorem inX3 : ∀ w ∈ wsX30, w ∈ lw_tbl := fun w h => wsL_law_in w (inlX3 w h)
theorem inlX4 : ∀ w ∈ wsX40, w ∈ wsL_law := fun _ h => List.mem_append_left _ (List.mem_append_left _ (List.mem_append_left _ (List.mem_append_left _ (List.mem_append_left _ (List.mem_append_left _ (List.mem_append_left _ (List.mem_append_right _ h)))))))
theorem inX4 : ∀ w ∈ wsX40, w ∈ lw_tbl := fun w h => wsL_law_in w (inlX4 w h)
theorem inlX5 : ∀ w ∈ wsX50, w ∈ wsL_law := fun _ h => List.mem_append_left _ (List.mem_append_left _ (List.mem_append_left _ (List.mem_append_left _ (List.mem_append_left _ (List.mem_append_left _ (List.mem_append_right _ h))))))
theorem inX5 : ∀ w ∈ wsX50, w ∈ lw_tbl := fun w h => wsL_law_in w (inlX5 w h)
theorem inlX6 : ∀ w ∈ wsX60, w ∈ wsL_law := fun _ h => List.mem_append_left _ (List.mem_append_left _ (List.mem_append_left _ (List.mem_append_left _ (List.mem_append_left _ (List.mem_append_left _ (List.mem_append_left _ (List.mem_append_left _ (List.mem_append_left _ (List.mem_append_right _ h)))))))))
theorem inX6 : ∀ w ∈ wsX60, w ∈ lw_tbl := fun w h => wsL_law_in w (inlX6 w h)
theorem inlX7 : ∀ w ∈ wsX70, w ∈ wsL_law := fun _ h => List.mem_append_left _ (List.mem_append_left _ (List.mem_append_left _ (List.mem_append_left _ (List.mem_append_left _ (List.mem_append_left _ (List.mem_append_left _ (List.mem_append_left _ (List.mem_append_right _ h))))))))
theorem inX7 : ∀ w ∈ wsX70, w ∈ lw_tbl := fun w h => wsL_law_in w (inlX7 w h)
theorem inJ6 : ∀ w ∈ wsJ60, w ∈ lw_tbl := by decide +kernel
theorem inJ9 : ∀ w ∈ wsJ90, w ∈ lw_tbl := by decide +kernel
theorem inJ0 : ∀ w ∈ wsJ00, w ∈ lw_tbl := by decide +kernel
theorem inJ10 : ∀ w ∈ wsJ100, w ∈ lw_tbl := by decide +kernel
theorem inJ7 : ∀ w ∈ wsJ70, w ∈ lw_tbl := by decide +kernel
set_option maxRecDepth 20000 in
theorem ggL_meet_X6_meet : GoodIn wsL_meet wsX6_meet := goodIn_ca (goodIn_r _ [6, 7, 8, 9, 10, 11, 5, 12, 13, 14, 15, 16, 17, 18, 19, 20, 21, 22, 23, 24, 25, 26, 27, 28, 29, 30, 31, 32, 33, 34, 35, 36, 37, 38, 39, 40, 41, 42, 43, 44, 45, 46, 47, 48, 49, 50, 51, 52, 53, 54, 55, 56, 57, 58, 59, 60, 61, 62, 63, 64, 65, 66, 67, 68, 69, 70, 71, 72, 73, 74, 75, 76, 77, 78, 79, 80, 81, 82, 83, 84, 85, 86, 87, 88, 89, 90, 91, 92, 93, 94, 95, 96, 97, 98] (by decide +kernel) (by decide +kernel)) (goodIn_sub (fun _ h => List.mem_cons_of_mem _ (List.mem_append_right _ h)) (by decide +kernel))
set_option maxRecDepth 20000 in
theorem gL_meet_X6_meet : GoodIn wsL_meet (wsV RL 7 RX6 yX6_meet wsX6_meet) := goodIn_app (goodIn_of _ (by decide +kernel)) ggL_meet_X6_meet
theorem dL_meet_0 : decode cL_meet 0 = .ok (.aload_n 3, 1) := by decide +kernel
theorem dL_meet_1 : decode cL_meet 1 = .ok (.iconst 0, 1) := by decide +kernel
theorem dL_meet_2 : decode cL_meet 2 = .ok (.aload_n 0, 1) := by decide +kernel
theorem dL_meet_3 : decode cL_meet 3 = .ok (.iload_n 1, 1) := by decide +kernel
theorem dL_meet_4 : decode cL_meet 4 = .ok (.iload_n 2, 1) := by decide +kernel
theorem dL_meet_5 : decode cL_meet 5 = .ok (.invokevirtual 7, 3) := by decide +kernel
theorem dL_meet_8 : decode cL_meet 8 = .ok (.i2l, 1) := by decide +kernel
theorem dL_meet_9 : decode cL_meet 9 = .ok (.lastore, 1) := by decide +kernel
theorem dL_meet_10 : decode cL_meet 10 = .ok (.goto 7, 3) := by decide +kernel
theorem dL_meet_13 : decode cL_meet 13 = .ok (.astore 4, 2) := by decide +kernel
theorem dL_meet_15 : decode cL_meet 15 = .ok (.iconst 1, 1) := by decide +kernel
theorem dL_meet_16 : decode cL_meet 16 = .ok (.ireturn, 1) := by decide +kernel
theorem dL_meet_17 : decode cL_meet 17 = .ok (.iconst 0, 1) := by decide +kernel
theorem dL_meet_18 : decode cL_meet 18 = .ok (.ireturn, 1) := by decide +kernel
set_option maxRecDepth 20000 in
theorem ggL_pivot_X6_pivot : GoodIn wsL_pivot wsX6_pivot := goodIn_ca (goodIn_r _ [6, 7, 8, 9, 10, 5, 11, 12, 13, 14, 15, 16, 17, 18, 19, 20] (by decide +kernel) (by decide +kernel)) (goodIn_sub (fun _ h => List.mem_cons_of_mem _ (List.mem_append_right _ h)) (by decide +kernel))
set_option maxRecDepth 20000 in
theorem gL_pivot_X6_pivot : GoodIn wsL_pivot (wsV RL 15 RX6 yX6_pivot wsX6_pivot) := goodIn_app (goodIn_of _ (by decide +kernel)) ggL_pivot_X6_pivot
theorem dL_pivot_0 : decode cL_pivot 0 = .ok (.aload 4, 2) := by decide +kernel
theorem dL_pivot_2 : decode cL_pivot 2 = .ok (.iconst 0, 1) := by decide +kernel
theorem dL_pivot_3 : decode cL_pivot 3 = .ok (.aload_n 0, 1) := by decide +kernel
theorem dL_pivot_4 : decode cL_pivot 4 = .ok (.iload_n 1, 1) := by decide +kernel
theorem dL_pivot_5 : decode cL_pivot 5 = .ok (.iload_n 2, 1) := by decide +kernel
theorem dL_pivot_6 : decode cL_pivot 6 = .ok (.iload_n 3, 1) := by decide +kernel
theorem dL_pivot_7 : decode cL_pivot 7 = .ok (.invokevirtual 15, 3) := by decide +kernel
theorem dL_pivot_10 : decode cL_pivot 10 = .ok (.i2l, 1) := by decide +kernel
theorem dL_pivot_11 : decode cL_pivot 11 = .ok (.lastore, 1) := by decide +kernel
theorem dL_pivot_12 : decode cL_pivot 12 = .ok (.goto 7, 3) := by decide +kernel
theorem dL_pivot_15 : decode cL_pivot 15 = .ok (.astore 5, 2) := by decide +kernel
theorem dL_pivot_17 : decode cL_pivot 17 = .ok (.iconst 1, 1) := by decide +kernel
theorem dL_pivot_18 : decode cL_pivot 18 = .ok (.ireturn, 1) := by decide +kernel
theorem dL_pivot_19 : decode cL_pivot 19 = .ok (.iconst 0, 1) := by decide +kernel
theorem dL_pivot_20 : decode cL_pivot 20 = .ok (.ireturn, 1) := by decide +kernel
set_option maxRecDepth 20000 in
theorem ggL_law_X6_init : GoodIn wsL_law wsX6_init := goodIn_r _ [9, 10, 11, 12, 13, 14, 15, 16, 17, 18, 19, 20, 21, 22, 23, 24, 25, 26, 27, 28, 29, 30, 31, 32, 33, 34, 35, 36, 37, 38, 39, 40, 41, 42, 43, 44, 45, 46, 47, 48, 49, 50, 51, 52, 53, 54, 55, 56, 57, 58, 59, 60, 61, 62, 63, 64, 65, 66, 67, 68, 69, 70, 71, 72, 73, 74, 75, 76, 77, 78, 79, 80, 81, 82, 83, 84, 85, 86, 87, 88, 89, 90, 91, 92, 93, 94, 95, 96, 97, 98, 99, 100, 101, 102, 103, 104, 105, 106, 107, 108, 109, 110, 111, 112, 113, 114, 115, 116, 117, 118, 878, 879, 880, 881, 882, 883, 884, 885, 939, 940, 941, 942, 943, 944, 945, 946, 947, 948, 949, 950, 951, 952, 953, 954, 955, 956, 957, 958, 959, 960, 961, 962, 963, 964, 965, 966, 967, 968, 969, 970, 971, 972, 973, 974, 975, 976, 977, 978, 979, 980, 981, 982, 983, 984, 985, 986, 987, 988] (by decide +kernel) (by decide +kernel)
set_option maxRecDepth 20000 in
theorem gL_law_X6_init : GoodIn wsL_law (wsX6_init) := ggL_law_X6_init
set_option maxRecDepth 20000 in
theorem ggL_law_X7_init : GoodIn wsL_law wsX7_init := goodIn_r _ [121, 122, 11, 12, 13, 123, 124, 125, 126, 127, 128, 129, 130, 131, 132, 133, 134, 135, 136, 137, 138, 139, 140, 141, 142, 143, 144, 145, 146, 147, 148, 149, 150, 151, 152, 153, 154, 155, 156, 157, 158, 159, 886, 887, 888, 889, 890, 891, 892, 893, 894, 895, 896, 897, 898, 899, 900, 901, 902, 903, 904, 905, 906, 907, 908, 909, 910, 911, 912, 913, 914, 915, 916, 917, 918, 919, 920, 921, 922, 923, 924, 925, 926, 927, 928, 929, 930, 931, 932, 933, 934, 935, 936, 937, 938] (by decide +kernel) (by decide +kernel)
set_option maxRecDepth 20000 in
theorem gL_law_X7_init : GoodIn wsL_law (wsX7_init) := ggL_law_X7_init
set_option maxRecDepth 20000 in
theorem ggL_law_X6_sign : GoodIn wsL_law wsX6_sign := goodIn_r _ [163, 15, 14, 878, 879, 880, 881, 882, 883, 884, 885] (by decide +kernel) (by decide +kernel)
set_option maxRecDepth 20000 in
theorem gL_law_X6_sign : GoodIn wsL_law (wsV RL 23 RX6 yX6_sign wsX6_sign) := goodIn_app (goodIn_of _ (by decide +kernel)) ggL_law_X6_sign
set_option maxRecDepth 20000 in
theorem ggL_law_X7_sign : GoodIn wsL_law wsX7_sign := goodIn_r _ [167, 168, 169, 123, 170, 171, 5, 172, 886, 887, 888, 889, 890, 891, 892, 893, 894, 895, 896, 897, 898, 899, 900, 901, 902, 903, 904, 905, 906, 907, 908, 909, 910, 911, 912, 913, 914, 915, 916, 917, 918, 919, 920, 921, 922, 923, 924, 925, 926, 927, 928, 929, 930, 931, 932, 933, 934, 935, 936, 937, 938] (by decide +kernel) (by decide +kernel)
set_option maxRecDepth 20000 in
theorem gL_law_X7_sign : GoodIn wsL_law (wsV RL 27 RX7 yX7_sign wsX7_sign) := goodIn_app (goodIn_of _ (by decide +kernel)) ggL_law_X7_sign
set_option maxRecDepth 20000 in
theorem ggL_law_X6_read : GoodIn wsL_law wsX6_read := goodIn_r _ [176, 20, 14, 15, 19, 24, 28, 32, 36, 177, 178, 179, 180, 18, 181, 40, 41, 42, 48, 182, 183, 184, 185, 44, 186, 187, 188, 189, 46, 47, 190, 191, 192, 193, 194, 195, 196, 197, 43, 198, 199, 200, 201, 202, 203, 204, 205, 206, 207, 208, 209, 210, 211, 23, 212, 53, 54, 55, 56, 57, 213, 214, 215, 216, 217, 218, 219, 220, 221, 222, 223, 224, 225, 226, 227, 228, 229, 230, 231, 232, 27, 233, 66, 67, 234, 235, 236, 31, 237, 91, 92, 238, 239, 240, 35, 241, 108, 878, 879, 880, 881, 882, 883, 884, 885, 939, 940, 941, 942, 943, 944, 945, 946, 947, 948, 949, 950, 951, 952, 953, 954, 955, 956, 957, 958, 959, 960, 961, 962, 963, 964, 965, 966, 967, 968, 969, 970, 971, 972, 973, 974, 975, 976, 977, 978, 979, 980, 981, 982, 983, 984, 985] (by decide +kernel) (by decide +kernel)
set_option maxRecDepth 20000 in
theorem gL_law_X6_read : GoodIn wsL_law (wsV RL 28 RX6 yX6_read wsX6_read) := goodIn_app (goodIn_of _ (by decide +kernel)) ggL_law_X6_read
set_option maxRecDepth 20000 in
theorem ggL_law_X7_read : GoodIn wsL_law wsX7_read := goodIn_r _ [245, 168, 169, 246, 247, 248, 125, 126, 129, 128, 130, 124, 127, 249, 250, 251, 252, 253, 254, 159, 255, 256, 257, 5, 258, 123, 131, 170, 171, 172, 259, 260, 261, 262, 886, 887, 888, 889, 890, 891, 892, 893, 894, 895, 896, 897, 898, 899, 900, 901, 902, 903, 904, 905, 906, 907, 908, 909, 910, 911, 912, 913, 914, 915, 916, 917, 918, 919, 920, 921, 922, 923, 924, 925, 926, 927, 928, 929, 930, 931, 932, 933, 934, 935, 936, 937, 938] (by decide +kernel) (by decide +kernel)
set_option maxRecDepth 20000 in
theorem gL_law_X7_read : GoodIn wsL_law (wsV RL 32 RX7 yX7_read wsX7_read) := goodIn_app (goodIn_of _ (by decide +kernel)) ggL_law_X7_read
set_option maxRecDepth 20000 in
theorem ggL_law_X6_count : GoodIn wsL_law wsX6_count := goodIn_r _ [266, 19, 267, 268, 24, 269, 270, 32, 271, 28, 272, 15, 273, 878, 879, 880, 881, 882, 883, 884, 885, 939, 940, 941, 942, 943, 944, 945, 946, 947, 948, 949, 950, 951, 966, 967, 968, 969, 970, 971, 972, 973, 974, 975, 976, 952, 953, 954, 955, 956, 957, 958, 959, 960, 961, 962, 963, 964, 965] (by decide +kernel) (by decide +kernel)
set_option maxRecDepth 20000 in
theorem gL_law_X6_count : GoodIn wsL_law (wsV RL 33 RX6 yX6_count wsX6_count) := goodIn_app (goodIn_of _ (by decide +kernel)) ggL_law_X6_count
set_option maxRecDepth 20000 in
theorem ggL_law_X7_count : GoodIn wsL_law wsX7_count := goodIn_r _ [277, 168, 246, 248, 249, 250, 251, 254, 169, 159, 886, 887, 888, 889, 890, 891, 892, 893, 894, 895, 896, 897, 898, 899, 900, 901, 902, 903, 904, 905, 906, 907, 908, 909, 910, 911, 912, 913, 914, 915, 916, 917, 918, 919, 920, 921, 922, 923, 924, 925, 926, 927, 928, 929, 930, 931, 932, 933, 934, 935, 936, 937, 938] (by decide +kernel) (by decide +kernel)
set_option maxRecDepth 20000 in
theorem gL_law_X7_count : GoodIn wsL_law (wsV RL 36 RX7 yX7_count wsX7_count) := goodIn_app (goodIn_of _ (by decide +kernel)) ggL_law_X7_count
set_option maxRecDepth 20000 in
theorem ggL_law_X6_line : GoodIn wsL_law wsX6_line := goodIn_r _ [281, 19, 282, 283, 284, 285, 286, 287, 18, 288, 41, 878, 879, 880, 881, 882, 883, 884, 885, 939, 940, 941, 942, 943, 944, 945, 946] (by decide +kernel) (by decide +kernel)
set_option maxRecDepth 20000 in
theorem gL_law_X6_line : GoodIn wsL_law (wsV RL 37 RX6 yX6_line wsX6_line) := goodIn_app (goodIn_of _ (by decide +kernel)) ggL_law_X6_line
set_option maxRecDepth 20000 in
theorem ggL_law_X7_line : GoodIn wsL_law wsX7_line := goodIn_r _ [292, 168, 248, 126, 127, 124, 170, 171, 5, 172, 886, 887, 888, 889, 890, 891, 892, 893, 894, 895, 896, 897, 898, 899, 900, 901, 902, 903, 904, 905, 906, 907, 908, 909, 910, 911, 912, 913, 914, 915, 916, 917, 918, 919, 920, 921, 922, 923, 924, 925, 926, 927, 928, 929, 930, 931, 932, 933, 934, 935, 936, 937, 938] (by decide +kernel) (by decide +kernel)
set_option maxRecDepth 20000 in
theorem gL_law_X7_line : GoodIn wsL_law (wsV RL 41 RX7 yX7_line wsX7_line) := goodIn_app (goodIn_of _ (by decide +kernel)) ggL_law_X7_line
set_option maxRecDepth 20000 in
theorem ggL_law_X6_bar : GoodIn wsL_law wsX6_bar := goodIn_r _ [296, 19, 24, 297, 298, 299, 300, 18, 301, 302, 303, 304, 305, 40, 306, 221, 23, 222, 223, 224, 225, 226, 227, 228, 229, 307, 308, 309, 310, 54, 56, 878, 879, 880, 881, 882, 883, 884, 885, 947, 948, 949, 950, 951, 939, 940, 941, 942, 943, 944, 945, 946] (by decide +kernel) (by decide +kernel)
set_option maxRecDepth 20000 in
theorem gL_law_X6_bar : GoodIn wsL_law (wsV RL 42 RX6 yX6_bar wsX6_bar) := goodIn_app (goodIn_of _ (by decide +kernel)) ggL_law_X6_bar
set_option maxRecDepth 20000 in
theorem ggL_law_X7_bar : GoodIn wsL_law wsX7_bar := goodIn_r _ [314, 168, 249, 132, 315, 316, 317, 5, 318, 246, 170, 171, 172, 319, 320, 321, 322, 323, 324, 325, 248, 128, 326, 327, 328, 329, 886, 887, 888, 889, 890, 891, 892, 893, 894, 895, 896, 897, 898, 899, 900, 901, 902, 903, 904, 905, 906, 907, 908, 909, 910, 911, 912, 913, 914, 915, 916, 917, 918, 919, 920, 921, 922, 923, 924, 925, 926, 927, 928, 929, 930, 931, 932, 933, 934, 935, 936, 937, 938] (by decide +kernel) (by decide +kernel)
set_option maxRecDepth 20000 in
theorem gL_law_X7_bar : GoodIn wsL_law (wsV RL 45 RX7 yX7_bar wsX7_bar) := goodIn_app (goodIn_of _ (by decide +kernel)) ggL_law_X7_bar
set_option maxRecDepth 20000 in
theorem ggL_law_X6_orient : GoodIn wsL_law wsX6_orient := goodIn_r _ [333, 19, 24, 297, 334, 298, 299, 300, 18, 301, 302, 303, 304, 305, 40, 306, 221, 23, 222, 223, 224, 225, 226, 227, 228, 229, 335, 336, 337, 338, 339, 340, 341, 55, 57, 878, 879, 880, 881, 882, 883, 884, 885, 947, 948, 949, 950, 951, 939, 940, 941, 942, 943, 944, 945, 946] (by decide +kernel) (by decide +kernel)
set_option maxRecDepth 20000 in
theorem gL_law_X6_orient : GoodIn wsL_law (wsV RL 46 RX6 yX6_orient wsX6_orient) := goodIn_app (goodIn_of _ (by decide +kernel)) ggL_law_X6_orient
set_option maxRecDepth 20000 in
theorem ggL_law_X7_orient : GoodIn wsL_law wsX7_orient := goodIn_r _ [345, 168, 134, 250, 133, 315, 316, 317, 5, 318, 246, 170, 171, 172, 319, 320, 321, 346, 347, 348, 349, 350, 351, 352, 322, 323, 324, 325, 248, 128, 886, 887, 888, 889, 890, 891, 892, 893, 894, 895, 896, 897, 898, 899, 900, 901, 902, 903, 904, 905, 906, 907, 908, 909, 910, 911, 912, 913, 914, 915, 916, 917, 918, 919, 920, 921, 922, 923, 924, 925, 926, 927, 928, 929, 930, 931, 932, 933, 934, 935, 936, 937, 938] (by decide +kernel) (by decide +kernel)
set_option maxRecDepth 20000 in
theorem gL_law_X7_orient : GoodIn wsL_law (wsV RL 50 RX7 yX7_orient wsX7_orient) := goodIn_app (goodIn_of _ (by decide +kernel)) ggL_law_X7_orient
set_option maxRecDepth 20000 in
theorem ggL_law_X6_realise : GoodIn wsL_law wsX6_realise := goodIn_r _ [356, 19, 268, 28, 267, 357, 358, 2, 359, 360, 361, 362, 363, 27, 364, 65, 67, 68, 66, 365, 366, 367, 368, 64, 369, 83, 84, 370, 371, 372, 373, 86, 374, 375, 376, 377, 69, 70, 71, 72, 378, 221, 23, 222, 223, 224, 225, 226, 227, 228, 229, 379, 380, 381, 382, 79, 383, 384, 385, 386, 387, 388, 389, 390, 391, 231, 232, 233, 392, 393, 394, 395, 396, 397, 398, 399, 77, 74, 400, 401, 402, 403, 75, 76, 404, 405, 406, 407, 408, 409, 410, 411, 412, 413, 414, 415, 416, 417, 418, 419, 420, 421, 422, 423, 424, 425, 426, 427, 428, 429, 204, 430, 878, 879, 880, 881, 882, 883, 884, 885, 939, 940, 941, 942, 943, 944, 945, 946, 952, 953, 954, 955, 956, 957, 958, 959, 960, 961, 962, 963, 964, 965, 986, 987, 988, 947, 948, 949, 950, 951] (by decide +kernel) (by decide +kernel)
set_option maxRecDepth 20000 in
theorem gL_law_X6_realise : GoodIn wsL_law (wsV RL 51 RX6 yX6_realise wsX6_realise) := goodIn_app (goodIn_of _ (by decide +kernel)) ggL_law_X6_realise
set_option maxRecDepth 20000 in
theorem ggL_law_X7_realise : GoodIn wsL_law wsX7_realise := goodIn_r _ [434, 168, 248, 252, 254, 136, 137, 246, 435, 436, 5, 437, 170, 171, 172, 438, 439, 440, 441, 442, 443, 444, 134, 142, 445, 446, 447, 448, 138, 139, 140, 141, 449, 450, 451, 319, 320, 321, 349, 350, 351, 352, 250, 133, 326, 327, 328, 329, 249, 132, 322, 323, 324, 325, 128, 452, 453, 454, 455, 456, 457, 458, 459, 460, 461, 462, 463, 464, 465, 466, 467, 468, 135, 886, 887, 888, 889, 890, 891, 892, 893, 894, 895, 896, 897, 898, 899, 900, 901, 902, 903, 904, 905, 906, 907, 908, 909, 910, 911, 912, 913, 914, 915, 916, 917, 918, 919, 920, 921, 922, 923, 924, 925, 926, 927, 928, 929, 930, 931, 932, 933, 934, 935, 936, 937, 938] (by decide +kernel) (by decide +kernel)
set_option maxRecDepth 20000 in
theorem gL_law_X7_realise : GoodIn wsL_law (wsV RL 54 RX7 yX7_realise wsX7_realise) := goodIn_app (goodIn_of _ (by decide +kernel)) ggL_law_X7_realise
set_option maxRecDepth 20000 in
theorem ggL_law_X6_coordinate : GoodIn wsL_law wsX6_coordinate := goodIn_r _ [472, 19, 28, 473, 474, 303, 304, 18, 305, 40, 475, 476, 477, 27, 478, 68, 65, 408, 878, 879, 880, 881, 882, 883, 884, 885, 952, 953, 954, 955, 956, 957, 958, 959, 960, 961, 962, 963, 964, 965, 939, 940, 941, 942, 943, 944, 945, 946, 986, 987, 988] (by decide +kernel) (by decide +kernel)
set_option maxRecDepth 20000 in
theorem gL_law_X6_coordinate : GoodIn wsL_law (wsV RL 55 RX6 yX6_coordinate wsX6_coordinate) := goodIn_app (goodIn_of _ (by decide +kernel)) ggL_law_X6_coordinate
set_option maxRecDepth 20000 in
theorem ggL_law_X7_coordinate : GoodIn wsL_law wsX7_coordinate := goodIn_r _ [482, 168, 246, 252, 135, 468, 170, 171, 5, 172, 449, 450, 451, 886, 887, 888, 889, 890, 891, 892, 893, 894, 895, 896, 897, 898, 899, 900, 901, 902, 903, 904, 905, 906, 907, 908, 909, 910, 911, 912, 913, 914, 915, 916, 917, 918, 919, 920, 921, 922, 923, 924, 925, 926, 927, 928, 929, 930, 931, 932, 933, 934, 935, 936, 937, 938] (by decide +kernel) (by decide +kernel)
set_option maxRecDepth 20000 in
theorem gL_law_X7_coordinate : GoodIn wsL_law (wsV RL 58 RX7 yX7_coordinate wsX7_coordinate) := goodIn_app (goodIn_of _ (by decide +kernel)) ggL_law_X7_coordinate
set_option maxRecDepth 20000 in
theorem ggL_law_X6_check : GoodIn wsL_law wsX6_check := goodIn_r _ [486, 28, 473, 19, 267, 487, 488, 489, 27, 490, 374, 375, 376, 377, 69, 70, 71, 72, 378, 221, 23, 222, 223, 224, 225, 226, 227, 228, 229, 379, 380, 381, 382, 79, 383, 384, 385, 386, 387, 388, 389, 65, 390, 396, 397, 398, 399, 77, 74, 400, 401, 402, 403, 75, 76, 404, 405, 406, 407, 408, 68, 409, 410, 411, 412, 413, 414, 415, 64, 416, 83, 417, 418, 419, 420, 421, 422, 423, 424, 425, 426, 427, 428, 429, 204, 430, 878, 879, 880, 881, 882, 883, 884, 885, 952, 953, 954, 955, 956, 957, 958, 959, 960, 961, 962, 963, 964, 965, 939, 940, 941, 942, 943, 944, 945, 946, 947, 948, 949, 950, 951, 986, 987, 988] (by decide +kernel) (by decide +kernel)
set_option maxRecDepth 20000 in
theorem gL_law_X6_check : GoodIn wsL_law (wsV RL 59 RX6 yX6_check wsX6_check) := goodIn_app (goodIn_of _ (by decide +kernel)) ggL_law_X6_check
set_option maxRecDepth 20000 in
theorem ggL_law_X7_check : GoodIn wsL_law wsX7_check := goodIn_r _ [494, 168, 252, 468, 246, 135, 441, 442, 443, 5, 444, 134, 142, 445, 446, 447, 448, 138, 139, 140, 141, 438, 439, 440, 449, 450, 451, 319, 320, 321, 349, 350, 351, 352, 250, 133, 326, 327, 328, 329, 249, 132, 322, 323, 324, 325, 248, 128, 456, 457, 458, 459, 460, 461, 462, 463, 886, 887, 888, 889, 890, 891, 892, 893, 894, 895, 896, 897, 898, 899, 900, 901, 902, 903, 904, 905, 906, 907, 908, 909, 910, 911, 912, 913, 914, 915, 916, 917, 918, 919, 920, 921, 922, 923, 924, 925, 926, 927, 928, 929, 930, 931, 932, 933, 934, 935, 936, 937, 938] (by decide +kernel) (by decide +kernel)
set_option maxRecDepth 20000 in
theorem gL_law_X7_check : GoodIn wsL_law (wsV RL 62 RX7 yX7_check wsX7_check) := goodIn_app (goodIn_of _ (by decide +kernel)) ggL_law_X7_check
set_option maxRecDepth 20000 in
theorem ggL_law_L_meet : GoodIn wsL_law wsL_meet := goodIn_ca (goodIn_r _ [498, 499, 500, 501, 502, 2, 503, 504, 505, 506, 507, 508, 509, 19, 28, 473, 510, 511, 283, 285, 286, 287, 18, 288, 41, 512, 513, 514, 27, 515, 77, 78, 75, 65, 400, 401, 402, 403, 76, 404, 405, 406, 407, 408, 68, 409, 410, 411, 412, 413, 414, 415, 64, 416, 83, 417, 418, 419, 420, 516, 517, 518, 519, 520, 521, 522, 878, 879, 880, 881, 882, 883, 884, 885, 952, 953, 954, 955, 956, 957, 958, 959, 960, 961, 962, 963, 964, 965, 986, 987, 988, 939, 940, 941, 942, 943, 944, 945, 946] (by decide +kernel) (by decide +kernel)) (goodIn_sub (fun _ h => List.mem_append_right _ h) (by decide +kernel))
set_option maxRecDepth 20000 in
theorem gL_law_L_meet : GoodIn wsL_law (va_wsS RL 63 yL_meet wsL_meet) := goodIn_app (goodIn_of _ (by decide +kernel)) ggL_law_L_meet
set_option maxRecDepth 20000 in
theorem ggL_law_X7_meet : GoodIn wsL_law wsX7_meet := goodIn_r _ [526, 168, 248, 252, 468, 170, 171, 5, 172, 445, 446, 447, 448, 138, 139, 140, 141, 438, 439, 440, 449, 450, 451, 527, 528, 529, 530, 135, 127, 460, 461, 462, 463, 886, 887, 888, 889, 890, 891, 892, 893, 894, 895, 896, 897, 898, 899, 900, 901, 902, 903, 904, 905, 906, 907, 908, 909, 910, 911, 912, 913, 914, 915, 916, 917, 918, 919, 920, 921, 922, 923, 924, 925, 926, 927, 928, 929, 930, 931, 932, 933, 934, 935, 936, 937, 938] (by decide +kernel) (by decide +kernel)
set_option maxRecDepth 20000 in
theorem gL_law_X7_meet : GoodIn wsL_law (wsV RL 68 RX7 yX7_meet wsX7_meet) := goodIn_app (goodIn_of _ (by decide +kernel)) ggL_law_X7_meet
set_option maxRecDepth 20000 in
theorem ggL_law_X7_thrown : GoodIn wsL_law wsX7_thrown := goodIn_r _ [534, 168, 886, 887, 888, 889, 890, 891, 892, 893, 894, 895, 896, 897, 898, 899, 900, 901, 902, 903, 904, 905, 906, 907, 908, 909, 910, 911, 912, 913, 914, 915, 916, 917, 918, 919, 920, 921, 922, 923, 924, 925, 926, 927, 928, 929, 930, 931, 932, 933, 934, 935, 936, 937, 938] (by decide +kernel) (by decide +kernel)
set_option maxRecDepth 20000 in
theorem gL_law_X7_thrown : GoodIn wsL_law (wsV RL 69 RX7 yX7_thrown wsX7_thrown) := goodIn_app (goodIn_of _ (by decide +kernel)) ggL_law_X7_thrown
set_option maxRecDepth 20000 in
theorem ggL_law_X6_meets : GoodIn wsL_law wsX6_meets := goodIn_r _ [538, 506, 507, 508, 2, 509, 19, 28, 473, 510, 511, 283, 285, 286, 287, 18, 288, 41, 512, 513, 514, 27, 515, 77, 78, 75, 65, 400, 401, 402, 403, 76, 404, 405, 406, 407, 408, 68, 409, 410, 411, 412, 413, 414, 415, 64, 416, 83, 417, 418, 419, 420, 516, 517, 518, 519, 520, 521, 522, 878, 879, 880, 881, 882, 883, 884, 885, 952, 953, 954, 955, 956, 957, 958, 959, 960, 961, 962, 963, 964, 965, 986, 987, 988, 939, 940, 941, 942, 943, 944, 945, 946] (by decide +kernel) (by decide +kernel)
set_option maxRecDepth 20000 in
theorem gL_law_X6_meets : GoodIn wsL_law (wsV RL 72 RX6 yX6_meets wsX6_meets) := goodIn_app (goodIn_of _ (by decide +kernel)) ggL_law_X6_meets
set_option maxRecDepth 20000 in
theorem ggL_law_X7_meets : GoodIn wsL_law wsX7_meets := goodIn_r _ [542, 168, 543, 524, 525, 5, 526, 248, 252, 468, 170, 171, 172, 445, 446, 447, 448, 138, 139, 140, 141, 438, 439, 440, 449, 450, 451, 527, 528, 529, 530, 135, 127, 460, 461, 462, 463, 886, 887, 888, 889, 890, 891, 892, 893, 894, 895, 896, 897, 898, 899, 900, 901, 902, 903, 904, 905, 906, 907, 908, 909, 910, 911, 912, 913, 914, 915, 916, 917, 918, 919, 920, 921, 922, 923, 924, 925, 926, 927, 928, 929, 930, 931, 932, 933, 934, 935, 936, 937, 938] (by decide +kernel) (by decide +kernel)
set_option maxRecDepth 20000 in
theorem gL_law_X7_meets : GoodIn wsL_law (wsV RL 75 RX7 yX7_meets wsX7_meets) := goodIn_app (goodIn_of _ (by decide +kernel)) ggL_law_X7_meets
set_option maxRecDepth 20000 in
theorem ggL_law_L_pivot : GoodIn wsL_law wsL_pivot := goodIn_ca (goodIn_r _ [546, 499, 547, 548, 549, 2, 550, 504, 505, 357, 358, 359, 360, 551, 521, 64, 522, 417, 418, 419, 420] (by decide +kernel) (by decide +kernel)) (goodIn_sub (fun _ h => List.mem_append_right _ h) (by decide +kernel))
set_option maxRecDepth 20000 in
theorem gL_law_L_pivot : GoodIn wsL_law (va_wsS RL 76 yL_pivot wsL_pivot) := goodIn_app (goodIn_of _ (by decide +kernel)) ggL_law_L_pivot
set_option maxRecDepth 20000 in
theorem ggL_law_X7_pivot : GoodIn wsL_law wsX7_pivot := goodIn_r _ [555, 168, 435, 436, 5, 437, 886, 887, 888, 889, 890, 891, 892, 893, 894, 895, 896, 897, 898, 899, 900, 901, 902, 903, 904, 905, 906, 907, 908, 909, 910, 911, 912, 913, 914, 915, 916, 917, 918, 919, 920, 921, 922, 923, 924, 925, 926, 927, 928, 929, 930, 931, 932, 933, 934, 935, 936, 937, 938] (by decide +kernel) (by decide +kernel)
set_option maxRecDepth 20000 in
theorem gL_law_X7_pivot : GoodIn wsL_law (wsV RL 79 RX7 yX7_pivot wsX7_pivot) := goodIn_app (goodIn_of _ (by decide +kernel)) ggL_law_X7_pivot
set_option maxRecDepth 20000 in
theorem ggL_law_X6_deduce : GoodIn wsL_law wsX6_deduce := goodIn_r _ [559, 19, 268, 32, 267, 560, 561, 562, 31, 563, 92, 91, 564, 235, 236, 237, 565, 566, 567, 568, 97, 101, 569, 570, 571, 116, 117, 118, 572, 221, 23, 222, 223, 224, 225, 226, 227, 228, 229, 573, 574, 575, 576, 577, 578, 579, 580, 581, 582, 583, 93, 96, 94, 584, 585, 586, 587, 588, 589, 590, 591, 98, 592, 593, 594, 595, 596, 597, 598, 599, 600, 601, 602, 603, 604, 605, 100, 99, 606, 607, 608, 609, 336, 337, 610, 611, 612, 613, 95, 614, 615, 616, 617, 878, 879, 880, 881, 882, 883, 884, 885, 939, 940, 941, 942, 943, 944, 945, 946, 966, 967, 968, 969, 970, 971, 972, 973, 974, 975, 976, 947, 948, 949, 950, 951] (by decide +kernel) (by decide +kernel)
set_option maxRecDepth 20000 in
theorem gL_law_X6_deduce : GoodIn wsL_law (wsV RL 80 RX6 yX6_deduce wsX6_deduce) := goodIn_app (goodIn_of _ (by decide +kernel)) ggL_law_X6_deduce
set_option maxRecDepth 20000 in
theorem ggL_law_X7_deduce : GoodIn wsL_law wsX7_deduce := goodIn_r _ [621, 168, 248, 251, 159, 144, 622, 623, 624, 5, 625, 246, 143, 134, 319, 320, 321, 349, 350, 351, 352, 250, 133, 322, 323, 324, 325, 128, 626, 627, 628, 629, 146, 147, 630, 631, 632, 633, 634, 635, 636, 637, 638, 148, 639, 640, 641, 642, 643, 644, 645, 646, 647, 648, 649, 346, 347, 348, 650, 651, 652, 653, 654, 655, 656, 657, 658, 659, 660, 661, 662, 663, 145, 664, 665, 666, 667, 668, 669, 670, 326, 327, 328, 329, 249, 132, 886, 887, 888, 889, 890, 891, 892, 893, 894, 895, 896, 897, 898, 899, 900, 901, 902, 903, 904, 905, 906, 907, 908, 909, 910, 911, 912, 913, 914, 915, 916, 917, 918, 919, 920, 921, 922, 923, 924, 925, 926, 927, 928, 929, 930, 931, 932, 933, 934, 935, 936, 937, 938] (by decide +kernel) (by decide +kernel)
set_option maxRecDepth 20000 in
theorem gL_law_X7_deduce : GoodIn wsL_law (wsV RL 83 RX7 yX7_deduce wsX7_deduce) := goodIn_app (goodIn_of _ (by decide +kernel)) ggL_law_X7_deduce
set_option maxRecDepth 20000 in
theorem ggL_law_X6_row : GoodIn wsL_law wsX6_row := goodIn_r _ [674, 32, 675, 676, 677, 31, 678, 91, 679, 680, 681, 682, 93, 95, 96, 94, 878, 879, 880, 881, 882, 883, 884, 885, 966, 967, 968, 969, 970, 971, 972, 973, 974, 975, 976] (by decide +kernel) (by decide +kernel)
set_option maxRecDepth 20000 in
theorem gL_law_X6_row : GoodIn wsL_law (wsV RL 84 RX6 yX6_row wsX6_row) := goodIn_app (goodIn_of _ (by decide +kernel)) ggL_law_X6_row
set_option maxRecDepth 20000 in
theorem ggL_law_X7_row : GoodIn wsL_law wsX7_row := goodIn_r _ [686, 168, 251, 144, 145, 147, 146, 170, 171, 5, 172, 886, 887, 888, 889, 890, 891, 892, 893, 894, 895, 896, 897, 898, 899, 900, 901, 902, 903, 904, 905, 906, 907, 908, 909, 910, 911, 912, 913, 914, 915, 916, 917, 918, 919, 920, 921, 922, 923, 924, 925, 926, 927, 928, 929, 930, 931, 932, 933, 934, 935, 936, 937, 938] (by decide +kernel) (by decide +kernel)
set_option maxRecDepth 20000 in
theorem gL_law_X7_row : GoodIn wsL_law (wsV RL 87 RX7 yX7_row wsX7_row) := goodIn_app (goodIn_of _ (by decide +kernel)) ggL_law_X7_row
set_option maxRecDepth 20000 in
theorem ggL_law_X6_plant : GoodIn wsL_law wsX6_plant := goodIn_r _ [690, 32, 691, 692, 675, 676, 677, 31, 678, 91, 878, 879, 880, 881, 882, 883, 884, 885, 966, 967, 968, 969, 970, 971, 972, 973, 974, 975, 976] (by decide +kernel) (by decide +kernel)
set_option maxRecDepth 20000 in
theorem gL_law_X6_plant : GoodIn wsL_law (wsV RL 88 RX6 yX6_plant wsX6_plant) := goodIn_app (goodIn_of _ (by decide +kernel)) ggL_law_X6_plant
set_option maxRecDepth 20000 in
theorem ggL_law_X7_plant : GoodIn wsL_law wsX7_plant := goodIn_r _ [696, 168, 251, 144, 147, 170, 171, 5, 172, 886, 887, 888, 889, 890, 891, 892, 893, 894, 895, 896, 897, 898, 899, 900, 901, 902, 903, 904, 905, 906, 907, 908, 909, 910, 911, 912, 913, 914, 915, 916, 917, 918, 919, 920, 921, 922, 923, 924, 925, 926, 927, 928, 929, 930, 931, 932, 933, 934, 935, 936, 937, 938] (by decide +kernel) (by decide +kernel)
set_option maxRecDepth 20000 in
theorem gL_law_X7_plant : GoodIn wsL_law (wsV RL 91 RX7 yX7_plant wsX7_plant) := goodIn_app (goodIn_of _ (by decide +kernel)) ggL_law_X7_plant
set_option maxRecDepth 20000 in
theorem ggL_law_X6_proof : GoodIn wsL_law wsX6_proof := goodIn_r _ [700, 32, 701, 702, 703, 31, 704, 91, 93, 565, 566, 567, 568, 97, 101, 569, 570, 571, 116, 117, 118, 572, 221, 23, 222, 223, 224, 225, 226, 227, 228, 229, 573, 574, 575, 576, 577, 578, 579, 580, 581, 582, 583, 96, 94, 705, 706, 707, 708, 95, 98, 614, 615, 616, 617, 592, 593, 594, 595, 596, 597, 598, 599, 600, 601, 602, 603, 604, 605, 100, 99, 606, 607, 608, 609, 336, 337, 709, 710, 711, 712, 878, 879, 880, 881, 882, 883, 884, 885, 966, 967, 968, 969, 970, 971, 972, 973, 974, 975, 976, 947, 948, 949, 950, 951] (by decide +kernel) (by decide +kernel)
set_option maxRecDepth 20000 in
theorem gL_law_X6_proof : GoodIn wsL_law (wsV RL 92 RX6 yX6_proof wsX6_proof) := goodIn_app (goodIn_of _ (by decide +kernel)) ggL_law_X6_proof
set_option maxRecDepth 20000 in
theorem ggL_law_X7_proof : GoodIn wsL_law wsX7_proof := goodIn_r _ [716, 168, 251, 145, 634, 144, 658, 146, 659, 147, 622, 623, 624, 5, 625, 246, 143, 134, 319, 320, 321, 349, 350, 351, 352, 250, 133, 322, 323, 324, 325, 248, 128, 626, 627, 628, 629, 635, 636, 637, 638, 148, 639, 640, 641, 642, 643, 644, 645, 646, 647, 648, 649, 346, 347, 348, 650, 651, 652, 653, 654, 655, 656, 657, 664, 665, 666, 667, 668, 669, 670, 326, 327, 328, 329, 249, 132, 886, 887, 888, 889, 890, 891, 892, 893, 894, 895, 896, 897, 898, 899, 900, 901, 902, 903, 904, 905, 906, 907, 908, 909, 910, 911, 912, 913, 914, 915, 916, 917, 918, 919, 920, 921, 922, 923, 924, 925, 926, 927, 928, 929, 930, 931, 932, 933, 934, 935, 936, 937, 938] (by decide +kernel) (by decide +kernel)
set_option maxRecDepth 20000 in
theorem gL_law_X7_proof : GoodIn wsL_law (wsV RL 95 RX7 yX7_proof wsX7_proof) := goodIn_app (goodIn_of _ (by decide +kernel)) ggL_law_X7_proof
set_option maxRecDepth 20000 in
theorem ggL_law_X6_known : GoodIn wsL_law wsX6_known := goodIn_r _ [720, 19, 32, 271, 298, 299, 300, 18, 301, 302, 303, 304, 305, 40, 721, 566, 567, 31, 568, 97, 101, 569, 570, 571, 116, 117, 118, 572, 221, 23, 222, 223, 224, 225, 226, 227, 228, 229, 573, 574, 575, 576, 577, 578, 579, 580, 581, 582, 583, 93, 96, 94, 722, 723, 724, 725, 878, 879, 880, 881, 882, 883, 884, 885, 966, 967, 968, 969, 970, 971, 972, 973, 974, 975, 976, 939, 940, 941, 942, 943, 944, 945, 946, 947, 948, 949, 950, 951] (by decide +kernel) (by decide +kernel)
set_option maxRecDepth 20000 in
theorem gL_law_X6_known : GoodIn wsL_law (wsV RL 96 RX6 yX6_known wsX6_known) := goodIn_app (goodIn_of _ (by decide +kernel)) ggL_law_X6_known
set_option maxRecDepth 20000 in
theorem ggL_law_X7_known : GoodIn wsL_law wsX7_known := goodIn_r _ [729, 168, 251, 315, 316, 317, 5, 318, 246, 170, 171, 172, 622, 623, 624, 625, 143, 134, 319, 320, 321, 349, 350, 351, 352, 250, 133, 322, 323, 324, 325, 248, 128, 626, 627, 628, 629, 144, 146, 147, 643, 644, 645, 646, 647, 648, 649, 346, 347, 348, 886, 887, 888, 889, 890, 891, 892, 893, 894, 895, 896, 897, 898, 899, 900, 901, 902, 903, 904, 905, 906, 907, 908, 909, 910, 911, 912, 913, 914, 915, 916, 917, 918, 919, 920, 921, 922, 923, 924, 925, 926, 927, 928, 929, 930, 931, 932, 933, 934, 935, 936, 937, 938] (by decide +kernel) (by decide +kernel)
set_option maxRecDepth 20000 in
theorem gL_law_X7_known : GoodIn wsL_law (wsV RL 99 RX7 yX7_known wsX7_known) := goodIn_app (goodIn_of _ (by decide +kernel)) ggL_law_X7_known
set_option maxRecDepth 20000 in
theorem ggL_law_X6_certificate : GoodIn wsL_law wsX6_certificate := goodIn_r _ [733, 32, 271, 734, 735, 736, 31, 737, 91, 596, 565, 566, 567, 568, 97, 101, 569, 570, 571, 116, 117, 118, 572, 221, 23, 222, 223, 224, 225, 226, 227, 228, 229, 573, 574, 575, 576, 577, 578, 579, 580, 581, 582, 583, 93, 96, 94, 705, 706, 707, 708, 95, 98, 614, 615, 616, 617, 597, 598, 599, 600, 601, 878, 879, 880, 881, 882, 883, 884, 885, 966, 967, 968, 969, 970, 971, 972, 973, 974, 975, 976, 947, 948, 949, 950, 951] (by decide +kernel) (by decide +kernel)
set_option maxRecDepth 20000 in
theorem gL_law_X6_certificate : GoodIn wsL_law (wsV RL 100 RX6 yX6_certificate wsX6_certificate) := goodIn_app (goodIn_of _ (by decide +kernel)) ggL_law_X6_certificate
set_option maxRecDepth 20000 in
theorem ggL_law_X7_certificate : GoodIn wsL_law wsX7_certificate := goodIn_r _ [741, 168, 251, 145, 148, 170, 171, 5, 172, 622, 623, 624, 625, 246, 143, 134, 319, 320, 321, 349, 350, 351, 352, 250, 133, 322, 323, 324, 325, 248, 128, 626, 627, 628, 629, 144, 146, 147, 639, 640, 641, 642, 643, 644, 645, 646, 647, 648, 649, 346, 347, 348, 650, 651, 652, 653, 886, 887, 888, 889, 890, 891, 892, 893, 894, 895, 896, 897, 898, 899, 900, 901, 902, 903, 904, 905, 906, 907, 908, 909, 910, 911, 912, 913, 914, 915, 916, 917, 918, 919, 920, 921, 922, 923, 924, 925, 926, 927, 928, 929, 930, 931, 932, 933, 934, 935, 936, 937, 938] (by decide +kernel) (by decide +kernel)
set_option maxRecDepth 20000 in
theorem gL_law_X7_certificate : GoodIn wsL_law (wsV RL 103 RX7 yX7_certificate wsX7_certificate) := goodIn_app (goodIn_of _ (by decide +kernel)) ggL_law_X7_certificate
set_option maxRecDepth 20000 in
theorem ggL_law_X6_kinds : GoodIn wsL_law wsX6_kinds := goodIn_r _ [745, 36, 746, 747, 748, 35, 749, 114, 750, 751, 752, 753, 113, 754, 755, 756, 757, 110, 758, 759, 760, 761, 111, 762, 763, 764, 765, 766, 767, 768, 769, 770, 771, 772, 773, 774, 775, 429, 204, 430, 776, 777, 778, 779, 780, 781, 782, 783, 784, 203, 205, 206, 207, 208, 785, 786, 787, 788, 878, 879, 880, 881, 882, 883, 884, 885, 977, 978, 979, 980, 981, 982, 983, 984, 985] (by decide +kernel) (by decide +kernel)
set_option maxRecDepth 20000 in
theorem gL_law_X6_kinds : GoodIn wsL_law (wsV RL 104 RX6 yX6_kinds wsX6_kinds) := goodIn_app (goodIn_of _ (by decide +kernel)) ggL_law_X6_kinds
set_option maxRecDepth 20000 in
theorem ggL_law_X7_kinds : GoodIn wsL_law wsX7_kinds := goodIn_r _ [792, 168, 156, 793, 158, 253, 170, 171, 5, 172, 794, 795, 796, 797, 157, 319, 320, 321, 798, 799, 800, 801, 802, 803, 804, 805, 806, 807, 808, 152, 154, 809, 810, 811, 812, 813, 814, 815, 816, 817, 818, 819, 151, 149, 820, 821, 822, 823, 824, 825, 826, 827, 828, 829, 830, 831, 886, 887, 888, 889, 890, 891, 892, 893, 894, 895, 896, 897, 898, 899, 900, 901, 902, 903, 904, 905, 906, 907, 908, 909, 910, 911, 912, 913, 914, 915, 916, 917, 918, 919, 920, 921, 922, 923, 924, 925, 926, 927, 928, 929, 930, 931, 932, 933, 934, 935, 936, 937, 938] (by decide +kernel) (by decide +kernel)
set_option maxRecDepth 20000 in
theorem gL_law_X7_kinds : GoodIn wsL_law (wsV RL 107 RX7 yX7_kinds wsX7_kinds) := goodIn_app (goodIn_of _ (by decide +kernel)) ggL_law_X7_kinds
set_option maxRecDepth 20000 in
theorem ggL_law_X6_canonical : GoodIn wsL_law wsX6_canonical := goodIn_r _ [835, 19, 268, 36, 836, 837, 838, 839, 2, 840, 267, 841, 842, 843, 35, 844, 108, 845, 107, 846, 109, 847, 615, 616, 617, 106, 848, 110, 115, 116, 117, 118, 769, 770, 771, 758, 759, 760, 761, 111, 762, 763, 764, 765, 766, 767, 768, 772, 773, 774, 775, 429, 204, 430, 849, 850, 851, 852, 112, 776, 777, 778, 779, 780, 781, 782, 783, 878, 879, 880, 881, 882, 883, 884, 885, 939, 940, 941, 942, 943, 944, 945, 946, 977, 978, 979, 980, 981, 982, 983, 984, 985] (by decide +kernel) (by decide +kernel)
set_option maxRecDepth 20000 in
theorem gL_law_X6_canonical : GoodIn wsL_law (wsV RL 108 RX6 yX6_canonical wsX6_canonical) := goodIn_app (goodIn_of _ (by decide +kernel)) ggL_law_X6_canonical
set_option maxRecDepth 20000 in
theorem ggL_law_X7_canonical : GoodIn wsL_law wsX7_canonical := goodIn_r _ [856, 168, 248, 153, 857, 858, 859, 5, 860, 246, 253, 861, 862, 863, 864, 155, 152, 128, 154, 809, 810, 811, 812, 813, 814, 815, 816, 817, 818, 819, 151, 149, 820, 821, 822, 823, 824, 825, 826, 827, 865, 866, 867, 868, 150, 170, 171, 172, 886, 887, 888, 889, 890, 891, 892, 893, 894, 895, 896, 897, 898, 899, 900, 901, 902, 903, 904, 905, 906, 907, 908, 909, 910, 911, 912, 913, 914, 915, 916, 917, 918, 919, 920, 921, 922, 923, 924, 925, 926, 927, 928, 929, 930, 931, 932, 933, 934, 935, 936, 937, 938] (by decide +kernel) (by decide +kernel)
set_option maxRecDepth 20000 in
theorem gL_law_X7_canonical : GoodIn wsL_law (wsV RL 111 RX7 yX7_canonical wsX7_canonical) := goodIn_app (goodIn_of _ (by decide +kernel)) ggL_law_X7_canonical
set_option maxRecDepth 20000 in
theorem ggL_law_X6_orbit : GoodIn wsL_law wsX6_orbit := goodIn_r _ [872, 36, 19, 873, 837, 838, 839, 2, 840, 268, 267, 841, 842, 843, 35, 844, 108, 845, 107, 846, 109, 847, 615, 616, 617, 106, 848, 110, 115, 116, 117, 118, 769, 770, 771, 758, 759, 760, 761, 111, 762, 763, 764, 765, 766, 767, 768, 772, 773, 774, 775, 429, 204, 430, 849, 850, 851, 852, 112, 776, 777, 778, 779, 780, 781, 782, 783, 878, 879, 880, 881, 882, 883, 884, 885, 977, 978, 979, 980, 981, 982, 983, 984, 985, 939, 940, 941, 942, 943, 944, 945, 946] (by decide +kernel) (by decide +kernel)
set_option maxRecDepth 20000 in
theorem gL_law_X6_orbit : GoodIn wsL_law (wsV RL 112 RX6 yX6_orbit wsX6_orbit) := goodIn_app (goodIn_of _ (by decide +kernel)) ggL_law_X6_orbit
set_option maxRecDepth 20000 in
theorem ggL_law_X7_orbit : GoodIn wsL_law wsX7_orbit := goodIn_r _ [877, 168, 155, 857, 858, 859, 5, 860, 248, 246, 253, 861, 862, 863, 864, 152, 128, 154, 153, 809, 810, 811, 812, 813, 814, 815, 816, 817, 818, 819, 151, 149, 820, 821, 822, 823, 824, 825, 826, 827, 865, 866, 867, 868, 150, 886, 887, 888, 889, 890, 891, 892, 893, 894, 895, 896, 897, 898, 899, 900, 901, 902, 903, 904, 905, 906, 907, 908, 909, 910, 911, 912, 913, 914, 915, 916, 917, 918, 919, 920, 921, 922, 923, 924, 925, 926, 927, 928, 929, 930, 931, 932, 933, 934, 935, 936, 937, 938] (by decide +kernel) (by decide +kernel)
set_option maxRecDepth 20000 in
theorem gL_law_X7_orbit : GoodIn wsL_law (wsV RL 115 RX7 yX7_orbit wsX7_orbit) := goodIn_app (goodIn_of _ (by decide +kernel)) ggL_law_X7_orbit
theorem dL_law_0 : decode cL_law 0 = .ok (.new 8, 3) := by decide +kernel
theorem dL_law_3 : decode cL_law 3 = .ok (.dup, 1) := by decide +kernel
theorem dL_law_4 : decode cL_law 4 = .ok (.invokespecial 19, 3) := by decide +kernel
theorem dL_law_7 : decode cL_law 7 = .ok (.astore_n 1, 1) := by decide +kernel
theorem dL_law_8 : decode cL_law 8 = .ok (.new 20, 3) := by decide +kernel
theorem dL_law_11 : decode cL_law 11 = .ok (.dup, 1) := by decide +kernel
theorem dL_law_12 : decode cL_law 12 = .ok (.invokespecial 22, 3) := by decide +kernel
theorem dL_law_15 : decode cL_law 15 = .ok (.astore_n 2, 1) := by decide +kernel
theorem dL_law_16 : decode cL_law 16 = .ok (.iconst 1, 1) := by decide +kernel
theorem dL_law_17 : decode cL_law 17 = .ok (.newarray .long, 2) := by decide +kernel
theorem dL_law_19 : decode cL_law 19 = .ok (.astore_n 3, 1) := by decide +kernel
theorem dL_law_20 : decode cL_law 20 = .ok (.iconst 0, 1) := by decide +kernel
theorem dL_law_21 : decode cL_law 21 = .ok (.istore 4, 2) := by decide +kernel
theorem dL_law_23 : decode cL_law 23 = .ok (.iload 4, 2) := by decide +kernel
theorem dL_law_25 : decode cL_law 25 = .ok (.aload_n 0, 1) := by decide +kernel
theorem dL_law_26 : decode cL_law 26 = .ok (.arraylength, 1) := by decide +kernel
theorem dL_law_27 : decode cL_law 27 = .ok (.iconst 5, 1) := by decide +kernel
theorem dL_law_28 : decode cL_law 28 = .ok (.isub, 1) := by decide +kernel
theorem dL_law_29 : decode cL_law 29 = .ok (.if_icmp .gt 896, 3) := by decide +kernel
theorem dL_law_32 : decode cL_law 32 = .ok (.aload_n 0, 1) := by decide +kernel
theorem dL_law_33 : decode cL_law 33 = .ok (.iload 4, 2) := by decide +kernel
theorem dL_law_35 : decode cL_law 35 = .ok (.iaload, 1) := by decide +kernel
theorem dL_law_36 : decode cL_law 36 = .ok (.bipush 31, 2) := by decide +kernel
theorem dL_law_38 : decode cL_law 38 = .ok (.iand, 1) := by decide +kernel
theorem dL_law_39 : decode cL_law 39 = .ok (.tableswitch 880 0 20 #[97, 122, 135, 160, 225, 274, 335, 372, 409, 422, 490, 527, 607, 620, 657, 694, 707, 756, 793, 830, 855], 97) := by decide +kernel
theorem dL_law_136 : decode cL_law 136 = .ok (.aload_n 1, 1) := by decide +kernel
theorem dL_law_137 : decode cL_law 137 = .ok (.aload_n 0, 1) := by decide +kernel
theorem dL_law_138 : decode cL_law 138 = .ok (.iload 4, 2) := by decide +kernel
theorem dL_law_140 : decode cL_law 140 = .ok (.iconst 1, 1) := by decide +kernel
theorem dL_law_141 : decode cL_law 141 = .ok (.iadd, 1) := by decide +kernel
theorem dL_law_142 : decode cL_law 142 = .ok (.iaload, 1) := by decide +kernel
theorem dL_law_143 : decode cL_law 143 = .ok (.invokevirtual 23, 3) := by decide +kernel
theorem dL_law_146 : decode cL_law 146 = .ok (.aload_n 2, 1) := by decide +kernel
theorem dL_law_147 : decode cL_law 147 = .ok (.aload_n 0, 1) := by decide +kernel
theorem dL_law_148 : decode cL_law 148 = .ok (.iload 4, 2) := by decide +kernel
theorem dL_law_150 : decode cL_law 150 = .ok (.iconst 1, 1) := by decide +kernel
theorem dL_law_151 : decode cL_law 151 = .ok (.iadd, 1) := by decide +kernel
theorem dL_law_152 : decode cL_law 152 = .ok (.iaload, 1) := by decide +kernel
theorem dL_law_153 : decode cL_law 153 = .ok (.invokevirtual 27, 3) := by decide +kernel
theorem dL_law_156 : decode cL_law 156 = .ok (.if_icmp .eq 763, 3) := by decide +kernel
theorem dL_law_159 : decode cL_law 159 = .ok (.iconst 0, 1) := by decide +kernel
theorem dL_law_160 : decode cL_law 160 = .ok (.ireturn, 1) := by decide +kernel
theorem dL_law_161 : decode cL_law 161 = .ok (.aload_n 1, 1) := by decide +kernel
theorem dL_law_162 : decode cL_law 162 = .ok (.invokevirtual 28, 3) := by decide +kernel
theorem dL_law_165 : decode cL_law 165 = .ok (.aload_n 2, 1) := by decide +kernel
theorem dL_law_166 : decode cL_law 166 = .ok (.invokevirtual 32, 3) := by decide +kernel
theorem dL_law_169 : decode cL_law 169 = .ok (.if_icmp .eq 750, 3) := by decide +kernel
theorem dL_law_172 : decode cL_law 172 = .ok (.iconst 0, 1) := by decide +kernel
theorem dL_law_173 : decode cL_law 173 = .ok (.ireturn, 1) := by decide +kernel
theorem dL_law_174 : decode cL_law 174 = .ok (.aload_n 1, 1) := by decide +kernel
theorem dL_law_175 : decode cL_law 175 = .ok (.aload_n 0, 1) := by decide +kernel
theorem dL_law_176 : decode cL_law 176 = .ok (.iload 4, 2) := by decide +kernel
theorem dL_law_178 : decode cL_law 178 = .ok (.iconst 1, 1) := by decide +kernel
theorem dL_law_179 : decode cL_law 179 = .ok (.iadd, 1) := by decide +kernel
theorem dL_law_180 : decode cL_law 180 = .ok (.iaload, 1) := by decide +kernel
theorem dL_law_181 : decode cL_law 181 = .ok (.invokevirtual 33, 3) := by decide +kernel
theorem dL_law_184 : decode cL_law 184 = .ok (.aload_n 2, 1) := by decide +kernel
theorem dL_law_185 : decode cL_law 185 = .ok (.aload_n 0, 1) := by decide +kernel
theorem dL_law_186 : decode cL_law 186 = .ok (.iload 4, 2) := by decide +kernel
theorem dL_law_188 : decode cL_law 188 = .ok (.iconst 1, 1) := by decide +kernel
theorem dL_law_189 : decode cL_law 189 = .ok (.iadd, 1) := by decide +kernel
theorem dL_law_190 : decode cL_law 190 = .ok (.iaload, 1) := by decide +kernel
theorem dL_law_191 : decode cL_law 191 = .ok (.invokevirtual 36, 3) := by decide +kernel
theorem dL_law_194 : decode cL_law 194 = .ok (.if_icmp .eq 725, 3) := by decide +kernel
theorem dL_law_197 : decode cL_law 197 = .ok (.iconst 0, 1) := by decide +kernel
theorem dL_law_198 : decode cL_law 198 = .ok (.ireturn, 1) := by decide +kernel
theorem dL_law_199 : decode cL_law 199 = .ok (.aload_n 1, 1) := by decide +kernel
theorem dL_law_200 : decode cL_law 200 = .ok (.aload_n 0, 1) := by decide +kernel
theorem dL_law_201 : decode cL_law 201 = .ok (.iload 4, 2) := by decide +kernel
theorem dL_law_203 : decode cL_law 203 = .ok (.iconst 1, 1) := by decide +kernel
theorem dL_law_204 : decode cL_law 204 = .ok (.iadd, 1) := by decide +kernel
theorem dL_law_205 : decode cL_law 205 = .ok (.iaload, 1) := by decide +kernel
theorem dL_law_206 : decode cL_law 206 = .ok (.aload_n 0, 1) := by decide +kernel
theorem dL_law_207 : decode cL_law 207 = .ok (.iload 4, 2) := by decide +kernel
theorem dL_law_209 : decode cL_law 209 = .ok (.iconst 2, 1) := by decide +kernel
theorem dL_law_210 : decode cL_law 210 = .ok (.iadd, 1) := by decide +kernel
theorem dL_law_211 : decode cL_law 211 = .ok (.iaload, 1) := by decide +kernel
theorem dL_law_212 : decode cL_law 212 = .ok (.aload_n 0, 1) := by decide +kernel
theorem dL_law_213 : decode cL_law 213 = .ok (.iload 4, 2) := by decide +kernel
theorem dL_law_215 : decode cL_law 215 = .ok (.iconst 3, 1) := by decide +kernel
theorem dL_law_216 : decode cL_law 216 = .ok (.iadd, 1) := by decide +kernel
theorem dL_law_217 : decode cL_law 217 = .ok (.iaload, 1) := by decide +kernel
theorem dL_law_218 : decode cL_law 218 = .ok (.ifCond .eq 7, 3) := by decide +kernel
theorem dL_law_221 : decode cL_law 221 = .ok (.iconst 1, 1) := by decide +kernel
theorem dL_law_222 : decode cL_law 222 = .ok (.goto 4, 3) := by decide +kernel
theorem dL_law_225 : decode cL_law 225 = .ok (.iconst 0, 1) := by decide +kernel
theorem dL_law_226 : decode cL_law 226 = .ok (.invokevirtual 37, 3) := by decide +kernel
theorem dL_law_229 : decode cL_law 229 = .ok (.aload_n 2, 1) := by decide +kernel
theorem dL_law_230 : decode cL_law 230 = .ok (.aload_n 0, 1) := by decide +kernel
theorem dL_law_231 : decode cL_law 231 = .ok (.iload 4, 2) := by decide +kernel
theorem dL_law_233 : decode cL_law 233 = .ok (.iconst 1, 1) := by decide +kernel
theorem dL_law_234 : decode cL_law 234 = .ok (.iadd, 1) := by decide +kernel
theorem dL_law_235 : decode cL_law 235 = .ok (.iaload, 1) := by decide +kernel
theorem dL_law_236 : decode cL_law 236 = .ok (.aload_n 0, 1) := by decide +kernel
theorem dL_law_237 : decode cL_law 237 = .ok (.iload 4, 2) := by decide +kernel
theorem dL_law_239 : decode cL_law 239 = .ok (.iconst 2, 1) := by decide +kernel
theorem dL_law_240 : decode cL_law 240 = .ok (.iadd, 1) := by decide +kernel
theorem dL_law_241 : decode cL_law 241 = .ok (.iaload, 1) := by decide +kernel
theorem dL_law_242 : decode cL_law 242 = .ok (.aload_n 0, 1) := by decide +kernel
theorem dL_law_243 : decode cL_law 243 = .ok (.iload 4, 2) := by decide +kernel
theorem dL_law_245 : decode cL_law 245 = .ok (.iconst 3, 1) := by decide +kernel
theorem dL_law_246 : decode cL_law 246 = .ok (.iadd, 1) := by decide +kernel
theorem dL_law_247 : decode cL_law 247 = .ok (.iaload, 1) := by decide +kernel
theorem dL_law_248 : decode cL_law 248 = .ok (.ifCond .eq 7, 3) := by decide +kernel
theorem dL_law_251 : decode cL_law 251 = .ok (.iconst 1, 1) := by decide +kernel
theorem dL_law_252 : decode cL_law 252 = .ok (.goto 4, 3) := by decide +kernel
theorem dL_law_255 : decode cL_law 255 = .ok (.iconst 0, 1) := by decide +kernel
theorem dL_law_256 : decode cL_law 256 = .ok (.invokevirtual 41, 3) := by decide +kernel
theorem dL_law_259 : decode cL_law 259 = .ok (.if_icmp .eq 660, 3) := by decide +kernel
theorem dL_law_262 : decode cL_law 262 = .ok (.iconst 0, 1) := by decide +kernel
theorem dL_law_263 : decode cL_law 263 = .ok (.ireturn, 1) := by decide +kernel
theorem dL_law_264 : decode cL_law 264 = .ok (.aload_n 1, 1) := by decide +kernel
theorem dL_law_265 : decode cL_law 265 = .ok (.aload_n 0, 1) := by decide +kernel
theorem dL_law_266 : decode cL_law 266 = .ok (.iload 4, 2) := by decide +kernel
theorem dL_law_268 : decode cL_law 268 = .ok (.iconst 1, 1) := by decide +kernel
theorem dL_law_269 : decode cL_law 269 = .ok (.iadd, 1) := by decide +kernel
theorem dL_law_270 : decode cL_law 270 = .ok (.iaload, 1) := by decide +kernel
theorem dL_law_271 : decode cL_law 271 = .ok (.aload_n 0, 1) := by decide +kernel
theorem dL_law_272 : decode cL_law 272 = .ok (.iload 4, 2) := by decide +kernel
theorem dL_law_274 : decode cL_law 274 = .ok (.iconst 2, 1) := by decide +kernel
theorem dL_law_275 : decode cL_law 275 = .ok (.iadd, 1) := by decide +kernel
theorem dL_law_276 : decode cL_law 276 = .ok (.iaload, 1) := by decide +kernel
theorem dL_law_277 : decode cL_law 277 = .ok (.aload_n 0, 1) := by decide +kernel
theorem dL_law_278 : decode cL_law 278 = .ok (.iload 4, 2) := by decide +kernel
theorem dL_law_280 : decode cL_law 280 = .ok (.iconst 3, 1) := by decide +kernel
theorem dL_law_281 : decode cL_law 281 = .ok (.iadd, 1) := by decide +kernel
theorem dL_law_282 : decode cL_law 282 = .ok (.iaload, 1) := by decide +kernel
theorem dL_law_283 : decode cL_law 283 = .ok (.invokevirtual 42, 3) := by decide +kernel
theorem dL_law_286 : decode cL_law 286 = .ok (.aload_n 2, 1) := by decide +kernel
theorem dL_law_287 : decode cL_law 287 = .ok (.aload_n 0, 1) := by decide +kernel
theorem dL_law_288 : decode cL_law 288 = .ok (.iload 4, 2) := by decide +kernel
theorem dL_law_290 : decode cL_law 290 = .ok (.iconst 1, 1) := by decide +kernel
theorem dL_law_291 : decode cL_law 291 = .ok (.iadd, 1) := by decide +kernel
theorem dL_law_292 : decode cL_law 292 = .ok (.iaload, 1) := by decide +kernel
theorem dL_law_293 : decode cL_law 293 = .ok (.aload_n 0, 1) := by decide +kernel
theorem dL_law_294 : decode cL_law 294 = .ok (.iload 4, 2) := by decide +kernel
theorem dL_law_296 : decode cL_law 296 = .ok (.iconst 2, 1) := by decide +kernel
theorem dL_law_297 : decode cL_law 297 = .ok (.iadd, 1) := by decide +kernel
theorem dL_law_298 : decode cL_law 298 = .ok (.iaload, 1) := by decide +kernel
theorem dL_law_299 : decode cL_law 299 = .ok (.aload_n 0, 1) := by decide +kernel
theorem dL_law_300 : decode cL_law 300 = .ok (.iload 4, 2) := by decide +kernel
theorem dL_law_302 : decode cL_law 302 = .ok (.iconst 3, 1) := by decide +kernel
theorem dL_law_303 : decode cL_law 303 = .ok (.iadd, 1) := by decide +kernel
theorem dL_law_304 : decode cL_law 304 = .ok (.iaload, 1) := by decide +kernel
theorem dL_law_305 : decode cL_law 305 = .ok (.invokevirtual 45, 3) := by decide +kernel
theorem dL_law_308 : decode cL_law 308 = .ok (.if_icmp .eq 611, 3) := by decide +kernel
theorem dL_law_311 : decode cL_law 311 = .ok (.iconst 0, 1) := by decide +kernel
theorem dL_law_312 : decode cL_law 312 = .ok (.ireturn, 1) := by decide +kernel
theorem dL_law_313 : decode cL_law 313 = .ok (.aload_n 1, 1) := by decide +kernel
theorem dL_law_314 : decode cL_law 314 = .ok (.aload_n 0, 1) := by decide +kernel
theorem dL_law_315 : decode cL_law 315 = .ok (.iload 4, 2) := by decide +kernel
theorem dL_law_317 : decode cL_law 317 = .ok (.iconst 1, 1) := by decide +kernel
theorem dL_law_318 : decode cL_law 318 = .ok (.iadd, 1) := by decide +kernel
theorem dL_law_319 : decode cL_law 319 = .ok (.iaload, 1) := by decide +kernel
theorem dL_law_320 : decode cL_law 320 = .ok (.aload_n 0, 1) := by decide +kernel
theorem dL_law_321 : decode cL_law 321 = .ok (.iload 4, 2) := by decide +kernel
theorem dL_law_323 : decode cL_law 323 = .ok (.iconst 2, 1) := by decide +kernel
theorem dL_law_324 : decode cL_law 324 = .ok (.iadd, 1) := by decide +kernel
theorem dL_law_325 : decode cL_law 325 = .ok (.iaload, 1) := by decide +kernel
theorem dL_law_326 : decode cL_law 326 = .ok (.aload_n 0, 1) := by decide +kernel
theorem dL_law_327 : decode cL_law 327 = .ok (.iload 4, 2) := by decide +kernel
theorem dL_law_329 : decode cL_law 329 = .ok (.iconst 3, 1) := by decide +kernel
theorem dL_law_330 : decode cL_law 330 = .ok (.iadd, 1) := by decide +kernel
theorem dL_law_331 : decode cL_law 331 = .ok (.iaload, 1) := by decide +kernel
theorem dL_law_332 : decode cL_law 332 = .ok (.aload_n 0, 1) := by decide +kernel
theorem dL_law_333 : decode cL_law 333 = .ok (.iload 4, 2) := by decide +kernel
theorem dL_law_335 : decode cL_law 335 = .ok (.iconst 4, 1) := by decide +kernel
theorem dL_law_336 : decode cL_law 336 = .ok (.iadd, 1) := by decide +kernel
theorem dL_law_337 : decode cL_law 337 = .ok (.iaload, 1) := by decide +kernel
theorem dL_law_338 : decode cL_law 338 = .ok (.invokevirtual 46, 3) := by decide +kernel
theorem dL_law_341 : decode cL_law 341 = .ok (.aload_n 2, 1) := by decide +kernel
theorem dL_law_342 : decode cL_law 342 = .ok (.aload_n 0, 1) := by decide +kernel
theorem dL_law_343 : decode cL_law 343 = .ok (.iload 4, 2) := by decide +kernel
theorem dL_law_345 : decode cL_law 345 = .ok (.iconst 1, 1) := by decide +kernel
theorem dL_law_346 : decode cL_law 346 = .ok (.iadd, 1) := by decide +kernel
theorem dL_law_347 : decode cL_law 347 = .ok (.iaload, 1) := by decide +kernel
theorem dL_law_348 : decode cL_law 348 = .ok (.aload_n 0, 1) := by decide +kernel
theorem dL_law_349 : decode cL_law 349 = .ok (.iload 4, 2) := by decide +kernel
theorem dL_law_351 : decode cL_law 351 = .ok (.iconst 2, 1) := by decide +kernel
theorem dL_law_352 : decode cL_law 352 = .ok (.iadd, 1) := by decide +kernel
theorem dL_law_353 : decode cL_law 353 = .ok (.iaload, 1) := by decide +kernel
theorem dL_law_354 : decode cL_law 354 = .ok (.aload_n 0, 1) := by decide +kernel
theorem dL_law_355 : decode cL_law 355 = .ok (.iload 4, 2) := by decide +kernel
theorem dL_law_357 : decode cL_law 357 = .ok (.iconst 3, 1) := by decide +kernel
theorem dL_law_358 : decode cL_law 358 = .ok (.iadd, 1) := by decide +kernel
theorem dL_law_359 : decode cL_law 359 = .ok (.iaload, 1) := by decide +kernel
theorem dL_law_360 : decode cL_law 360 = .ok (.aload_n 0, 1) := by decide +kernel
theorem dL_law_361 : decode cL_law 361 = .ok (.iload 4, 2) := by decide +kernel
theorem dL_law_363 : decode cL_law 363 = .ok (.iconst 4, 1) := by decide +kernel
theorem dL_law_364 : decode cL_law 364 = .ok (.iadd, 1) := by decide +kernel
theorem dL_law_365 : decode cL_law 365 = .ok (.iaload, 1) := by decide +kernel
theorem dL_law_366 : decode cL_law 366 = .ok (.invokevirtual 50, 3) := by decide +kernel
theorem dL_law_369 : decode cL_law 369 = .ok (.if_icmp .eq 550, 3) := by decide +kernel
theorem dL_law_372 : decode cL_law 372 = .ok (.iconst 0, 1) := by decide +kernel
theorem dL_law_373 : decode cL_law 373 = .ok (.ireturn, 1) := by decide +kernel
theorem dL_law_374 : decode cL_law 374 = .ok (.aload_n 1, 1) := by decide +kernel
theorem dL_law_375 : decode cL_law 375 = .ok (.aload_n 0, 1) := by decide +kernel
theorem dL_law_376 : decode cL_law 376 = .ok (.iload 4, 2) := by decide +kernel
theorem dL_law_378 : decode cL_law 378 = .ok (.iconst 1, 1) := by decide +kernel
theorem dL_law_379 : decode cL_law 379 = .ok (.iadd, 1) := by decide +kernel
theorem dL_law_380 : decode cL_law 380 = .ok (.iaload, 1) := by decide +kernel
theorem dL_law_381 : decode cL_law 381 = .ok (.aload_n 0, 1) := by decide +kernel
theorem dL_law_382 : decode cL_law 382 = .ok (.iload 4, 2) := by decide +kernel
theorem dL_law_384 : decode cL_law 384 = .ok (.iconst 2, 1) := by decide +kernel
theorem dL_law_385 : decode cL_law 385 = .ok (.iadd, 1) := by decide +kernel
theorem dL_law_386 : decode cL_law 386 = .ok (.iaload, 1) := by decide +kernel
theorem dL_law_387 : decode cL_law 387 = .ok (.invokevirtual 51, 3) := by decide +kernel
theorem dL_law_390 : decode cL_law 390 = .ok (.aload_n 2, 1) := by decide +kernel
theorem dL_law_391 : decode cL_law 391 = .ok (.aload_n 0, 1) := by decide +kernel
theorem dL_law_392 : decode cL_law 392 = .ok (.iload 4, 2) := by decide +kernel
theorem dL_law_394 : decode cL_law 394 = .ok (.iconst 1, 1) := by decide +kernel
theorem dL_law_395 : decode cL_law 395 = .ok (.iadd, 1) := by decide +kernel
theorem dL_law_396 : decode cL_law 396 = .ok (.iaload, 1) := by decide +kernel
theorem dL_law_397 : decode cL_law 397 = .ok (.aload_n 0, 1) := by decide +kernel
theorem dL_law_398 : decode cL_law 398 = .ok (.iload 4, 2) := by decide +kernel
theorem dL_law_400 : decode cL_law 400 = .ok (.iconst 2, 1) := by decide +kernel
theorem dL_law_401 : decode cL_law 401 = .ok (.iadd, 1) := by decide +kernel
theorem dL_law_402 : decode cL_law 402 = .ok (.iaload, 1) := by decide +kernel
theorem dL_law_403 : decode cL_law 403 = .ok (.invokevirtual 54, 3) := by decide +kernel
theorem dL_law_406 : decode cL_law 406 = .ok (.if_icmp .eq 513, 3) := by decide +kernel
theorem dL_law_409 : decode cL_law 409 = .ok (.iconst 0, 1) := by decide +kernel
theorem dL_law_410 : decode cL_law 410 = .ok (.ireturn, 1) := by decide +kernel
theorem dL_law_411 : decode cL_law 411 = .ok (.aload_n 1, 1) := by decide +kernel
theorem dL_law_412 : decode cL_law 412 = .ok (.aload_n 0, 1) := by decide +kernel
theorem dL_law_413 : decode cL_law 413 = .ok (.iload 4, 2) := by decide +kernel
theorem dL_law_415 : decode cL_law 415 = .ok (.iconst 1, 1) := by decide +kernel
theorem dL_law_416 : decode cL_law 416 = .ok (.iadd, 1) := by decide +kernel
theorem dL_law_417 : decode cL_law 417 = .ok (.iaload, 1) := by decide +kernel
theorem dL_law_418 : decode cL_law 418 = .ok (.aload_n 0, 1) := by decide +kernel
theorem dL_law_419 : decode cL_law 419 = .ok (.iload 4, 2) := by decide +kernel
theorem dL_law_421 : decode cL_law 421 = .ok (.iconst 2, 1) := by decide +kernel
theorem dL_law_422 : decode cL_law 422 = .ok (.iadd, 1) := by decide +kernel
theorem dL_law_423 : decode cL_law 423 = .ok (.iaload, 1) := by decide +kernel
theorem dL_law_424 : decode cL_law 424 = .ok (.invokevirtual 55, 3) := by decide +kernel
theorem dL_law_427 : decode cL_law 427 = .ok (.aload_n 2, 1) := by decide +kernel
theorem dL_law_428 : decode cL_law 428 = .ok (.aload_n 0, 1) := by decide +kernel
theorem dL_law_429 : decode cL_law 429 = .ok (.iload 4, 2) := by decide +kernel
theorem dL_law_431 : decode cL_law 431 = .ok (.iconst 1, 1) := by decide +kernel
theorem dL_law_432 : decode cL_law 432 = .ok (.iadd, 1) := by decide +kernel
theorem dL_law_433 : decode cL_law 433 = .ok (.iaload, 1) := by decide +kernel
theorem dL_law_434 : decode cL_law 434 = .ok (.aload_n 0, 1) := by decide +kernel
theorem dL_law_435 : decode cL_law 435 = .ok (.iload 4, 2) := by decide +kernel
theorem dL_law_437 : decode cL_law 437 = .ok (.iconst 2, 1) := by decide +kernel
theorem dL_law_438 : decode cL_law 438 = .ok (.iadd, 1) := by decide +kernel
theorem dL_law_439 : decode cL_law 439 = .ok (.iaload, 1) := by decide +kernel
theorem dL_law_440 : decode cL_law 440 = .ok (.invokevirtual 58, 3) := by decide +kernel
theorem dL_law_443 : decode cL_law 443 = .ok (.if_icmp .eq 476, 3) := by decide +kernel
theorem dL_law_446 : decode cL_law 446 = .ok (.iconst 0, 1) := by decide +kernel
theorem dL_law_447 : decode cL_law 447 = .ok (.ireturn, 1) := by decide +kernel
theorem dL_law_448 : decode cL_law 448 = .ok (.aload_n 1, 1) := by decide +kernel
theorem dL_law_449 : decode cL_law 449 = .ok (.invokevirtual 59, 3) := by decide +kernel
theorem dL_law_452 : decode cL_law 452 = .ok (.aload_n 2, 1) := by decide +kernel
theorem dL_law_453 : decode cL_law 453 = .ok (.invokevirtual 62, 3) := by decide +kernel
theorem dL_law_456 : decode cL_law 456 = .ok (.if_icmp .eq 463, 3) := by decide +kernel
theorem dL_law_459 : decode cL_law 459 = .ok (.iconst 0, 1) := by decide +kernel
theorem dL_law_460 : decode cL_law 460 = .ok (.ireturn, 1) := by decide +kernel
theorem dL_law_461 : decode cL_law 461 = .ok (.aload_n 1, 1) := by decide +kernel
theorem dL_law_462 : decode cL_law 462 = .ok (.aload_n 0, 1) := by decide +kernel
theorem dL_law_463 : decode cL_law 463 = .ok (.iload 4, 2) := by decide +kernel
theorem dL_law_465 : decode cL_law 465 = .ok (.iconst 1, 1) := by decide +kernel
theorem dL_law_466 : decode cL_law 466 = .ok (.iadd, 1) := by decide +kernel
theorem dL_law_467 : decode cL_law 467 = .ok (.iaload, 1) := by decide +kernel
theorem dL_law_468 : decode cL_law 468 = .ok (.aload_n 0, 1) := by decide +kernel
theorem dL_law_469 : decode cL_law 469 = .ok (.iload 4, 2) := by decide +kernel
theorem dL_law_471 : decode cL_law 471 = .ok (.iconst 2, 1) := by decide +kernel
theorem dL_law_472 : decode cL_law 472 = .ok (.iadd, 1) := by decide +kernel
theorem dL_law_473 : decode cL_law 473 = .ok (.iaload, 1) := by decide +kernel
theorem dL_law_474 : decode cL_law 474 = .ok (.aload_n 3, 1) := by decide +kernel
theorem dL_law_475 : decode cL_law 475 = .ok (.invokestatic 63, 3) := by decide +kernel
theorem dL_law_478 : decode cL_law 478 = .ok (.istore 5, 2) := by decide +kernel
theorem dL_law_480 : decode cL_law 480 = .ok (.aload_n 2, 1) := by decide +kernel
theorem dL_law_481 : decode cL_law 481 = .ok (.aload_n 0, 1) := by decide +kernel
theorem dL_law_482 : decode cL_law 482 = .ok (.iload 4, 2) := by decide +kernel
theorem dL_law_484 : decode cL_law 484 = .ok (.iconst 1, 1) := by decide +kernel
theorem dL_law_485 : decode cL_law 485 = .ok (.iadd, 1) := by decide +kernel
theorem dL_law_486 : decode cL_law 486 = .ok (.iaload, 1) := by decide +kernel
theorem dL_law_487 : decode cL_law 487 = .ok (.aload_n 0, 1) := by decide +kernel
theorem dL_law_488 : decode cL_law 488 = .ok (.iload 4, 2) := by decide +kernel
theorem dL_law_490 : decode cL_law 490 = .ok (.iconst 2, 1) := by decide +kernel
theorem dL_law_491 : decode cL_law 491 = .ok (.iadd, 1) := by decide +kernel
theorem dL_law_492 : decode cL_law 492 = .ok (.iaload, 1) := by decide +kernel
theorem dL_law_493 : decode cL_law 493 = .ok (.invokevirtual 68, 3) := by decide +kernel
theorem dL_law_496 : decode cL_law 496 = .ok (.istore 6, 2) := by decide +kernel
theorem dL_law_498 : decode cL_law 498 = .ok (.aload_n 2, 1) := by decide +kernel
theorem dL_law_499 : decode cL_law 499 = .ok (.invokevirtual 69, 3) := by decide +kernel
theorem dL_law_502 : decode cL_law 502 = .ok (.iload 5, 2) := by decide +kernel
theorem dL_law_504 : decode cL_law 504 = .ok (.if_icmp .eq 5, 3) := by decide +kernel
theorem dL_law_507 : decode cL_law 507 = .ok (.iconst 0, 1) := by decide +kernel
theorem dL_law_508 : decode cL_law 508 = .ok (.ireturn, 1) := by decide +kernel
theorem dL_law_509 : decode cL_law 509 = .ok (.iload 5, 2) := by decide +kernel
theorem dL_law_511 : decode cL_law 511 = .ok (.ifCond .ne 15, 3) := by decide +kernel
theorem dL_law_514 : decode cL_law 514 = .ok (.aload_n 3, 1) := by decide +kernel
theorem dL_law_515 : decode cL_law 515 = .ok (.iconst 0, 1) := by decide +kernel
theorem dL_law_516 : decode cL_law 516 = .ok (.laload, 1) := by decide +kernel
theorem dL_law_517 : decode cL_law 517 = .ok (.iload 6, 2) := by decide +kernel
theorem dL_law_519 : decode cL_law 519 = .ok (.i2l, 1) := by decide +kernel
theorem dL_law_520 : decode cL_law 520 = .ok (.lcmp, 1) := by decide +kernel
theorem dL_law_521 : decode cL_law 521 = .ok (.ifCond .eq 5, 3) := by decide +kernel
theorem dL_law_524 : decode cL_law 524 = .ok (.iconst 0, 1) := by decide +kernel
theorem dL_law_525 : decode cL_law 525 = .ok (.ireturn, 1) := by decide +kernel
theorem dL_law_526 : decode cL_law 526 = .ok (.goto 393, 3) := by decide +kernel
theorem dL_law_529 : decode cL_law 529 = .ok (.aload_n 1, 1) := by decide +kernel
theorem dL_law_530 : decode cL_law 530 = .ok (.aload_n 0, 1) := by decide +kernel
theorem dL_law_531 : decode cL_law 531 = .ok (.iload 4, 2) := by decide +kernel
theorem dL_law_533 : decode cL_law 533 = .ok (.iconst 1, 1) := by decide +kernel
theorem dL_law_534 : decode cL_law 534 = .ok (.iadd, 1) := by decide +kernel
theorem dL_law_535 : decode cL_law 535 = .ok (.iaload, 1) := by decide +kernel
theorem dL_law_536 : decode cL_law 536 = .ok (.aload_n 0, 1) := by decide +kernel
theorem dL_law_537 : decode cL_law 537 = .ok (.iload 4, 2) := by decide +kernel
theorem dL_law_539 : decode cL_law 539 = .ok (.iconst 2, 1) := by decide +kernel
theorem dL_law_540 : decode cL_law 540 = .ok (.iadd, 1) := by decide +kernel
theorem dL_law_541 : decode cL_law 541 = .ok (.iaload, 1) := by decide +kernel
theorem dL_law_542 : decode cL_law 542 = .ok (.invokevirtual 72, 3) := by decide +kernel
theorem dL_law_545 : decode cL_law 545 = .ok (.aload_n 2, 1) := by decide +kernel
theorem dL_law_546 : decode cL_law 546 = .ok (.aload_n 0, 1) := by decide +kernel
theorem dL_law_547 : decode cL_law 547 = .ok (.iload 4, 2) := by decide +kernel
theorem dL_law_549 : decode cL_law 549 = .ok (.iconst 1, 1) := by decide +kernel
theorem dL_law_550 : decode cL_law 550 = .ok (.iadd, 1) := by decide +kernel
theorem dL_law_551 : decode cL_law 551 = .ok (.iaload, 1) := by decide +kernel
theorem dL_law_552 : decode cL_law 552 = .ok (.aload_n 0, 1) := by decide +kernel
theorem dL_law_553 : decode cL_law 553 = .ok (.iload 4, 2) := by decide +kernel
theorem dL_law_555 : decode cL_law 555 = .ok (.iconst 2, 1) := by decide +kernel
theorem dL_law_556 : decode cL_law 556 = .ok (.iadd, 1) := by decide +kernel
theorem dL_law_557 : decode cL_law 557 = .ok (.iaload, 1) := by decide +kernel
theorem dL_law_558 : decode cL_law 558 = .ok (.invokevirtual 75, 3) := by decide +kernel
theorem dL_law_561 : decode cL_law 561 = .ok (.if_icmp .eq 358, 3) := by decide +kernel
theorem dL_law_564 : decode cL_law 564 = .ok (.iconst 0, 1) := by decide +kernel
theorem dL_law_565 : decode cL_law 565 = .ok (.ireturn, 1) := by decide +kernel
theorem dL_law_566 : decode cL_law 566 = .ok (.aload_n 1, 1) := by decide +kernel
theorem dL_law_567 : decode cL_law 567 = .ok (.aload_n 0, 1) := by decide +kernel
theorem dL_law_568 : decode cL_law 568 = .ok (.iload 4, 2) := by decide +kernel
theorem dL_law_570 : decode cL_law 570 = .ok (.iconst 1, 1) := by decide +kernel
theorem dL_law_571 : decode cL_law 571 = .ok (.iadd, 1) := by decide +kernel
theorem dL_law_572 : decode cL_law 572 = .ok (.iaload, 1) := by decide +kernel
theorem dL_law_573 : decode cL_law 573 = .ok (.aload_n 0, 1) := by decide +kernel
theorem dL_law_574 : decode cL_law 574 = .ok (.iload 4, 2) := by decide +kernel
theorem dL_law_576 : decode cL_law 576 = .ok (.iconst 2, 1) := by decide +kernel
theorem dL_law_577 : decode cL_law 577 = .ok (.iadd, 1) := by decide +kernel
theorem dL_law_578 : decode cL_law 578 = .ok (.iaload, 1) := by decide +kernel
theorem dL_law_579 : decode cL_law 579 = .ok (.aload_n 0, 1) := by decide +kernel
theorem dL_law_580 : decode cL_law 580 = .ok (.iload 4, 2) := by decide +kernel
theorem dL_law_582 : decode cL_law 582 = .ok (.iconst 3, 1) := by decide +kernel
theorem dL_law_583 : decode cL_law 583 = .ok (.iadd, 1) := by decide +kernel
theorem dL_law_584 : decode cL_law 584 = .ok (.iaload, 1) := by decide +kernel
theorem dL_law_585 : decode cL_law 585 = .ok (.aload_n 3, 1) := by decide +kernel
theorem dL_law_586 : decode cL_law 586 = .ok (.invokestatic 76, 3) := by decide +kernel
theorem dL_law_589 : decode cL_law 589 = .ok (.istore 5, 2) := by decide +kernel
theorem dL_law_591 : decode cL_law 591 = .ok (.aload_n 2, 1) := by decide +kernel
theorem dL_law_592 : decode cL_law 592 = .ok (.aload_n 0, 1) := by decide +kernel
theorem dL_law_593 : decode cL_law 593 = .ok (.iload 4, 2) := by decide +kernel
theorem dL_law_595 : decode cL_law 595 = .ok (.iconst 1, 1) := by decide +kernel
theorem dL_law_596 : decode cL_law 596 = .ok (.iadd, 1) := by decide +kernel
theorem dL_law_597 : decode cL_law 597 = .ok (.iaload, 1) := by decide +kernel
theorem dL_law_598 : decode cL_law 598 = .ok (.aload_n 0, 1) := by decide +kernel
theorem dL_law_599 : decode cL_law 599 = .ok (.iload 4, 2) := by decide +kernel
theorem dL_law_601 : decode cL_law 601 = .ok (.iconst 2, 1) := by decide +kernel
theorem dL_law_602 : decode cL_law 602 = .ok (.iadd, 1) := by decide +kernel
theorem dL_law_603 : decode cL_law 603 = .ok (.iaload, 1) := by decide +kernel
theorem dL_law_604 : decode cL_law 604 = .ok (.aload_n 0, 1) := by decide +kernel
theorem dL_law_605 : decode cL_law 605 = .ok (.iload 4, 2) := by decide +kernel
theorem dL_law_607 : decode cL_law 607 = .ok (.iconst 3, 1) := by decide +kernel
theorem dL_law_608 : decode cL_law 608 = .ok (.iadd, 1) := by decide +kernel
theorem dL_law_609 : decode cL_law 609 = .ok (.iaload, 1) := by decide +kernel
theorem dL_law_610 : decode cL_law 610 = .ok (.invokevirtual 79, 3) := by decide +kernel
theorem dL_law_613 : decode cL_law 613 = .ok (.istore 6, 2) := by decide +kernel
theorem dL_law_615 : decode cL_law 615 = .ok (.aload_n 2, 1) := by decide +kernel
theorem dL_law_616 : decode cL_law 616 = .ok (.invokevirtual 69, 3) := by decide +kernel
theorem dL_law_619 : decode cL_law 619 = .ok (.iload 5, 2) := by decide +kernel
theorem dL_law_621 : decode cL_law 621 = .ok (.if_icmp .eq 5, 3) := by decide +kernel
theorem dL_law_624 : decode cL_law 624 = .ok (.iconst 0, 1) := by decide +kernel
theorem dL_law_625 : decode cL_law 625 = .ok (.ireturn, 1) := by decide +kernel
theorem dL_law_626 : decode cL_law 626 = .ok (.iload 5, 2) := by decide +kernel
theorem dL_law_628 : decode cL_law 628 = .ok (.ifCond .ne 15, 3) := by decide +kernel
theorem dL_law_631 : decode cL_law 631 = .ok (.aload_n 3, 1) := by decide +kernel
theorem dL_law_632 : decode cL_law 632 = .ok (.iconst 0, 1) := by decide +kernel
theorem dL_law_633 : decode cL_law 633 = .ok (.laload, 1) := by decide +kernel
theorem dL_law_634 : decode cL_law 634 = .ok (.iload 6, 2) := by decide +kernel
theorem dL_law_636 : decode cL_law 636 = .ok (.i2l, 1) := by decide +kernel
theorem dL_law_637 : decode cL_law 637 = .ok (.lcmp, 1) := by decide +kernel
theorem dL_law_638 : decode cL_law 638 = .ok (.ifCond .eq 5, 3) := by decide +kernel
theorem dL_law_641 : decode cL_law 641 = .ok (.iconst 0, 1) := by decide +kernel
theorem dL_law_642 : decode cL_law 642 = .ok (.ireturn, 1) := by decide +kernel
theorem dL_law_643 : decode cL_law 643 = .ok (.goto 276, 3) := by decide +kernel
theorem dL_law_646 : decode cL_law 646 = .ok (.aload_n 1, 1) := by decide +kernel
theorem dL_law_647 : decode cL_law 647 = .ok (.invokevirtual 80, 3) := by decide +kernel
theorem dL_law_650 : decode cL_law 650 = .ok (.aload_n 2, 1) := by decide +kernel
theorem dL_law_651 : decode cL_law 651 = .ok (.invokevirtual 83, 3) := by decide +kernel
theorem dL_law_654 : decode cL_law 654 = .ok (.if_icmp .eq 265, 3) := by decide +kernel
theorem dL_law_657 : decode cL_law 657 = .ok (.iconst 0, 1) := by decide +kernel
theorem dL_law_658 : decode cL_law 658 = .ok (.ireturn, 1) := by decide +kernel
theorem dL_law_659 : decode cL_law 659 = .ok (.aload_n 1, 1) := by decide +kernel
theorem dL_law_660 : decode cL_law 660 = .ok (.aload_n 0, 1) := by decide +kernel
theorem dL_law_661 : decode cL_law 661 = .ok (.iload 4, 2) := by decide +kernel
theorem dL_law_663 : decode cL_law 663 = .ok (.iconst 1, 1) := by decide +kernel
theorem dL_law_664 : decode cL_law 664 = .ok (.iadd, 1) := by decide +kernel
theorem dL_law_665 : decode cL_law 665 = .ok (.iaload, 1) := by decide +kernel
theorem dL_law_666 : decode cL_law 666 = .ok (.aload_n 0, 1) := by decide +kernel
theorem dL_law_667 : decode cL_law 667 = .ok (.iload 4, 2) := by decide +kernel
theorem dL_law_669 : decode cL_law 669 = .ok (.iconst 2, 1) := by decide +kernel
theorem dL_law_670 : decode cL_law 670 = .ok (.iadd, 1) := by decide +kernel
theorem dL_law_671 : decode cL_law 671 = .ok (.iaload, 1) := by decide +kernel
theorem dL_law_672 : decode cL_law 672 = .ok (.invokevirtual 84, 3) := by decide +kernel
theorem dL_law_675 : decode cL_law 675 = .ok (.aload_n 2, 1) := by decide +kernel
theorem dL_law_676 : decode cL_law 676 = .ok (.aload_n 0, 1) := by decide +kernel
theorem dL_law_677 : decode cL_law 677 = .ok (.iload 4, 2) := by decide +kernel
theorem dL_law_679 : decode cL_law 679 = .ok (.iconst 1, 1) := by decide +kernel
theorem dL_law_680 : decode cL_law 680 = .ok (.iadd, 1) := by decide +kernel
theorem dL_law_681 : decode cL_law 681 = .ok (.iaload, 1) := by decide +kernel
theorem dL_law_682 : decode cL_law 682 = .ok (.aload_n 0, 1) := by decide +kernel
theorem dL_law_683 : decode cL_law 683 = .ok (.iload 4, 2) := by decide +kernel
theorem dL_law_685 : decode cL_law 685 = .ok (.iconst 2, 1) := by decide +kernel
theorem dL_law_686 : decode cL_law 686 = .ok (.iadd, 1) := by decide +kernel
theorem dL_law_687 : decode cL_law 687 = .ok (.iaload, 1) := by decide +kernel
theorem dL_law_688 : decode cL_law 688 = .ok (.invokevirtual 87, 3) := by decide +kernel
theorem dL_law_691 : decode cL_law 691 = .ok (.if_icmp .eq 228, 3) := by decide +kernel
theorem dL_law_694 : decode cL_law 694 = .ok (.iconst 0, 1) := by decide +kernel
theorem dL_law_695 : decode cL_law 695 = .ok (.ireturn, 1) := by decide +kernel
theorem dL_law_696 : decode cL_law 696 = .ok (.aload_n 1, 1) := by decide +kernel
theorem dL_law_697 : decode cL_law 697 = .ok (.aload_n 0, 1) := by decide +kernel
theorem dL_law_698 : decode cL_law 698 = .ok (.iload 4, 2) := by decide +kernel
theorem dL_law_700 : decode cL_law 700 = .ok (.iconst 1, 1) := by decide +kernel
theorem dL_law_701 : decode cL_law 701 = .ok (.iadd, 1) := by decide +kernel
theorem dL_law_702 : decode cL_law 702 = .ok (.iaload, 1) := by decide +kernel
theorem dL_law_703 : decode cL_law 703 = .ok (.aload_n 0, 1) := by decide +kernel
theorem dL_law_704 : decode cL_law 704 = .ok (.iload 4, 2) := by decide +kernel
theorem dL_law_706 : decode cL_law 706 = .ok (.iconst 2, 1) := by decide +kernel
theorem dL_law_707 : decode cL_law 707 = .ok (.iadd, 1) := by decide +kernel
theorem dL_law_708 : decode cL_law 708 = .ok (.iaload, 1) := by decide +kernel
theorem dL_law_709 : decode cL_law 709 = .ok (.invokevirtual 88, 3) := by decide +kernel
theorem dL_law_712 : decode cL_law 712 = .ok (.aload_n 2, 1) := by decide +kernel
theorem dL_law_713 : decode cL_law 713 = .ok (.aload_n 0, 1) := by decide +kernel
theorem dL_law_714 : decode cL_law 714 = .ok (.iload 4, 2) := by decide +kernel
theorem dL_law_716 : decode cL_law 716 = .ok (.iconst 1, 1) := by decide +kernel
theorem dL_law_717 : decode cL_law 717 = .ok (.iadd, 1) := by decide +kernel
theorem dL_law_718 : decode cL_law 718 = .ok (.iaload, 1) := by decide +kernel
theorem dL_law_719 : decode cL_law 719 = .ok (.aload_n 0, 1) := by decide +kernel
theorem dL_law_720 : decode cL_law 720 = .ok (.iload 4, 2) := by decide +kernel
theorem dL_law_722 : decode cL_law 722 = .ok (.iconst 2, 1) := by decide +kernel
theorem dL_law_723 : decode cL_law 723 = .ok (.iadd, 1) := by decide +kernel
theorem dL_law_724 : decode cL_law 724 = .ok (.iaload, 1) := by decide +kernel
theorem dL_law_725 : decode cL_law 725 = .ok (.invokevirtual 91, 3) := by decide +kernel
theorem dL_law_728 : decode cL_law 728 = .ok (.if_icmp .eq 191, 3) := by decide +kernel
theorem dL_law_731 : decode cL_law 731 = .ok (.iconst 0, 1) := by decide +kernel
theorem dL_law_732 : decode cL_law 732 = .ok (.ireturn, 1) := by decide +kernel
theorem dL_law_733 : decode cL_law 733 = .ok (.aload_n 1, 1) := by decide +kernel
theorem dL_law_734 : decode cL_law 734 = .ok (.invokevirtual 92, 3) := by decide +kernel
theorem dL_law_737 : decode cL_law 737 = .ok (.aload_n 2, 1) := by decide +kernel
theorem dL_law_738 : decode cL_law 738 = .ok (.invokevirtual 95, 3) := by decide +kernel
theorem dL_law_741 : decode cL_law 741 = .ok (.if_icmp .eq 178, 3) := by decide +kernel
theorem dL_law_744 : decode cL_law 744 = .ok (.iconst 0, 1) := by decide +kernel
theorem dL_law_745 : decode cL_law 745 = .ok (.ireturn, 1) := by decide +kernel
theorem dL_law_746 : decode cL_law 746 = .ok (.aload_n 1, 1) := by decide +kernel
theorem dL_law_747 : decode cL_law 747 = .ok (.aload_n 0, 1) := by decide +kernel
theorem dL_law_748 : decode cL_law 748 = .ok (.iload 4, 2) := by decide +kernel
theorem dL_law_750 : decode cL_law 750 = .ok (.iconst 1, 1) := by decide +kernel
theorem dL_law_751 : decode cL_law 751 = .ok (.iadd, 1) := by decide +kernel
theorem dL_law_752 : decode cL_law 752 = .ok (.iaload, 1) := by decide +kernel
theorem dL_law_753 : decode cL_law 753 = .ok (.aload_n 0, 1) := by decide +kernel
theorem dL_law_754 : decode cL_law 754 = .ok (.iload 4, 2) := by decide +kernel
theorem dL_law_756 : decode cL_law 756 = .ok (.iconst 2, 1) := by decide +kernel
theorem dL_law_757 : decode cL_law 757 = .ok (.iadd, 1) := by decide +kernel
theorem dL_law_758 : decode cL_law 758 = .ok (.iaload, 1) := by decide +kernel
theorem dL_law_759 : decode cL_law 759 = .ok (.aload_n 0, 1) := by decide +kernel
theorem dL_law_760 : decode cL_law 760 = .ok (.iload 4, 2) := by decide +kernel
theorem dL_law_762 : decode cL_law 762 = .ok (.iconst 3, 1) := by decide +kernel
theorem dL_law_763 : decode cL_law 763 = .ok (.iadd, 1) := by decide +kernel
theorem dL_law_764 : decode cL_law 764 = .ok (.iaload, 1) := by decide +kernel
theorem dL_law_765 : decode cL_law 765 = .ok (.invokevirtual 96, 3) := by decide +kernel
theorem dL_law_768 : decode cL_law 768 = .ok (.aload_n 2, 1) := by decide +kernel
theorem dL_law_769 : decode cL_law 769 = .ok (.aload_n 0, 1) := by decide +kernel
theorem dL_law_770 : decode cL_law 770 = .ok (.iload 4, 2) := by decide +kernel
theorem dL_law_772 : decode cL_law 772 = .ok (.iconst 1, 1) := by decide +kernel
theorem dL_law_773 : decode cL_law 773 = .ok (.iadd, 1) := by decide +kernel
theorem dL_law_774 : decode cL_law 774 = .ok (.iaload, 1) := by decide +kernel
theorem dL_law_775 : decode cL_law 775 = .ok (.aload_n 0, 1) := by decide +kernel
theorem dL_law_776 : decode cL_law 776 = .ok (.iload 4, 2) := by decide +kernel
theorem dL_law_778 : decode cL_law 778 = .ok (.iconst 2, 1) := by decide +kernel
theorem dL_law_779 : decode cL_law 779 = .ok (.iadd, 1) := by decide +kernel
theorem dL_law_780 : decode cL_law 780 = .ok (.iaload, 1) := by decide +kernel
theorem dL_law_781 : decode cL_law 781 = .ok (.aload_n 0, 1) := by decide +kernel
theorem dL_law_782 : decode cL_law 782 = .ok (.iload 4, 2) := by decide +kernel
theorem dL_law_784 : decode cL_law 784 = .ok (.iconst 3, 1) := by decide +kernel
theorem dL_law_785 : decode cL_law 785 = .ok (.iadd, 1) := by decide +kernel
theorem dL_law_786 : decode cL_law 786 = .ok (.iaload, 1) := by decide +kernel
theorem dL_law_787 : decode cL_law 787 = .ok (.invokevirtual 99, 3) := by decide +kernel
theorem dL_law_790 : decode cL_law 790 = .ok (.if_icmp .eq 129, 3) := by decide +kernel
theorem dL_law_793 : decode cL_law 793 = .ok (.iconst 0, 1) := by decide +kernel
theorem dL_law_794 : decode cL_law 794 = .ok (.ireturn, 1) := by decide +kernel
theorem dL_law_795 : decode cL_law 795 = .ok (.aload_n 1, 1) := by decide +kernel
theorem dL_law_796 : decode cL_law 796 = .ok (.aload_n 0, 1) := by decide +kernel
theorem dL_law_797 : decode cL_law 797 = .ok (.iload 4, 2) := by decide +kernel
theorem dL_law_799 : decode cL_law 799 = .ok (.iconst 1, 1) := by decide +kernel
theorem dL_law_800 : decode cL_law 800 = .ok (.iadd, 1) := by decide +kernel
theorem dL_law_801 : decode cL_law 801 = .ok (.iaload, 1) := by decide +kernel
theorem dL_law_802 : decode cL_law 802 = .ok (.aload_n 0, 1) := by decide +kernel
theorem dL_law_803 : decode cL_law 803 = .ok (.iload 4, 2) := by decide +kernel
theorem dL_law_805 : decode cL_law 805 = .ok (.iconst 2, 1) := by decide +kernel
theorem dL_law_806 : decode cL_law 806 = .ok (.iadd, 1) := by decide +kernel
theorem dL_law_807 : decode cL_law 807 = .ok (.iaload, 1) := by decide +kernel
theorem dL_law_808 : decode cL_law 808 = .ok (.invokevirtual 100, 3) := by decide +kernel
theorem dL_law_811 : decode cL_law 811 = .ok (.aload_n 2, 1) := by decide +kernel
theorem dL_law_812 : decode cL_law 812 = .ok (.aload_n 0, 1) := by decide +kernel
theorem dL_law_813 : decode cL_law 813 = .ok (.iload 4, 2) := by decide +kernel
theorem dL_law_815 : decode cL_law 815 = .ok (.iconst 1, 1) := by decide +kernel
theorem dL_law_816 : decode cL_law 816 = .ok (.iadd, 1) := by decide +kernel
theorem dL_law_817 : decode cL_law 817 = .ok (.iaload, 1) := by decide +kernel
theorem dL_law_818 : decode cL_law 818 = .ok (.aload_n 0, 1) := by decide +kernel
theorem dL_law_819 : decode cL_law 819 = .ok (.iload 4, 2) := by decide +kernel
theorem dL_law_821 : decode cL_law 821 = .ok (.iconst 2, 1) := by decide +kernel
theorem dL_law_822 : decode cL_law 822 = .ok (.iadd, 1) := by decide +kernel
theorem dL_law_823 : decode cL_law 823 = .ok (.iaload, 1) := by decide +kernel
theorem dL_law_824 : decode cL_law 824 = .ok (.invokevirtual 103, 3) := by decide +kernel
theorem dL_law_827 : decode cL_law 827 = .ok (.if_icmp .eq 92, 3) := by decide +kernel
theorem dL_law_830 : decode cL_law 830 = .ok (.iconst 0, 1) := by decide +kernel
theorem dL_law_831 : decode cL_law 831 = .ok (.ireturn, 1) := by decide +kernel
theorem dL_law_832 : decode cL_law 832 = .ok (.aload_n 1, 1) := by decide +kernel
theorem dL_law_833 : decode cL_law 833 = .ok (.aload_n 0, 1) := by decide +kernel
theorem dL_law_834 : decode cL_law 834 = .ok (.iload 4, 2) := by decide +kernel
theorem dL_law_836 : decode cL_law 836 = .ok (.iconst 1, 1) := by decide +kernel
theorem dL_law_837 : decode cL_law 837 = .ok (.iadd, 1) := by decide +kernel
theorem dL_law_838 : decode cL_law 838 = .ok (.iaload, 1) := by decide +kernel
theorem dL_law_839 : decode cL_law 839 = .ok (.aload_n 0, 1) := by decide +kernel
theorem dL_law_840 : decode cL_law 840 = .ok (.iload 4, 2) := by decide +kernel
theorem dL_law_842 : decode cL_law 842 = .ok (.iconst 2, 1) := by decide +kernel
theorem dL_law_843 : decode cL_law 843 = .ok (.iadd, 1) := by decide +kernel
theorem dL_law_844 : decode cL_law 844 = .ok (.iaload, 1) := by decide +kernel
theorem dL_law_845 : decode cL_law 845 = .ok (.invokevirtual 104, 3) := by decide +kernel
theorem dL_law_848 : decode cL_law 848 = .ok (.aload_n 2, 1) := by decide +kernel
theorem dL_law_849 : decode cL_law 849 = .ok (.aload_n 0, 1) := by decide +kernel
theorem dL_law_850 : decode cL_law 850 = .ok (.iload 4, 2) := by decide +kernel
theorem dL_law_852 : decode cL_law 852 = .ok (.iconst 1, 1) := by decide +kernel
theorem dL_law_853 : decode cL_law 853 = .ok (.iadd, 1) := by decide +kernel
theorem dL_law_854 : decode cL_law 854 = .ok (.iaload, 1) := by decide +kernel
theorem dL_law_855 : decode cL_law 855 = .ok (.aload_n 0, 1) := by decide +kernel
theorem dL_law_856 : decode cL_law 856 = .ok (.iload 4, 2) := by decide +kernel
theorem dL_law_858 : decode cL_law 858 = .ok (.iconst 2, 1) := by decide +kernel
theorem dL_law_859 : decode cL_law 859 = .ok (.iadd, 1) := by decide +kernel
theorem dL_law_860 : decode cL_law 860 = .ok (.iaload, 1) := by decide +kernel
theorem dL_law_861 : decode cL_law 861 = .ok (.invokevirtual 107, 3) := by decide +kernel
theorem dL_law_864 : decode cL_law 864 = .ok (.if_icmp .eq 55, 3) := by decide +kernel
theorem dL_law_867 : decode cL_law 867 = .ok (.iconst 0, 1) := by decide +kernel
theorem dL_law_868 : decode cL_law 868 = .ok (.ireturn, 1) := by decide +kernel
theorem dL_law_869 : decode cL_law 869 = .ok (.aload_n 1, 1) := by decide +kernel
theorem dL_law_870 : decode cL_law 870 = .ok (.aload_n 0, 1) := by decide +kernel
theorem dL_law_871 : decode cL_law 871 = .ok (.iload 4, 2) := by decide +kernel
theorem dL_law_873 : decode cL_law 873 = .ok (.iconst 1, 1) := by decide +kernel
theorem dL_law_874 : decode cL_law 874 = .ok (.iadd, 1) := by decide +kernel
theorem dL_law_875 : decode cL_law 875 = .ok (.iaload, 1) := by decide +kernel
theorem dL_law_876 : decode cL_law 876 = .ok (.invokevirtual 108, 3) := by decide +kernel
theorem dL_law_879 : decode cL_law 879 = .ok (.aload_n 2, 1) := by decide +kernel
theorem dL_law_880 : decode cL_law 880 = .ok (.aload_n 0, 1) := by decide +kernel
theorem dL_law_881 : decode cL_law 881 = .ok (.iload 4, 2) := by decide +kernel
theorem dL_law_883 : decode cL_law 883 = .ok (.iconst 1, 1) := by decide +kernel
theorem dL_law_884 : decode cL_law 884 = .ok (.iadd, 1) := by decide +kernel
theorem dL_law_885 : decode cL_law 885 = .ok (.iaload, 1) := by decide +kernel
theorem dL_law_886 : decode cL_law 886 = .ok (.invokevirtual 111, 3) := by decide +kernel
theorem dL_law_889 : decode cL_law 889 = .ok (.if_icmp .eq 30, 3) := by decide +kernel
theorem dL_law_892 : decode cL_law 892 = .ok (.iconst 0, 1) := by decide +kernel
theorem dL_law_893 : decode cL_law 893 = .ok (.ireturn, 1) := by decide +kernel
theorem dL_law_894 : decode cL_law 894 = .ok (.aload_n 1, 1) := by decide +kernel
theorem dL_law_895 : decode cL_law 895 = .ok (.aload_n 0, 1) := by decide +kernel
theorem dL_law_896 : decode cL_law 896 = .ok (.iload 4, 2) := by decide +kernel
theorem dL_law_898 : decode cL_law 898 = .ok (.iconst 1, 1) := by decide +kernel
theorem dL_law_899 : decode cL_law 899 = .ok (.iadd, 1) := by decide +kernel
theorem dL_law_900 : decode cL_law 900 = .ok (.iaload, 1) := by decide +kernel
theorem dL_law_901 : decode cL_law 901 = .ok (.invokevirtual 112, 3) := by decide +kernel
theorem dL_law_904 : decode cL_law 904 = .ok (.aload_n 2, 1) := by decide +kernel
theorem dL_law_905 : decode cL_law 905 = .ok (.aload_n 0, 1) := by decide +kernel
theorem dL_law_906 : decode cL_law 906 = .ok (.iload 4, 2) := by decide +kernel
theorem dL_law_908 : decode cL_law 908 = .ok (.iconst 1, 1) := by decide +kernel
theorem dL_law_909 : decode cL_law 909 = .ok (.iadd, 1) := by decide +kernel
theorem dL_law_910 : decode cL_law 910 = .ok (.iaload, 1) := by decide +kernel
theorem dL_law_911 : decode cL_law 911 = .ok (.invokevirtual 115, 3) := by decide +kernel
theorem dL_law_914 : decode cL_law 914 = .ok (.if_icmp .eq 5, 3) := by decide +kernel
theorem dL_law_917 : decode cL_law 917 = .ok (.iconst 0, 1) := by decide +kernel
theorem dL_law_918 : decode cL_law 918 = .ok (.ireturn, 1) := by decide +kernel
theorem dL_law_919 : decode cL_law 919 = .ok (.iinc 4 5, 3) := by decide +kernel
theorem dL_law_922 : decode cL_law 922 = .ok (.goto (-899), 3) := by decide +kernel
theorem dL_law_925 : decode cL_law 925 = .ok (.iconst 1, 1) := by decide +kernel
theorem dL_law_926 : decode cL_law 926 = .ok (.ireturn, 1) := by decide +kernel
