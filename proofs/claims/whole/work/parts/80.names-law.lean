def wsL_element : List Cond := .codeWith yL_element cL_element 5 (some .int) [(0, 9, 12, 13), (0, 9, 16, 15)] :: ([.classLink RL 13 "java/lang/IllegalArgumentException", .classLink RL 15 "java/lang/IllegalStateException", .methodLink RL 7 yX11_element, .instanceMethod yX11_element, .selects RX11 yX11_element yX11_element, .initialized RX11, .code yX11_element cX11_element 3 (some .long), .classLink RX11 242 "java/lang/IllegalArgumentException", .initialized "java/lang/IllegalArgumentException", .classLink RX11 249 "java/lang/IllegalStateException", .initialized "java/lang/IllegalStateException", .fieldLink RX11 49 "TwiceAsRich" "sorts" "[I", .fieldLink RX11 58 "TwiceAsRich" "rows" "[[I", .methodLink RX11 225 yX11_isShelf, .static yX11_isShelf, .code yX11_isShelf cX11_isShelf 1 (some .boolean), .methodLink RX11 236 yX11_isPlace, .instanceMethod yX11_isPlace, .selects RX11 yX11_isPlace yX11_isPlace, .code yX11_isPlace cX11_isPlace 3 (some .boolean), .fieldLink RX11 53 "TwiceAsRich" "sizes" "[I"] ++ wsX110 ++ (vx_atS RX11 246 "java/lang/IllegalArgumentException" ["java/lang/RuntimeException", "java/lang/Exception"]).filter goodWord ++ (vx_atS RX11 253 "java/lang/IllegalStateException" ["java/lang/RuntimeException", "java/lang/Exception"]).filter goodWord)
def wsL_law0_r1 : List Cond := [Cond.classLink RL 8 RX11, Cond.instantiable RX11 11, Cond.initialized RX11, Cond.classLink RL 18 RX12, Cond.instantiable RX12 24, Cond.initialized RX12, Cond.arrayClass .long, Cond.methodLink RL 17 yX11_init, Cond.instanceMethod yX11_init, Cond.code yX11_init cX11_init 1 none, Cond.methodLink RX11 1 objectInit, Cond.instanceMethod objectInit, Cond.code objectInit ⟨#[0xb1]⟩ 1 none, Cond.classLink RX11 7 RX7, Cond.instantiable RX7 4, Cond.initialized RX7, Cond.fieldLink RX11 10 "TwiceAsRich" "street" "LTwiceAsRich$Street;", Cond.fieldLink RX11 16 "TwiceAsRich" "image" "LTwiceAsRich$Street;", Cond.fieldLink RX11 19 "TwiceAsRich" "mind" "LTwiceAsRich$Street;", Cond.classLink RX11 22 RX3, Cond.instantiable RX3 1, Cond.initialized RX3, Cond.fieldLink RX11 27 "TwiceAsRich" "plainHouse" "LTwiceAsRich$House;", Cond.classLink RX11 31 RX5]
def wsL_law0_r2 : List Cond := [Cond.instantiable RX5 8, Cond.initialized RX5, Cond.fieldLink RX11 34 "TwiceAsRich" "partings" "LTwiceAsRich$Partings;", Cond.classLink RX11 38 RX8, Cond.instantiable RX8 3, Cond.initialized RX8, Cond.fieldLink RX11 41 "TwiceAsRich" "text" "LTwiceAsRich$StreetText;", Cond.fieldLink RX11 45 "TwiceAsRich" "kept" "[LTwiceAsRich$House;", Cond.arrayClass .int, Cond.fieldLink RX11 49 "TwiceAsRich" "sorts" "[I", Cond.fieldLink RX11 53 "TwiceAsRich" "sizes" "[I", Cond.classLink RX11 56 "[[I", Cond.fieldLink RX11 58 "TwiceAsRich" "rows" "[[I", Cond.methodLink RX11 9 yX7_init, Cond.instanceMethod yX7_init, Cond.code yX7_init cX7_init 1 none, Cond.methodLink RX7 3 objectInit, Cond.classLink RX7 9 RX3, Cond.fieldLink RX7 11 "TwiceAsRich$Street" "houses" "[LTwiceAsRich$House;", Cond.fieldLink RX7 17 "TwiceAsRich$Street" "purses" "[I", Cond.methodLink RX11 24 yX3_init, Cond.instanceMethod yX3_init, Cond.code yX3_init cX3_init 2 none, Cond.methodLink RX3 1 objectInit]
def wsL_law0_r3 : List Cond := [Cond.fieldLink RX3 7 "TwiceAsRich$House" "figure" "I", Cond.methodLink RX11 33 yX5_init, Cond.instanceMethod yX5_init, Cond.code yX5_init cX5_init 1 none, Cond.methodLink RX5 3 objectInit, Cond.fieldLink RX5 9 "TwiceAsRich$Partings" "richest" "[I", Cond.classLink RX5 15 RX7, Cond.fieldLink RX5 18 "TwiceAsRich$Partings" "parted" "LTwiceAsRich$Street;", Cond.fieldLink RX5 22 "TwiceAsRich$Partings" "before" "[I", Cond.classLink RX5 25 "[[I", Cond.fieldLink RX5 27 "TwiceAsRich$Partings" "suits" "[[I", Cond.methodLink RX5 17 yX7_init, Cond.methodLink RX11 40 yX8_init, Cond.instanceMethod yX8_init, Cond.code yX8_init cX8_init 1 none, Cond.methodLink RX8 3 objectInit, Cond.fieldLink RX8 9 "TwiceAsRich$StreetText" "bytes" "[I", Cond.methodLink RX11 61 yJ7_fill_53178, Cond.static yJ7_fill_53178, Cond.initialized RJ7, Cond.code yJ7_fill_53178 cJ7_fill_53178 4 none, Cond.methodLink RL 20 yX12_init, Cond.instanceMethod yX12_init, Cond.code yX12_init cX12_init 1 none]
def wsL_law0_r4 : List Cond := [Cond.methodLink RX12 1 objectInit, Cond.fieldLink RX12 9 "TwiceAsRichModel" "s" "[I", Cond.fieldLink RX12 13 "TwiceAsRichModel" "image" "[I", Cond.fieldLink RX12 16 "TwiceAsRichModel" "read" "[I", Cond.fieldLink RX12 19 "TwiceAsRichModel" "mind" "[I", Cond.fieldLink RX12 22 "TwiceAsRichModel" "kept" "[I", Cond.fieldLink RX12 25 "TwiceAsRichModel" "sort" "[I", Cond.fieldLink RX12 28 "TwiceAsRichModel" "size" "[I", Cond.fieldLink RX12 31 "TwiceAsRichModel" "element" "[I", Cond.fieldLink RX12 34 "TwiceAsRichModel" "keptKind" "[I", Cond.fieldLink RX12 37 "TwiceAsRichModel" "keptFigure" "[I", Cond.fieldLink RX12 40 "TwiceAsRichModel" "numbers" "[I", Cond.fieldLink RX12 43 "TwiceAsRichModel" "was" "[I", Cond.methodLink RL 21 yX11_street, Cond.instanceMethod yX11_street, Cond.selects RX11 yX11_street yX11_street, Cond.code yX11_street cX11_street 5 (some .int), Cond.methodLink RX11 67 yX11_sortRefusal, Cond.instanceMethod yX11_sortRefusal, Cond.selects RX11 yX11_sortRefusal yX11_sortRefusal, Cond.code yX11_sortRefusal cX11_sortRefusal 4 (some .int), Cond.methodLink RX11 212 yX11_rowRefusal, Cond.instanceMethod yX11_rowRefusal, Cond.selects RX11 yX11_rowRefusal yX11_rowRefusal]
def wsL_law0_r5 : List Cond := [Cond.code yX11_rowRefusal cX11_rowRefusal 2 (some .int), Cond.methodLink RX11 225 yX11_isShelf, Cond.static yX11_isShelf, Cond.code yX11_isShelf cX11_isShelf 1 (some .boolean), Cond.methodLink RX11 254 yX11_holdsNothing, Cond.instanceMethod yX11_holdsNothing, Cond.selects RX11 yX11_holdsNothing yX11_holdsNothing, Cond.code yX11_holdsNothing cX11_holdsNothing 2 (some .boolean), Cond.methodLink RX11 71 yX8_open, Cond.instanceMethod yX8_open, Cond.selects RX8 yX8_open yX8_open, Cond.code yX8_open cX8_open 3 none, Cond.methodLink RX8 15 Lib.Math.min.name, Cond.static Lib.Math.min.name, Cond.initialized "java/lang/Math", Cond.code Lib.Math.min.name Lib.Math.min.code 2 (some .int), Cond.fieldLink RX8 21 "TwiceAsRich$StreetText" "size" "I", Cond.fieldLink RX8 25 "TwiceAsRich$StreetText" "done" "I", Cond.methodLink RX11 74 yX8_brokenPlace, Cond.instanceMethod yX8_brokenPlace, Cond.selects RX8 yX8_brokenPlace yX8_brokenPlace, Cond.code yX8_brokenPlace cX8_brokenPlace 3 (some .int), Cond.methodLink RX8 28 yX8_endOf, Cond.instanceMethod yX8_endOf]
def wsL_law0_r6 : List Cond := [Cond.selects RX8 yX8_endOf yX8_endOf, Cond.code yX8_endOf cX8_endOf 5 (some .int), Cond.methodLink RX8 32 yX8_byteAt, Cond.instanceMethod yX8_byteAt, Cond.selects RX8 yX8_byteAt yX8_byteAt, Cond.code yX8_byteAt cX8_byteAt 2 (some .int), Cond.methodLink RX8 42 yX8_isLetter, Cond.static yX8_isLetter, Cond.code yX8_isLetter cX8_isLetter 1 (some .boolean), Cond.methodLink RX8 46 yX8_hasNumber, Cond.static yX8_hasNumber, Cond.code yX8_hasNumber cX8_hasNumber 1 (some .boolean), Cond.methodLink RX8 49 yX8_singleDigits, Cond.static yX8_singleDigits, Cond.code yX8_singleDigits cX8_singleDigits 1 (some .int), Cond.methodLink RX8 52 yX8_isDigit, Cond.static yX8_isDigit, Cond.code yX8_isDigit cX8_isDigit 1 (some .boolean), Cond.methodLink RX8 35 yX8_fewestDigits, Cond.static yX8_fewestDigits, Cond.code yX8_fewestDigits cX8_fewestDigits 1 (some .int), Cond.methodLink RX11 78 yX7_become, Cond.instanceMethod yX7_become, Cond.selects RX7 yX7_become yX7_become]
def wsL_law0_r7 : List Cond := [Cond.code yX7_become cX7_become 3 none, Cond.fieldLink RX7 21 "TwiceAsRich$Street" "count" "I", Cond.fieldLink RX7 25 "TwiceAsRich$Street" "round" "I", Cond.methodLink RX11 82 yX8_wrongPlace, Cond.instanceMethod yX8_wrongPlace, Cond.selects RX8 yX8_wrongPlace yX8_wrongPlace, Cond.code yX8_wrongPlace cX8_wrongPlace 3 (some .int), Cond.methodLink RX8 38 yX8_isDone, Cond.instanceMethod yX8_isDone, Cond.selects RX8 yX8_isDone yX8_isDone, Cond.code yX8_isDone cX8_isDone 5 (some .boolean), Cond.methodLink RX8 55 yX8_digitAt, Cond.instanceMethod yX8_digitAt, Cond.selects RX8 yX8_digitAt yX8_digitAt, Cond.code yX8_digitAt cX8_digitAt 2 (some .int), Cond.methodLink RX8 58 yX8_numberAt, Cond.instanceMethod yX8_numberAt, Cond.selects RX8 yX8_numberAt yX8_numberAt, Cond.code yX8_numberAt cX8_numberAt 4 (some .int), Cond.methodLink RX8 61 yX8_comesAsTold, Cond.static yX8_comesAsTold, Cond.code yX8_comesAsTold cX8_comesAsTold 4 (some .boolean), Cond.fieldLink RX8 87 "TwiceAsRich$Street" "count" "I", Cond.static yX11_isHouse]
def wsL_law0_r8 : List Cond := [Cond.code yX11_isHouse cX11_isHouse 2 (some .boolean), Cond.static yX11_houseOfKind, Cond.code yX11_houseOfKind cX11_houseOfKind 2 (some (.object "TwiceAsRich$House")), Cond.classLink RX11 285 RX2, Cond.instantiable RX2 1, Cond.initialized RX2, Cond.classLink RX11 288 RX6, Cond.instantiable RX6 1, Cond.initialized RX6, Cond.classLink RX11 291 RX10, Cond.instantiable RX10 1, Cond.initialized RX10, Cond.classLink RX11 294 RX4, Cond.instantiable RX4 1, Cond.initialized RX4, Cond.classLink RX11 297 RX0, Cond.instantiable RX0 1, Cond.initialized RX0, Cond.classLink RX11 300 RX9, Cond.instantiable RX9 1, Cond.initialized RX9, Cond.classLink RX11 303 RX1, Cond.instantiable RX1 1, Cond.initialized RX1]
def wsL_law0_r9 : List Cond := [Cond.methodLink RX11 287 yX2_init, Cond.instanceMethod yX2_init, Cond.code yX2_init cX2_init 2 none, Cond.methodLink RX2 1 yX3_init, Cond.methodLink RX11 290 yX6_init, Cond.instanceMethod yX6_init, Cond.code yX6_init cX6_init 2 none, Cond.methodLink RX6 1 yX3_init, Cond.methodLink RX11 293 yX10_init, Cond.instanceMethod yX10_init, Cond.code yX10_init cX10_init 2 none, Cond.methodLink RX10 3 yX3_init, Cond.methodLink RX11 296 yX4_init, Cond.instanceMethod yX4_init, Cond.code yX4_init cX4_init 2 none, Cond.methodLink RX4 1 yX2_init, Cond.methodLink RX11 299 yX0_init, Cond.instanceMethod yX0_init, Cond.code yX0_init cX0_init 2 none, Cond.methodLink RX0 1 yX6_init, Cond.methodLink RX11 302 yX9_init, Cond.instanceMethod yX9_init, Cond.code yX9_init cX9_init 2 none, Cond.methodLink RX9 1 yX2_init]
def wsL_law0_r10 : List Cond := [Cond.methodLink RX11 305 yX1_init, Cond.instanceMethod yX1_init, Cond.code yX1_init cX1_init 2 none, Cond.methodLink RX1 1 yX10_init, Cond.methodLink RX8 94 yX7_insert, Cond.instanceMethod yX7_insert, Cond.selects RX7 yX7_insert yX7_insert, Cond.code yX7_insert cX7_insert 5 none, Cond.methodLink RX8 65 yX8_turnsAsTold, Cond.static yX8_turnsAsTold, Cond.code yX8_turnsAsTold cX8_turnsAsTold 2 (some .boolean), Cond.fieldLink RX8 98 "TwiceAsRich$Street" "round" "I", Cond.methodLink RX8 69 yX7_gift, Cond.instanceMethod yX7_gift, Cond.selects RX7 yX7_gift yX7_gift, Cond.code yX7_gift cX7_gift 4 (some .int), Cond.methodLink RX7 69 yX7_hasTwo, Cond.instanceMethod yX7_hasTwo, Cond.selects RX7 yX7_hasTwo yX7_hasTwo, Cond.code yX7_hasTwo cX7_hasTwo 3 (some .boolean), Cond.methodLink RX7 28 yX7_has, Cond.instanceMethod yX7_has, Cond.selects RX7 yX7_has yX7_has, Cond.code yX7_has cX7_has 2 (some .boolean)]
def wsL_law0_r11 : List Cond := [Cond.methodLink RX8 75 yX8_movesAsTold, Cond.static yX8_movesAsTold, Cond.code yX8_movesAsTold cX8_movesAsTold 3 (some .boolean), Cond.methodLink RX8 101 yX7_hasTwo, Cond.methodLink RX8 104 yX7_exchange, Cond.instanceMethod yX7_exchange, Cond.selects RX7 yX7_exchange yX7_exchange, Cond.code yX7_exchange cX7_exchange 5 none, Cond.methodLink RX8 79 yX8_leavesAsTold, Cond.static yX8_leavesAsTold, Cond.code yX8_leavesAsTold cX8_leavesAsTold 1 (some .boolean), Cond.methodLink RX8 108 yX7_remove, Cond.instanceMethod yX7_remove, Cond.selects RX7 yX7_remove yX7_remove, Cond.code yX7_remove cX7_remove 3 none, Cond.methodLink RX11 86 yX8_statements, Cond.instanceMethod yX8_statements, Cond.selects RX8 yX8_statements yX8_statements, Cond.code yX8_statements cX8_statements 1 (some .int), Cond.methodLink RL 25 yX12_street, Cond.instanceMethod yX12_street, Cond.selects RX12 yX12_street yX12_street, Cond.code yX12_street cX12_street 7 (some .int), Cond.fieldLink RX12 109 "TwiceAsRichModel" "base" "I"]
def wsL_law0_r12 : List Cond := [Cond.fieldLink RX12 106 "TwiceAsRichModel" "end" "I", Cond.fieldLink RX12 103 "TwiceAsRichModel" "pos" "I", Cond.methodLink RX12 157 yX12_wrongRow, Cond.instanceMethod yX12_wrongRow, Cond.selects RX12 yX12_wrongRow yX12_wrongRow, Cond.code yX12_wrongRow cX12_wrongRow 3 (some .int), Cond.methodLink RX12 154 yX12_isShelf, Cond.static yX12_isShelf, Cond.code yX12_isShelf cX12_isShelf 1 (some .boolean), Cond.constantLong RX12 50 (7), Cond.methodLink RX12 52 yX12_isIn, Cond.static yX12_isIn, Cond.code yX12_isIn cX12_isIn 6 (some .boolean), Cond.methodLink RX12 160 yX12_readsStatement, Cond.instanceMethod yX12_readsStatement, Cond.selects RX12 yX12_readsStatement yX12_readsStatement, Cond.code yX12_readsStatement cX12_readsStatement 3 (some .boolean), Cond.fieldLink RX12 119 "TwiceAsRichModel" "told" "I", Cond.methodLink RX12 112 yX12_here, Cond.instanceMethod yX12_here, Cond.selects RX12 yX12_here yX12_here, Cond.code yX12_here cX12_here 1 (some .int), Cond.methodLink RX12 122 yX12_readsNumber, Cond.instanceMethod yX12_readsNumber]
def wsL_law0_r13 : List Cond := [Cond.selects RX12 yX12_readsNumber yX12_readsNumber, Cond.code yX12_readsNumber cX12_readsNumber 4 (some .boolean), Cond.constantLong RX12 115 (48), Cond.constantLong RX12 117 (57), Cond.methodLink RX12 60 yX12_lays, Cond.static yX12_lays, Cond.code yX12_lays cX12_lays 3 none, Cond.methodLink RX12 164 yX12_comesTold, Cond.instanceMethod yX12_comesTold, Cond.selects RX12 yX12_comesTold yX12_comesTold, Cond.code yX12_comesTold cX12_comesTold 4 (some .boolean), Cond.methodLink RX12 143 yX12_adds, Cond.instanceMethod yX12_adds, Cond.selects RX12 yX12_adds yX12_adds, Cond.code yX12_adds cX12_adds 4 (some .boolean), Cond.methodLink RX12 129 yX12_joins, Cond.instanceMethod yX12_joins, Cond.selects RX12 yX12_joins yX12_joins, Cond.code yX12_joins cX12_joins 4 none, Cond.methodLink RX12 125 yX12_puts, Cond.instanceMethod yX12_puts, Cond.selects RX12 yX12_puts yX12_puts, Cond.code yX12_puts cX12_puts 4 none, Cond.methodLink RX12 147 yX12_givesIf]
def wsL_law0_r14 : List Cond := [Cond.instanceMethod yX12_givesIf, Cond.selects RX12 yX12_givesIf yX12_givesIf, Cond.code yX12_givesIf cX12_givesIf 4 (some .boolean), Cond.methodLink RX12 136 yX12_wrongGift, Cond.instanceMethod yX12_wrongGift, Cond.selects RX12 yX12_wrongGift yX12_wrongGift, Cond.code yX12_wrongGift cX12_wrongGift 4 (some .int), Cond.methodLink RX12 132 yX12_areTwo, Cond.instanceMethod yX12_areTwo, Cond.selects RX12 yX12_areTwo yX12_areTwo, Cond.code yX12_areTwo cX12_areTwo 3 (some .boolean), Cond.methodLink RX12 56 yX12_isHouse, Cond.instanceMethod yX12_isHouse, Cond.selects RX12 yX12_isHouse yX12_isHouse, Cond.code yX12_isHouse cX12_isHouse 2 (some .boolean), Cond.methodLink RX12 68 yX12_purse, Cond.instanceMethod yX12_purse, Cond.selects RX12 yX12_purse yX12_purse, Cond.code yX12_purse cX12_purse 2 (some .int), Cond.methodLink RX12 64 yX12_get, Cond.instanceMethod yX12_get, Cond.selects RX12 yX12_get yX12_get, Cond.code yX12_get cX12_get 3 (some .int), Cond.methodLink RX12 140 yX12_gives]
def wsL_law0_r15 : List Cond := [Cond.instanceMethod yX12_gives, Cond.selects RX12 yX12_gives yX12_gives, Cond.code yX12_gives cX12_gives 4 none, Cond.methodLink RX12 150 yX12_changes, Cond.instanceMethod yX12_changes, Cond.selects RX12 yX12_changes yX12_changes, Cond.code yX12_changes cX12_changes 5 none, Cond.methodLink RL 26 yX11_house, Cond.instanceMethod yX11_house, Cond.selects RX11 yX11_house yX11_house, Cond.code yX11_house cX11_house 4 (some .int), Cond.fieldLink RX11 93 "TwiceAsRich$Street" "houses" "[LTwiceAsRich$House;", Cond.fieldLink RX11 99 "TwiceAsRich$House" "figure" "I", Cond.fieldLink RX11 103 "TwiceAsRich$Street" "purses" "[I", Cond.methodLink RX11 89 yX7_has, Cond.methodLink RX11 96 ⟨"TwiceAsRich$House", "kind", "()I"⟩, Cond.sameMethod "TwiceAsRich$House" "TwiceAsRich$House" "kind" "()I", Cond.instanceMethod ⟨"TwiceAsRich$House", "kind", "()I"⟩, Cond.selects RX0 ⟨"TwiceAsRich$House", "kind", "()I"⟩ yX0_kind, Cond.instanceMethod yX0_kind, Cond.code yX0_kind cX0_kind 1 (some .int), Cond.code yX3_kind cX3_kind 1 (some .int), Cond.selects RX1 ⟨"TwiceAsRich$House", "kind", "()I"⟩ yX1_kind, Cond.instanceMethod yX1_kind]
def wsL_law0_r16 : List Cond := [Cond.code yX1_kind cX1_kind 1 (some .int), Cond.selects RX2 ⟨"TwiceAsRich$House", "kind", "()I"⟩ yX2_kind, Cond.instanceMethod yX2_kind, Cond.code yX2_kind cX2_kind 1 (some .int), Cond.methodLink RX11 96 yX3_kind, Cond.instanceMethod yX3_kind, Cond.selects RX3 yX3_kind yX3_kind, Cond.selects RX4 ⟨"TwiceAsRich$House", "kind", "()I"⟩ yX4_kind, Cond.instanceMethod yX4_kind, Cond.code yX4_kind cX4_kind 1 (some .int), Cond.selects RX6 ⟨"TwiceAsRich$House", "kind", "()I"⟩ yX6_kind, Cond.instanceMethod yX6_kind, Cond.code yX6_kind cX6_kind 1 (some .int), Cond.selects RX9 ⟨"TwiceAsRich$House", "kind", "()I"⟩ yX9_kind, Cond.instanceMethod yX9_kind, Cond.code yX9_kind cX9_kind 1 (some .int), Cond.selects RX10 ⟨"TwiceAsRich$House", "kind", "()I"⟩ yX10_kind, Cond.instanceMethod yX10_kind, Cond.code yX10_kind cX10_kind 1 (some .int), Cond.methodLink RX11 106 ⟨"TwiceAsRich$House", "isLookedAt", "()Z"⟩, Cond.sameMethod "TwiceAsRich$House" "TwiceAsRich$House" "isLookedAt" "()Z", Cond.selects RX0 ⟨"TwiceAsRich$House", "isLookedAt", "()Z"⟩ yX3_isLookedAt, Cond.instanceMethod yX3_isLookedAt, Cond.code yX3_isLookedAt cX3_isLookedAt 1 (some .boolean)]
def wsL_law0_r17 : List Cond := [Cond.instanceMethod ⟨"TwiceAsRich$House", "isLookedAt", "()Z"⟩, Cond.selects RX1 ⟨"TwiceAsRich$House", "isLookedAt", "()Z"⟩ yX1_isLookedAt, Cond.instanceMethod yX1_isLookedAt, Cond.code yX1_isLookedAt cX1_isLookedAt 1 (some .boolean), Cond.selects RX2 ⟨"TwiceAsRich$House", "isLookedAt", "()Z"⟩ yX3_isLookedAt, Cond.methodLink RX11 106 yX3_isLookedAt, Cond.selects RX3 yX3_isLookedAt yX3_isLookedAt, Cond.selects RX4 ⟨"TwiceAsRich$House", "isLookedAt", "()Z"⟩ yX3_isLookedAt, Cond.selects RX6 ⟨"TwiceAsRich$House", "isLookedAt", "()Z"⟩ yX3_isLookedAt, Cond.selects RX9 ⟨"TwiceAsRich$House", "isLookedAt", "()Z"⟩ yX3_isLookedAt, Cond.selects RX10 ⟨"TwiceAsRich$House", "isLookedAt", "()Z"⟩ yX10_isLookedAt, Cond.instanceMethod yX10_isLookedAt, Cond.code yX10_isLookedAt cX10_isLookedAt 1 (some .boolean), Cond.methodLink RX11 110 ⟨"TwiceAsRich$House", "shownOf", "(I)I"⟩, Cond.sameMethod "TwiceAsRich$House" "TwiceAsRich$House" "shownOf" "(I)I", Cond.instanceMethod ⟨"TwiceAsRich$House", "shownOf", "(I)I"⟩, Cond.selects RX0 ⟨"TwiceAsRich$House", "shownOf", "(I)I"⟩ yX0_shownOf, Cond.instanceMethod yX0_shownOf, Cond.code yX0_shownOf cX0_shownOf 2 (some .int), Cond.fieldLink RX0 11 "TwiceAsRich$Beggar" "figure" "I", Cond.sameField "TwiceAsRich$Beggar" "TwiceAsRich$House" "figure" "I", Cond.methodLink RX0 7 yX6_shownOf, Cond.sameMethod "TwiceAsRich$Priest" "TwiceAsRich$Priest" "shownOf" "(I)I", Cond.superclass RX0 RX6]
def wsL_law0_r18 : List Cond := [Cond.instanceMethod yX6_shownOf, Cond.code yX6_shownOf cX6_shownOf 2 (some .int), Cond.methodLink RX6 7 yX3_shownOf, Cond.superclass RX6 RX3, Cond.instanceMethod yX3_shownOf, Cond.code yX3_shownOf cX3_shownOf 2 (some .int), Cond.selects RX1 ⟨"TwiceAsRich$House", "shownOf", "(I)I"⟩ yX3_shownOf, Cond.selects RX2 ⟨"TwiceAsRich$House", "shownOf", "(I)I"⟩ yX3_shownOf, Cond.methodLink RX11 110 yX3_shownOf, Cond.selects RX3 yX3_shownOf yX3_shownOf, Cond.selects RX4 ⟨"TwiceAsRich$House", "shownOf", "(I)I"⟩ yX4_shownOf, Cond.instanceMethod yX4_shownOf, Cond.code yX4_shownOf cX4_shownOf 2 (some .int), Cond.selects RX6 ⟨"TwiceAsRich$House", "shownOf", "(I)I"⟩ yX6_shownOf, Cond.selects RX9 ⟨"TwiceAsRich$House", "shownOf", "(I)I"⟩ yX3_shownOf, Cond.selects RX10 ⟨"TwiceAsRich$House", "shownOf", "(I)I"⟩ yX3_shownOf, Cond.methodLink RX11 114 yX7_mostOf, Cond.instanceMethod yX7_mostOf, Cond.selects RX7 yX7_mostOf yX7_mostOf, Cond.code yX7_mostOf cX7_mostOf 2 (some .int), Cond.methodLink RX7 57 Lib.Math.min.name, Cond.methodLink RX7 47 yX7_ahead, Cond.instanceMethod yX7_ahead, Cond.selects RX7 yX7_ahead yX7_ahead]
def wsL_law0_r19 : List Cond := [Cond.code yX7_ahead cX7_ahead 2 (some .int), Cond.methodLink RX7 32 yX7_isClosed, Cond.instanceMethod yX7_isClosed, Cond.selects RX7 yX7_isClosed yX7_isClosed, Cond.code yX7_isClosed cX7_isClosed 1 (some .boolean), Cond.methodLink RX7 50 yX7_limitBy, Cond.instanceMethod yX7_limitBy, Cond.selects RX7 yX7_limitBy yX7_limitBy, Cond.code yX7_limitBy cX7_limitBy 3 (some .int), Cond.constant RX7 39 (1000000), Cond.methodLink RX7 36 ⟨"TwiceAsRich$House", "isLookedAt", "()Z"⟩, Cond.methodLink RX7 36 yX3_isLookedAt, Cond.methodLink RX7 40 ⟨"TwiceAsRich$House", "shownOf", "(I)I"⟩, Cond.methodLink RX7 40 yX3_shownOf, Cond.methodLink RX7 44 ⟨"TwiceAsRich$House", "allowedBy", "(I)I"⟩, Cond.sameMethod "TwiceAsRich$House" "TwiceAsRich$House" "allowedBy" "(I)I", Cond.selects RX0 ⟨"TwiceAsRich$House", "allowedBy", "(I)I"⟩ yX3_allowedBy, Cond.instanceMethod yX3_allowedBy, Cond.code yX3_allowedBy cX3_allowedBy 2 (some .int), Cond.instanceMethod ⟨"TwiceAsRich$House", "allowedBy", "(I)I"⟩, Cond.selects RX1 ⟨"TwiceAsRich$House", "allowedBy", "(I)I"⟩ yX10_allowedBy, Cond.instanceMethod yX10_allowedBy, Cond.code yX10_allowedBy cX10_allowedBy 2 (some .int), Cond.selects RX2 ⟨"TwiceAsRich$House", "allowedBy", "(I)I"⟩ yX2_allowedBy]
def wsL_law0_r20 : List Cond := [Cond.instanceMethod yX2_allowedBy, Cond.code yX2_allowedBy cX2_allowedBy 2 (some .int), Cond.fieldLink RX2 11 "TwiceAsRich$Heir" "figure" "I", Cond.sameField "TwiceAsRich$Heir" "TwiceAsRich$House" "figure" "I", Cond.methodLink RX2 7 yX3_allowedBy, Cond.superclass RX2 RX3, Cond.methodLink RX7 44 yX3_allowedBy, Cond.selects RX3 yX3_allowedBy yX3_allowedBy, Cond.selects RX4 ⟨"TwiceAsRich$House", "allowedBy", "(I)I"⟩ yX4_allowedBy, Cond.instanceMethod yX4_allowedBy, Cond.code yX4_allowedBy cX4_allowedBy 2 (some .int), Cond.methodLink RX4 14 Lib.Math.max.name, Cond.static Lib.Math.max.name, Cond.code Lib.Math.max.name Lib.Math.max.code 2 (some .int), Cond.methodLink RX4 11 yX2_allowedBy, Cond.sameMethod "TwiceAsRich$Heir" "TwiceAsRich$Heir" "allowedBy" "(I)I", Cond.superclass RX4 RX2, Cond.selects RX6 ⟨"TwiceAsRich$House", "allowedBy", "(I)I"⟩ yX3_allowedBy, Cond.selects RX9 ⟨"TwiceAsRich$House", "allowedBy", "(I)I"⟩ yX9_allowedBy, Cond.instanceMethod yX9_allowedBy, Cond.code yX9_allowedBy cX9_allowedBy 2 (some .int), Cond.methodLink RX9 7 yX2_allowedBy, Cond.superclass RX9 RX2, Cond.selects RX10 ⟨"TwiceAsRich$House", "allowedBy", "(I)I"⟩ yX10_allowedBy]
def wsL_law0_r21 : List Cond := [Cond.methodLink RX7 54 yX7_behind, Cond.instanceMethod yX7_behind, Cond.selects RX7 yX7_behind yX7_behind, Cond.code yX7_behind cX7_behind 2 (some .int), Cond.methodLink RX11 117 ⟨"TwiceAsRich$House", "weekly", "()I"⟩, Cond.sameMethod "TwiceAsRich$House" "TwiceAsRich$House" "weekly" "()I", Cond.instanceMethod ⟨"TwiceAsRich$House", "weekly", "()I"⟩, Cond.selects RX0 ⟨"TwiceAsRich$House", "weekly", "()I"⟩ yX0_weekly, Cond.instanceMethod yX0_weekly, Cond.code yX0_weekly cX0_weekly 1 (some .int), Cond.methodLink RX0 17 yX6_weekly, Cond.sameMethod "TwiceAsRich$Priest" "TwiceAsRich$Priest" "weekly" "()I", Cond.instanceMethod yX6_weekly, Cond.code yX6_weekly cX6_weekly 1 (some .int), Cond.methodLink RX6 11 yX3_weekly, Cond.instanceMethod yX3_weekly, Cond.code yX3_weekly cX3_weekly 1 (some .int), Cond.selects RX1 ⟨"TwiceAsRich$House", "weekly", "()I"⟩ yX1_weekly, Cond.instanceMethod yX1_weekly, Cond.code yX1_weekly cX1_weekly 1 (some .int), Cond.fieldLink RX1 11 "TwiceAsRich$Blind" "figure" "I", Cond.sameField "TwiceAsRich$Blind" "TwiceAsRich$House" "figure" "I", Cond.methodLink RX1 7 yX10_weekly, Cond.sameMethod "TwiceAsRich$Wall" "TwiceAsRich$Wall" "weekly" "()I"]
def wsL_law0_r22 : List Cond := [Cond.superclass RX1 RX10, Cond.instanceMethod yX10_weekly, Cond.code yX10_weekly cX10_weekly 1 (some .int), Cond.selects RX2 ⟨"TwiceAsRich$House", "weekly", "()I"⟩ yX2_weekly, Cond.instanceMethod yX2_weekly, Cond.code yX2_weekly cX2_weekly 1 (some .int), Cond.methodLink RX2 17 yX3_weekly, Cond.methodLink RX11 117 yX3_weekly, Cond.selects RX3 yX3_weekly yX3_weekly, Cond.selects RX4 ⟨"TwiceAsRich$House", "weekly", "()I"⟩ yX4_weekly, Cond.instanceMethod yX4_weekly, Cond.code yX4_weekly cX4_weekly 1 (some .int), Cond.methodLink RX4 20 yX2_weekly, Cond.sameMethod "TwiceAsRich$Heir" "TwiceAsRich$Heir" "weekly" "()I", Cond.selects RX6 ⟨"TwiceAsRich$House", "weekly", "()I"⟩ yX6_weekly, Cond.selects RX9 ⟨"TwiceAsRich$House", "weekly", "()I"⟩ yX9_weekly, Cond.instanceMethod yX9_weekly, Cond.code yX9_weekly cX9_weekly 1 (some .int), Cond.methodLink RX9 11 yX2_weekly, Cond.selects RX10 ⟨"TwiceAsRich$House", "weekly", "()I"⟩ yX10_weekly, Cond.methodLink RL 30 yX12_house, Cond.instanceMethod yX12_house, Cond.selects RX12 yX12_house yX12_house, Cond.code yX12_house cX12_house 3 (some .int)]
def wsL_law0_r23 : List Cond := [Cond.methodLink RX12 81 yX12_isLookedAt, Cond.instanceMethod yX12_isLookedAt, Cond.selects RX12 yX12_isLookedAt yX12_isLookedAt, Cond.code yX12_isLookedAt cX12_isLookedAt 2 (some .boolean), Cond.methodLink RX12 72 yX12_kind, Cond.instanceMethod yX12_kind, Cond.selects RX12 yX12_kind yX12_kind, Cond.code yX12_kind cX12_kind 2 (some .int), Cond.methodLink RX12 84 yX12_shows, Cond.instanceMethod yX12_shows, Cond.selects RX12 yX12_shows yX12_shows, Cond.code yX12_shows cX12_shows 3 (some .int), Cond.methodLink RX12 75 yX12_figure, Cond.instanceMethod yX12_figure, Cond.selects RX12 yX12_figure yX12_figure, Cond.code yX12_figure cX12_figure 2 (some .int), Cond.methodLink RX12 167 yX12_mostOf, Cond.instanceMethod yX12_mostOf, Cond.selects RX12 yX12_mostOf yX12_mostOf, Cond.code yX12_mostOf cX12_mostOf 6 (some .int), Cond.methodLink RX12 78 yX12_beside, Cond.instanceMethod yX12_beside, Cond.selects RX12 yX12_beside yX12_beside, Cond.code yX12_beside cX12_beside 5 (some .int)]
def wsL_law0_r24 : List Cond := [Cond.methodLink RX12 87 yX12_mayHave, Cond.instanceMethod yX12_mayHave, Cond.selects RX12 yX12_mayHave yX12_mayHave, Cond.code yX12_mayHave cX12_mayHave 4 (some .int), Cond.methodLink RX12 170 yX12_earnsBy, Cond.static yX12_earnsBy, Cond.code yX12_earnsBy cX12_earnsBy 2 (some .int), Cond.methodLink RL 31 yX11_comes, Cond.instanceMethod yX11_comes, Cond.selects RX11 yX11_comes yX11_comes, Cond.code yX11_comes cX11_comes 4 (some .int), Cond.fieldLink RX11 126 "TwiceAsRich$Street" "count" "I", Cond.methodLink RX11 120 yX11_isPurse, Cond.static yX11_isPurse, Cond.code yX11_isPurse cX11_isPurse 1 (some .boolean), Cond.methodLink RX11 123 yX11_houseRefusal, Cond.instanceMethod yX11_houseRefusal, Cond.selects RX11 yX11_houseRefusal yX11_houseRefusal, Cond.code yX11_houseRefusal cX11_houseRefusal 2 (some .int), Cond.methodLink RX11 129 yX7_insert, Cond.methodLink RL 34 yX12_comes, Cond.instanceMethod yX12_comes, Cond.selects RX12 yX12_comes yX12_comes, Cond.code yX12_comes cX12_comes 4 (some .int)]
def wsL_law0_r25 : List Cond := [Cond.constantLong RX12 173 (9999), Cond.methodLink RX12 175 yX12_wrongKept, Cond.instanceMethod yX12_wrongKept, Cond.selects RX12 yX12_wrongKept yX12_wrongKept, Cond.code yX12_wrongKept cX12_wrongKept 2 (some .int), Cond.methodLink RL 35 yX11_round, Cond.instanceMethod yX11_round, Cond.selects RX11 yX11_round yX11_round, Cond.code yX11_round cX11_round 3 (some .int), Cond.fieldLink RX11 133 "TwiceAsRich$Street" "round" "I", Cond.methodLink RL 38 yX12_round, Cond.instanceMethod yX12_round, Cond.selects RX12 yX12_round yX12_round, Cond.code yX12_round cX12_round 3 (some .int), Cond.methodLink RL 39 yX11_give, Cond.instanceMethod yX11_give, Cond.selects RX11 yX11_give yX11_give, Cond.code yX11_give cX11_give 5 (some .int), Cond.methodLink RX11 136 yX7_gift, Cond.methodLink RL 43 yX12_give, Cond.instanceMethod yX12_give, Cond.selects RX12 yX12_give yX12_give, Cond.code yX12_give cX12_give 5 (some .int), Cond.methodLink RL 44 yX11_weeks]
def wsL_law0_r26 : List Cond := [Cond.instanceMethod yX11_weeks, Cond.selects RX11 yX11_weeks yX11_weeks, Cond.code yX11_weeks cX11_weeks 2 (some .int), Cond.methodLink RX11 140 yX7_earn, Cond.instanceMethod yX7_earn, Cond.selects RX7 yX7_earn yX7_earn, Cond.code yX7_earn cX7_earn 3 none, Cond.methodLink RX7 65 ⟨"TwiceAsRich$House", "weekly", "()I"⟩, Cond.methodLink RX7 65 yX3_weekly, Cond.methodLink RX11 143 yX7_allCoins, Cond.instanceMethod yX7_allCoins, Cond.selects RX7 yX7_allCoins yX7_allCoins, Cond.code yX7_allCoins cX7_allCoins 3 (some .int), Cond.methodLink RL 47 yX12_weeks, Cond.instanceMethod yX12_weeks, Cond.selects RX12 yX12_weeks yX12_weeks, Cond.code yX12_weeks cX12_weeks 4 (some .int), Cond.constantLong RX12 178 (99), Cond.methodLink RX12 180 yX12_coins, Cond.instanceMethod yX12_coins, Cond.selects RX12 yX12_coins yX12_coins, Cond.code yX12_coins cX12_coins 3 (some .int), Cond.methodLink RL 48 yX11_lawful, Cond.instanceMethod yX11_lawful]
def wsL_law0_r27 : List Cond := [Cond.selects RX11 yX11_lawful yX11_lawful, Cond.code yX11_lawful cX11_lawful 1 (some .int), Cond.methodLink RX11 146 yX7_allBreaches, Cond.instanceMethod yX7_allBreaches, Cond.selects RX7 yX7_allBreaches yX7_allBreaches, Cond.code yX7_allBreaches cX7_allBreaches 3 (some .int), Cond.methodLink RX7 62 yX7_breachesOf, Cond.instanceMethod yX7_breachesOf, Cond.selects RX7 yX7_breachesOf yX7_breachesOf, Cond.code yX7_breachesOf cX7_breachesOf 3 (some .int), Cond.methodLink RL 52 yX12_lawful, Cond.instanceMethod yX12_lawful, Cond.selects RX12 yX12_lawful yX12_lawful, Cond.code yX12_lawful cX12_lawful 1 (some .int), Cond.methodLink RX12 183 yX12_isLawful, Cond.instanceMethod yX12_isLawful, Cond.selects RX12 yX12_isLawful yX12_isLawful, Cond.code yX12_isLawful cX12_isLawful 1 (some .boolean), Cond.methodLink RX12 99 yX12_breachesAll, Cond.instanceMethod yX12_breachesAll, Cond.selects RX12 yX12_breachesAll yX12_breachesAll, Cond.code yX12_breachesAll cX12_breachesAll 3 (some .int), Cond.methodLink RX12 96 yX12_breachesOf, Cond.instanceMethod yX12_breachesOf]
def wsL_law0_r28 : List Cond := [Cond.selects RX12 yX12_breachesOf yX12_breachesOf, Cond.code yX12_breachesOf cX12_breachesOf 2 (some .int), Cond.methodLink RX12 90 yX12_tooMuchBy, Cond.instanceMethod yX12_tooMuchBy, Cond.selects RX12 yX12_tooMuchBy yX12_tooMuchBy, Cond.code yX12_tooMuchBy cX12_tooMuchBy 6 (some .int), Cond.methodLink RX12 93 yX12_bits, Cond.static yX12_bits, Cond.code yX12_bits cX12_bits 3 (some .int), Cond.methodLink RL 53 yX11_breaches, Cond.instanceMethod yX11_breaches, Cond.selects RX11 yX11_breaches yX11_breaches, Cond.code yX11_breaches cX11_breaches 2 (some .int), Cond.methodLink RX11 149 yX7_breachesOf, Cond.methodLink RL 56 yX12_breaches, Cond.instanceMethod yX12_breaches, Cond.selects RX12 yX12_breaches yX12_breaches, Cond.code yX12_breaches cX12_breaches 2 (some .int), Cond.methodLink RL 57 yX11_held, Cond.instanceMethod yX11_held, Cond.selects RX11 yX11_held yX11_held, Cond.code yX11_held cX11_held 2 (some .int), Cond.methodLink RX11 152 yX7_holdersOf, Cond.instanceMethod yX7_holdersOf]
def wsL_law0_r29 : List Cond := [Cond.selects RX7 yX7_holdersOf yX7_holdersOf, Cond.code yX7_holdersOf cX7_holdersOf 5 (some .int), Cond.methodLink RL 60 yX12_held, Cond.instanceMethod yX12_held, Cond.selects RX12 yX12_held yX12_held, Cond.code yX12_held cX12_held 2 (some .int), Cond.methodLink RL 61 yX11_free, Cond.instanceMethod yX11_free, Cond.selects RX11 yX11_free yX11_free, Cond.code yX11_free cX11_free 3 (some .int), Cond.methodLink RL 64 yX12_free, Cond.instanceMethod yX12_free, Cond.selects RX12 yX12_free yX12_free, Cond.code yX12_free cX12_free 3 (some .int), Cond.methodLink RL 65 yX11_partings, Cond.instanceMethod yX11_partings, Cond.selects RX11 yX11_partings yX11_partings, Cond.code yX11_partings cX11_partings 3 (some .int), Cond.fieldLink RX11 162 "TwiceAsRich$Partings" "ways" "I", Cond.methodLink RX11 155 yX11_partingRefusal, Cond.instanceMethod yX11_partingRefusal, Cond.selects RX11 yX11_partingRefusal yX11_partingRefusal, Cond.code yX11_partingRefusal cX11_partingRefusal 2 (some .int), Cond.methodLink RX11 158 yX5_search]
def wsL_law0_r30 : List Cond := [Cond.instanceMethod yX5_search, Cond.selects RX5 yX5_search yX5_search, Cond.code yX5_search cX5_search 4 none, Cond.fieldLink RX5 30 "TwiceAsRich$Partings" "ways" "I", Cond.fieldLink RX5 34 "TwiceAsRich$Partings" "uneven" "I", Cond.fieldLink RX5 37 "TwiceAsRich$Partings" "hands" "I", Cond.fieldLink RX5 40 "TwiceAsRich$Partings" "moved" "I", Cond.fieldLink RX5 49 "TwiceAsRich$Street" "count" "I", Cond.fieldLink RX5 56 "TwiceAsRich$Street" "purses" "[I", Cond.methodLink RX5 59 arraycopyName, Cond.native arraycopyName, Cond.static arraycopyName, Cond.initialized "java/lang/System", Cond.methodLink RX5 43 yJ7_fill_53178, Cond.methodLink RX5 52 yX7_become, Cond.methodLink RX5 65 yX7_behind, Cond.methodLink RX5 69 yX5_noteWhatSuits, Cond.instanceMethod yX5_noteWhatSuits, Cond.selects RX5 yX5_noteWhatSuits yX5_noteWhatSuits, Cond.code yX5_noteWhatSuits cX5_noteWhatSuits 6 none, Cond.methodLink RX5 77 yX7_limitBy, Cond.methodLink RX5 73 yX5_part, Cond.instanceMethod yX5_part, Cond.selects RX5 yX5_part yX5_part]
def wsL_law0_r31 : List Cond := [Cond.code yX5_part cX5_part 6 none, Cond.methodLink RX5 88 Lib.Math.max.name, Cond.methodLink RX5 81 yX5_isClosedWell, Cond.instanceMethod yX5_isClosedWell, Cond.selects RX5 yX5_isClosedWell yX5_isClosedWell, Cond.code yX5_isClosedWell cX5_isClosedWell 1 (some .boolean), Cond.methodLink RX5 97 yX7_isClosed, Cond.methodLink RX5 93 yX5_suit, Cond.instanceMethod yX5_suit, Cond.selects RX5 yX5_suit yX5_suit, Cond.code yX5_suit cX5_suit 3 (some .boolean), Cond.methodLink RX5 85 yX5_note, Cond.instanceMethod yX5_note, Cond.selects RX5 yX5_note yX5_note, Cond.code yX5_note cX5_note 2 none, Cond.methodLink RX5 107 Lib.Math.min.name, Cond.methodLink RX5 100 yX5_difference, Cond.instanceMethod yX5_difference, Cond.selects RX5 yX5_difference yX5_difference, Cond.code yX5_difference cX5_difference 4 (some .int), Cond.methodLink RX5 104 yX5_handed, Cond.instanceMethod yX5_handed, Cond.selects RX5 yX5_handed yX5_handed, Cond.code yX5_handed cX5_handed 4 (some .int)]
def wsL_law0_r32 : List Cond := [Cond.methodLink RX5 113 Lib.Math.abs.name, Cond.static Lib.Math.abs.name, Cond.code Lib.Math.abs.name Lib.Math.abs.code 1 (some .int), Cond.methodLink RX5 110 yX5_moving, Cond.instanceMethod yX5_moving, Cond.selects RX5 yX5_moving yX5_moving, Cond.code yX5_moving cX5_moving 3 (some .int), Cond.methodLink RL 68 yX12_partings, Cond.instanceMethod yX12_partings, Cond.selects RX12 yX12_partings yX12_partings, Cond.code yX12_partings cX12_partings 3 (some .int), Cond.fieldLink RX12 186 "TwiceAsRichModel" "ways" "I", Cond.methodLink RX12 216 yX12_wrongParting, Cond.instanceMethod yX12_wrongParting, Cond.selects RX12 yX12_wrongParting yX12_wrongParting, Cond.code yX12_wrongParting cX12_wrongParting 2 (some .int), Cond.constantLong RX12 214 (20), Cond.methodLink RX12 219 yX12_partsAll, Cond.instanceMethod yX12_partsAll, Cond.selects RX12 yX12_partsAll yX12_partsAll, Cond.code yX12_partsAll cX12_partsAll 4 none, Cond.fieldLink RX12 189 "TwiceAsRichModel" "uneven" "I", Cond.fieldLink RX12 192 "TwiceAsRichModel" "most" "I", Cond.fieldLink RX12 195 "TwiceAsRichModel" "fewestHands" "I"]
def wsL_law0_r33 : List Cond := [Cond.fieldLink RX12 198 "TwiceAsRichModel" "fewestAny" "I", Cond.methodLink RX12 208 yX12_begins, Cond.instanceMethod yX12_begins, Cond.selects RX12 yX12_begins yX12_begins, Cond.code yX12_begins cX12_begins 1 none, Cond.methodLink RX12 205 yX12_parts, Cond.instanceMethod yX12_parts, Cond.selects RX12 yX12_parts yX12_parts, Cond.code yX12_parts cX12_parts 7 none, Cond.methodLink RX12 201 yX12_partsAre, Cond.instanceMethod yX12_partsAre, Cond.selects RX12 yX12_partsAre yX12_partsAre, Cond.code yX12_partsAre cX12_partsAre 9 none, Cond.methodLink RX12 211 yX12_ends, Cond.instanceMethod yX12_ends, Cond.selects RX12 yX12_ends yX12_ends, Cond.code yX12_ends cX12_ends 1 none, Cond.methodLink RL 69 yX11_uneven, Cond.instanceMethod yX11_uneven, Cond.selects RX11 yX11_uneven yX11_uneven, Cond.code yX11_uneven cX11_uneven 3 (some .int), Cond.fieldLink RX11 165 "TwiceAsRich$Partings" "uneven" "I", Cond.methodLink RL 72 yX12_uneven, Cond.instanceMethod yX12_uneven]
def wsL_law0_r34 : List Cond := [Cond.selects RX12 yX12_uneven yX12_uneven, Cond.code yX12_uneven cX12_uneven 3 (some .int), Cond.methodLink RL 73 yX11_richest, Cond.instanceMethod yX11_richest, Cond.selects RX11 yX11_richest yX11_richest, Cond.code yX11_richest cX11_richest 4 (some .int), Cond.fieldLink RX11 168 "TwiceAsRich$Partings" "richest" "[I", Cond.methodLink RL 76 yX12_richest, Cond.instanceMethod yX12_richest, Cond.selects RX12 yX12_richest yX12_richest, Cond.code yX12_richest cX12_richest 4 (some .int), Cond.methodLink RL 77 yX11_hands, Cond.instanceMethod yX11_hands, Cond.selects RX11 yX11_hands yX11_hands, Cond.code yX11_hands cX11_hands 1 (some .int), Cond.fieldLink RX11 174 "TwiceAsRich$Partings" "hands" "I", Cond.methodLink RX11 171 yX11_canBeParted, Cond.instanceMethod yX11_canBeParted, Cond.selects RX11 yX11_canBeParted yX11_canBeParted, Cond.code yX11_canBeParted cX11_canBeParted 1 (some .boolean), Cond.methodLink RL 80 yX12_hands, Cond.instanceMethod yX12_hands, Cond.selects RX12 yX12_hands yX12_hands, Cond.code yX12_hands cX12_hands 1 (some .int)]
def wsL_law0_r35 : List Cond := [Cond.methodLink RX12 222 yX12_tooMany, Cond.instanceMethod yX12_tooMany, Cond.selects RX12 yX12_tooMany yX12_tooMany, Cond.code yX12_tooMany cX12_tooMany 1 (some .boolean), Cond.methodLink RL 81 yX11_any, Cond.instanceMethod yX11_any, Cond.selects RX11 yX11_any yX11_any, Cond.code yX11_any cX11_any 1 (some .int), Cond.fieldLink RX11 177 "TwiceAsRich$Partings" "moved" "I", Cond.methodLink RL 84 yX12_any, Cond.instanceMethod yX12_any, Cond.selects RX12 yX12_any yX12_any, Cond.code yX12_any cX12_any 1 (some .int), Cond.methodLink RL 85 yX11_change, Cond.instanceMethod yX11_change, Cond.selects RX11 yX11_change yX11_change, Cond.code yX11_change cX11_change 7 (some .int), Cond.methodLink RX11 180 yX7_exchange, Cond.methodLink RL 88 yX12_change, Cond.instanceMethod yX12_change, Cond.selects RX12 yX12_change yX12_change, Cond.code yX12_change cX12_change 7 (some .int), Cond.methodLink RL 89 yX11_wedding, Cond.instanceMethod yX11_wedding]
def wsL_law0_r36 : List Cond := [Cond.selects RX11 yX11_wedding yX11_wedding, Cond.code yX11_wedding cX11_wedding 2 (some .int), Cond.methodLink RX11 184 Lib.Math.min.name, Cond.methodLink RX11 189 yX7_remove, Cond.methodLink RL 92 yX12_wedding, Cond.instanceMethod yX12_wedding, Cond.selects RX12 yX12_wedding yX12_wedding, Cond.code yX12_wedding cX12_wedding 4 (some .int), Cond.methodLink RL 93 yX11_worth, Cond.instanceMethod yX11_worth, Cond.selects RX11 yX11_worth yX11_worth, Cond.code yX11_worth cX11_worth 3 (some .int), Cond.constant RX11 192 (-1000000001), Cond.methodLink RL 96 yX12_worth, Cond.instanceMethod yX12_worth, Cond.selects RX12 yX12_worth yX12_worth, Cond.code yX12_worth cX12_worth 5 (some .int), Cond.constant RX12 225 (-1000000001), Cond.methodLink RL 97 yX11_fitting, Cond.instanceMethod yX11_fitting, Cond.selects RX11 yX11_fitting yX11_fitting, Cond.code yX11_fitting cX11_fitting 7 (some .int), Cond.methodLink RL 100 yX12_fitting, Cond.instanceMethod yX12_fitting]
def wsL_law0_r37 : List Cond := [Cond.selects RX12 yX12_fitting yX12_fitting, Cond.code yX12_fitting cX12_fitting 7 (some .int), Cond.constantLong RX12 226 (2), Cond.methodLink RL 101 yX11_given, Cond.instanceMethod yX11_given, Cond.selects RX11 yX11_given yX11_given, Cond.code yX11_given cX11_given 6 (some .int), Cond.methodLink RX11 193 yX11_areGifts, Cond.instanceMethod yX11_areGifts, Cond.selects RX11 yX11_areGifts yX11_areGifts, Cond.code yX11_areGifts cX11_areGifts 4 (some .boolean), Cond.methodLink RX11 278 yX7_hasTwo, Cond.methodLink RL 104 yX12_given, Cond.instanceMethod yX12_given, Cond.selects RX12 yX12_given yX12_given, Cond.code yX12_given cX12_given 6 (some .int), Cond.methodLink RX12 228 yX12_toldAt, Cond.instanceMethod yX12_toldAt, Cond.selects RX12 yX12_toldAt yX12_toldAt, Cond.code yX12_toldAt cX12_toldAt 3 (some .int), Cond.methodLink RL 105 yX11_tax, Cond.instanceMethod yX11_tax, Cond.selects RX11 yX11_tax yX11_tax, Cond.code yX11_tax cX11_tax 4 (some .int)]
def wsL_law0_r38 : List Cond := [Cond.methodLink RL 108 yX12_tax, Cond.instanceMethod yX12_tax, Cond.selects RX12 yX12_tax yX12_tax, Cond.code yX12_tax cX12_tax 4 (some .int), Cond.methodLink RL 109 yX11_seeded, Cond.instanceMethod yX11_seeded, Cond.selects RX11 yX11_seeded yX11_seeded, Cond.code yX11_seeded cX11_seeded 8 (some .int), Cond.methodLink RX11 197 yX11_nextDraw, Cond.static yX11_nextDraw, Cond.code yX11_nextDraw cX11_nextDraw 1 (some .int), Cond.constant RX11 282 (1103515245), Cond.methodLink RX11 200 yX11_drawnBelow, Cond.static yX11_drawnBelow, Cond.code yX11_drawnBelow cX11_drawnBelow 2 (some .int), Cond.constant RX11 283 (2147483647), Cond.constant RX11 284 (65536), Cond.methodLink RX11 203 yX7_ahead, Cond.methodLink RX11 206 yX7_behind, Cond.methodLink RX11 209 yX7_steal, Cond.instanceMethod yX7_steal, Cond.selects RX7 yX7_steal yX7_steal, Cond.code yX7_steal cX7_steal 3 none, Cond.methodLink RL 112 yX12_seeded]
def wsL_law0_r39 : List Cond := [Cond.instanceMethod yX12_seeded, Cond.selects RX12 yX12_seeded yX12_seeded, Cond.code yX12_seeded cX12_seeded 8 (some .int), Cond.constantLong RX12 237 (40), Cond.fieldLink RX12 231 "TwiceAsRichModel" "seed" "I", Cond.methodLink RX12 239 yX12_drawn, Cond.instanceMethod yX12_drawn, Cond.selects RX12 yX12_drawn yX12_drawn, Cond.code yX12_drawn cX12_drawn 2 (some .int), Cond.constant RX12 234 (1103515245), Cond.constant RX12 235 (2147483647), Cond.constant RX12 236 (65536), Cond.methodLink RL 113 yX11_judge, Cond.instanceMethod yX11_judge, Cond.selects RX11 yX11_judge yX11_judge, Cond.code yX11_judge cX11_judge 6 (some .int), Cond.methodLink RX11 215 yX11_leastOf, Cond.static yX11_leastOf, Cond.code yX11_leastOf cX11_leastOf 1 (some .int), Cond.constant RX11 281 (-2147483648), Cond.methodLink RL 116 yX12_judge, Cond.instanceMethod yX12_judge, Cond.selects RX12 yX12_judge yX12_judge, Cond.code yX12_judge cX12_judge 5 (some .int)]
def wsL_law0_r40 : List Cond := [Cond.constant RX12 242 (-2147483648), Cond.methodLink RL 117 yX11_image, Cond.instanceMethod yX11_image, Cond.selects RX11 yX11_image yX11_image, Cond.code yX11_image cX11_image 1 (some .int), Cond.fieldLink RX11 218 "TwiceAsRich" "imageTaken" "Z", Cond.methodLink RL 120 yX12_image, Cond.instanceMethod yX12_image, Cond.selects RX12 yX12_image yX12_image, Cond.code yX12_image cX12_image 1 (some .int), Cond.fieldLink RX12 243 "TwiceAsRichModel" "hasImage" "Z", Cond.methodLink RL 121 yX11_restore, Cond.instanceMethod yX11_restore, Cond.selects RX11 yX11_restore yX11_restore, Cond.code yX11_restore cX11_restore 1 (some .int), Cond.methodLink RL 124 yX12_restore, Cond.instanceMethod yX12_restore, Cond.selects RX12 yX12_restore yX12_restore, Cond.code yX12_restore cX12_restore 1 (some .int), Cond.methodLink RL 125 yX11_count, Cond.instanceMethod yX11_count, Cond.selects RX11 yX11_count yX11_count, Cond.code yX11_count cX11_count 2 (some .int), Cond.methodLink RX11 222 yX7_housesWithoutBreach]
def wsL_law0_r41 : List Cond := [Cond.instanceMethod yX7_housesWithoutBreach, Cond.selects RX7 yX7_housesWithoutBreach yX7_housesWithoutBreach, Cond.code yX7_housesWithoutBreach cX7_housesWithoutBreach 3 (some .int), Cond.methodLink RL 128 yX12_count, Cond.instanceMethod yX12_count, Cond.selects RX12 yX12_count yX12_count, Cond.code yX12_count cX12_count 4 (some .int), Cond.methodLink RL 129 yX11_keep, Cond.instanceMethod yX11_keep, Cond.selects RX11 yX11_keep yX11_keep, Cond.code yX11_keep cX11_keep 5 (some .int), Cond.methodLink RX11 228 yX11_isHouse, Cond.methodLink RX11 232 yX11_houseOfKind, Cond.methodLink RL 133 yX12_keep, Cond.instanceMethod yX12_keep, Cond.selects RX12 yX12_keep yX12_keep, Cond.code yX12_keep cX12_keep 5 (some .int), Cond.constantLong RX12 247 (9), Cond.methodLink RL 134 yX11_row, Cond.instanceMethod yX11_row, Cond.selects RX11 yX11_row yX11_row, Cond.code yX11_row cX11_row 4 (some .int), Cond.methodLink RL 137 yX12_row, Cond.instanceMethod yX12_row]
def wsL_law0_r42 : List Cond := [Cond.selects RX12 yX12_row yX12_row, Cond.code yX12_row cX12_row 5 (some .int), Cond.methodLink RL 138 yX11_put, Cond.instanceMethod yX11_put, Cond.selects RX11 yX11_put yX11_put, Cond.code yX11_put cX11_put 5 (some .int), Cond.methodLink RX11 236 yX11_isPlace, Cond.instanceMethod yX11_isPlace, Cond.selects RX11 yX11_isPlace yX11_isPlace, Cond.code yX11_isPlace cX11_isPlace 3 (some .boolean), Cond.methodLink RX11 239 yX11_lowestBits, Cond.static yX11_lowestBits, Cond.code yX11_lowestBits cX11_lowestBits 2 (some .int), Cond.methodLink RL 141 yX12_put, Cond.instanceMethod yX12_put, Cond.selects RX12 yX12_put yX12_put, Cond.code yX12_put cX12_put 5 (some .int), Cond.methodLink RL 142 yL_element, Cond.static yL_element, Cond.initialized RL, Cond.codeWith yL_element cL_element 5 (some .int) [(0, 9, 12, 13), (0, 9, 16, 15)], Cond.classLink RL 13 "java/lang/IllegalArgumentException", Cond.classLink RL 15 "java/lang/IllegalStateException", Cond.methodLink RL 7 yX11_element]
def wsL_law0_r43 : List Cond := [Cond.instanceMethod yX11_element, Cond.selects RX11 yX11_element yX11_element, Cond.code yX11_element cX11_element 3 (some .long), Cond.classLink RX11 242 "java/lang/IllegalArgumentException", Cond.initialized "java/lang/IllegalArgumentException", Cond.classLink RX11 249 "java/lang/IllegalStateException", Cond.initialized "java/lang/IllegalStateException", Cond.methodLink RL 147 yX12_element, Cond.instanceMethod yX12_element, Cond.selects RX12 yX12_element yX12_element, Cond.code yX12_element cX12_element 3 (some .long), Cond.fieldLink RX12 46 "TwiceAsRichModel" "thrown" "I", Cond.methodLink RL 148 yX12_thrown, Cond.instanceMethod yX12_thrown, Cond.selects RX12 yX12_thrown yX12_thrown, Cond.code yX12_thrown cX12_thrown 1 (some .int), Cond.methodLink RL 151 yX11_copy, Cond.instanceMethod yX11_copy, Cond.selects RX11 yX11_copy yX11_copy, Cond.code yX11_copy cX11_copy 6 (some .int), Cond.methodLink RX11 261 arraycopyName, Cond.methodLink RX11 257 yX11_isStretch, Cond.instanceMethod yX11_isStretch, Cond.selects RX11 yX11_isStretch yX11_isStretch]
def wsL_law0_r44 : List Cond := [Cond.code yX11_isStretch cX11_isStretch 4 (some .boolean), Cond.methodLink RL 155 yX12_copy, Cond.instanceMethod yX12_copy, Cond.selects RX12 yX12_copy yX12_copy, Cond.code yX12_copy cX12_copy 8 (some .int), Cond.methodLink RL 156 yX11_fee, Cond.instanceMethod yX11_fee, Cond.selects RX11 yX11_fee yX11_fee, Cond.code yX11_fee cX11_fee 3 (some .int), Cond.methodLink RX11 267 ⟨"TwiceAsRich$House", "price", "()I"⟩, Cond.sameMethod "TwiceAsRich$House" "TwiceAsRich$House" "price" "()I", Cond.instanceMethod ⟨"TwiceAsRich$House", "price", "()I"⟩, Cond.selects RX0 ⟨"TwiceAsRich$House", "price", "()I"⟩ yX0_price, Cond.instanceMethod yX0_price, Cond.code yX0_price cX0_price 1 (some .int), Cond.methodLink RX0 21 yX6_price, Cond.sameMethod "TwiceAsRich$Priest" "TwiceAsRich$Priest" "price" "()I", Cond.instanceMethod yX6_price, Cond.code yX6_price cX6_price 1 (some .int), Cond.methodLink RX6 15 yX3_price, Cond.instanceMethod yX3_price, Cond.code yX3_price cX3_price 1 (some .int), Cond.selects RX1 ⟨"TwiceAsRich$House", "price", "()I"⟩ yX1_price, Cond.instanceMethod yX1_price]
def wsL_law0_r45 : List Cond := [Cond.code yX1_price cX1_price 1 (some .int), Cond.methodLink RX1 17 yX10_price, Cond.sameMethod "TwiceAsRich$Wall" "TwiceAsRich$Wall" "price" "()I", Cond.instanceMethod yX10_price, Cond.code yX10_price cX10_price 1 (some .int), Cond.methodLink RX10 9 yX3_price, Cond.superclass RX10 RX3, Cond.selects RX2 ⟨"TwiceAsRich$House", "price", "()I"⟩ yX2_price, Cond.instanceMethod yX2_price, Cond.code yX2_price cX2_price 1 (some .int), Cond.methodLink RX2 21 yX3_price, Cond.methodLink RX11 267 yX3_price, Cond.selects RX3 yX3_price yX3_price, Cond.selects RX4 ⟨"TwiceAsRich$House", "price", "()I"⟩ yX4_price, Cond.instanceMethod yX4_price, Cond.code yX4_price cX4_price 1 (some .int), Cond.methodLink RX4 24 yX2_price, Cond.sameMethod "TwiceAsRich$Heir" "TwiceAsRich$Heir" "price" "()I", Cond.selects RX6 ⟨"TwiceAsRich$House", "price", "()I"⟩ yX6_price, Cond.selects RX9 ⟨"TwiceAsRich$House", "price", "()I"⟩ yX9_price, Cond.instanceMethod yX9_price, Cond.code yX9_price cX9_price 1 (some .int), Cond.fieldLink RX9 18 "TwiceAsRich$Twins" "figure" "I", Cond.sameField "TwiceAsRich$Twins" "TwiceAsRich$House" "figure" "I"]
def wsL_law0_r46 : List Cond := [Cond.methodLink RX9 15 yX2_price, Cond.selects RX10 ⟨"TwiceAsRich$House", "price", "()I"⟩ yX10_price, Cond.methodLink RL 159 yX12_fee, Cond.instanceMethod yX12_fee, Cond.selects RX12 yX12_fee yX12_fee, Cond.code yX12_fee cX12_fee 3 (some .int), Cond.methodLink RX12 249 yX12_feeBy, Cond.static yX12_feeBy, Cond.code yX12_feeBy cX12_feeBy 2 (some .int), Cond.methodLink RL 160 yX11_toss, Cond.instanceMethod yX11_toss, Cond.selects RX11 yX11_toss yX11_toss, Cond.codeWith yX11_toss cX11_toss 5 (some .int) [(29, 33, 36, 276), (29, 33, 47, 242), (29, 33, 57, 249)], Cond.classLink RX11 276 "java/lang/UnsupportedOperationException", Cond.methodLink RX11 270 ⟨"TwiceAsRich$House", "hasFailure", "()Z"⟩, Cond.sameMethod "TwiceAsRich$House" "TwiceAsRich$House" "hasFailure" "()Z", Cond.selects RX0 ⟨"TwiceAsRich$House", "hasFailure", "()Z"⟩ yX3_hasFailure, Cond.instanceMethod yX3_hasFailure, Cond.code yX3_hasFailure cX3_hasFailure 1 (some .boolean), Cond.instanceMethod ⟨"TwiceAsRich$House", "hasFailure", "()Z"⟩, Cond.selects RX1 ⟨"TwiceAsRich$House", "hasFailure", "()Z"⟩ yX1_hasFailure, Cond.instanceMethod yX1_hasFailure, Cond.code yX1_hasFailure cX1_hasFailure 1 (some .boolean), Cond.selects RX2 ⟨"TwiceAsRich$House", "hasFailure", "()Z"⟩ yX3_hasFailure]
def wsL_law0_r47 : List Cond := [Cond.methodLink RX11 270 yX3_hasFailure, Cond.selects RX3 yX3_hasFailure yX3_hasFailure, Cond.selects RX4 ⟨"TwiceAsRich$House", "hasFailure", "()Z"⟩ yX3_hasFailure, Cond.selects RX6 ⟨"TwiceAsRich$House", "hasFailure", "()Z"⟩ yX3_hasFailure, Cond.selects RX9 ⟨"TwiceAsRich$House", "hasFailure", "()Z"⟩ yX3_hasFailure, Cond.selects RX10 ⟨"TwiceAsRich$House", "hasFailure", "()Z"⟩ yX10_hasFailure, Cond.instanceMethod yX10_hasFailure, Cond.code yX10_hasFailure cX10_hasFailure 1 (some .boolean), Cond.methodLink RX11 273 ⟨"TwiceAsRich$House", "fail", "()V"⟩, Cond.sameMethod "TwiceAsRich$House" "TwiceAsRich$House" "fail" "()V", Cond.instanceMethod ⟨"TwiceAsRich$House", "fail", "()V"⟩, Cond.selects RX0 ⟨"TwiceAsRich$House", "fail", "()V"⟩ yX0_fail, Cond.instanceMethod yX0_fail, Cond.code yX0_fail cX0_fail 1 none, Cond.classLink RX0 24 "java/lang/IllegalArgumentException", Cond.code yX3_fail cX3_fail 1 none, Cond.selects RX1 ⟨"TwiceAsRich$House", "fail", "()V"⟩ yX3_fail, Cond.instanceMethod yX3_fail, Cond.classLink RX3 13 "java/lang/IllegalStateException", Cond.selects RX2 ⟨"TwiceAsRich$House", "fail", "()V"⟩ yX3_fail, Cond.methodLink RX11 273 yX3_fail, Cond.selects RX3 yX3_fail yX3_fail, Cond.selects RX4 ⟨"TwiceAsRich$House", "fail", "()V"⟩ yX3_fail, Cond.selects RX6 ⟨"TwiceAsRich$House", "fail", "()V"⟩ yX3_fail]
def wsL_law0_r48 : List Cond := [Cond.selects RX9 ⟨"TwiceAsRich$House", "fail", "()V"⟩ yX9_fail, Cond.instanceMethod yX9_fail, Cond.code yX9_fail cX9_fail 1 none, Cond.classLink RX9 24 "java/lang/UnsupportedOperationException", Cond.initialized "java/lang/UnsupportedOperationException", Cond.selects RX10 ⟨"TwiceAsRich$House", "fail", "()V"⟩ yX3_fail, Cond.methodLink RL 163 yX12_toss, Cond.instanceMethod yX12_toss, Cond.selects RX12 yX12_toss yX12_toss, Cond.code yX12_toss cX12_toss 5 (some .int)]
def wsL_law0 : List Cond := (wsL_law0_r1 ++ (wsL_law0_r2 ++ (wsL_law0_r3 ++ (wsL_law0_r4 ++ (wsL_law0_r5 ++ (wsL_law0_r6 ++ (wsL_law0_r7 ++ (wsL_law0_r8 ++ (wsL_law0_r9 ++ (wsL_law0_r10 ++ (wsL_law0_r11 ++ (wsL_law0_r12 ++ (wsL_law0_r13 ++ (wsL_law0_r14 ++ (wsL_law0_r15 ++ (wsL_law0_r16 ++ (wsL_law0_r17 ++ (wsL_law0_r18 ++ (wsL_law0_r19 ++ (wsL_law0_r20 ++ (wsL_law0_r21 ++ (wsL_law0_r22 ++ (wsL_law0_r23 ++ (wsL_law0_r24 ++ (wsL_law0_r25 ++ (wsL_law0_r26 ++ (wsL_law0_r27 ++ (wsL_law0_r28 ++ (wsL_law0_r29 ++ (wsL_law0_r30 ++ (wsL_law0_r31 ++ (wsL_law0_r32 ++ (wsL_law0_r33 ++ (wsL_law0_r34 ++ (wsL_law0_r35 ++ (wsL_law0_r36 ++ (wsL_law0_r37 ++ (wsL_law0_r38 ++ (wsL_law0_r39 ++ (wsL_law0_r40 ++ (wsL_law0_r41 ++ (wsL_law0_r42 ++ (wsL_law0_r43 ++ (wsL_law0_r44 ++ (wsL_law0_r45 ++ (wsL_law0_r46 ++ (wsL_law0_r47 ++ wsL_law0_r48))))))))))))))))))))))))))))))))))))))))))))))) ++ wsX110 ++ wsX120 ++ wsX70 ++ wsX30 ++ wsX50 ++ wsX80 ++ wsX00 ++ wsX10 ++ wsX20 ++ wsX40 ++ wsX60 ++ wsX90 ++ wsX100 ++ ([] : List Cond)
def wsL_law : List Cond := wsL_law0 ++ (vx_atS RX11 246 "java/lang/IllegalArgumentException" ["java/lang/RuntimeException", "java/lang/Exception"]).filter goodWord ++ (vx_atS RX11 253 "java/lang/IllegalStateException" ["java/lang/RuntimeException", "java/lang/Exception"]).filter goodWord ++ (vx_at0 RX0 26 "java/lang/IllegalArgumentException" ["java/lang/RuntimeException", "java/lang/Exception"]).filter goodWord ++ (vx_at0 RX3 15 "java/lang/IllegalStateException" ["java/lang/RuntimeException", "java/lang/Exception"]).filter goodWord ++ (vx_at0 RX9 26 "java/lang/UnsupportedOperationException" ["java/lang/RuntimeException", "java/lang/Exception"]).filter goodWord
set_option maxRecDepth 20000 in
theorem wsL_law_in0 : ∀ w ∈ wsL_law0, w ∈ lw_tbl := fun w h => (goodIn_p wsL_law0 [88, 91, 96, 126, 145, 185, 200, 1011, 238, 242, 246, 249, 253, 257, 260, 264, 268, 272, 275, 278, 281, 284, 287, 291, 295, 299, 303, 307, 310, 313, 316, 321, 329, 337, 345, 353, 361, 369, 376, 379, 383, 387, 391, 394, 399, 402, 406, 410, 1093, 1097, 1100, 1104, 1108, 1112, 1116, 1121, 1125, 1129, 1133, 1137, 1141, 1145, 1149, 1153, 1157, 1161, 1165, 1169, 414, 422, 441, 425, 428, 431, 434, 437, 440, 457, 449, 456, 464, 467, 480, 473, 484, 488, 492, 496, 525, 507, 510, 514, 518, 522, 529, 537, 540, 562, 544, 547, 550, 554, 559, 1173, 1177, 1181, 1185, 1189, 1193, 1197, 1201, 1204, 566, 569, 573, 1208, 1213, 578, 1217, 582, 1221, 587, 591, 596, 1225, 1230, 600, 604, 608, 1234, 1238, 1242, 1246, 1250, 1253, 612, 1257, 617, 621, 1261, 625, 1265, 629, 633, 637, 647, 652, 656, 661, 665, 669, 675, 678, 682, 1269, 1273, 1278, 1282, 1286, 1290, 1294, 686, 1298, 690, 1302, 694, 698, 1306, 1310, 702, 1314, 706, 1318, 711, 1322, 717, 1326, 722, 1331, 726, 730, 1336, 1340, 735, 1344, 739, 742, 746, 754, 1348, 1353, 758, 761, 1360, 766, 1365, 770, 1369, 774, 778, 1373, 782, 1377, 788, 1382, 792, 796, 799, 1386, 987, 1390, 1089, 803, 807, 1394, 812, 819, 822, 845, 826, 829, 833, 837, 842, 1398, 1401, 868, 860, 867, 875, 963, 946, 1405] (by decide +kernel) (by decide +kernel) w h).1
theorem wsL_law_x0 : ∀ w ∈ (vx_atS RX11 246 "java/lang/IllegalArgumentException" ["java/lang/RuntimeException", "java/lang/Exception"]).filter goodWord, w ∈ lw_tbl := by decide +kernel
theorem wsL_law_x1 : ∀ w ∈ (vx_atS RX11 253 "java/lang/IllegalStateException" ["java/lang/RuntimeException", "java/lang/Exception"]).filter goodWord, w ∈ lw_tbl := by decide +kernel
theorem wsL_law_x2 : ∀ w ∈ (vx_at0 RX0 26 "java/lang/IllegalArgumentException" ["java/lang/RuntimeException", "java/lang/Exception"]).filter goodWord, w ∈ lw_tbl := by decide +kernel
theorem wsL_law_x3 : ∀ w ∈ (vx_at0 RX3 15 "java/lang/IllegalStateException" ["java/lang/RuntimeException", "java/lang/Exception"]).filter goodWord, w ∈ lw_tbl := by decide +kernel
theorem wsL_law_x4 : ∀ w ∈ (vx_at0 RX9 26 "java/lang/UnsupportedOperationException" ["java/lang/RuntimeException", "java/lang/Exception"]).filter goodWord, w ∈ lw_tbl := by decide +kernel
theorem wsL_law_in : ∀ w ∈ wsL_law, w ∈ lw_tbl := fun w h => (List.mem_append.mp h).elim (fun h => (List.mem_append.mp h).elim (fun h => (List.mem_append.mp h).elim (fun h => (List.mem_append.mp h).elim (fun h => (List.mem_append.mp h).elim (fun h => wsL_law_in0 w h) (fun h => wsL_law_x0 w h)) (fun h => wsL_law_x1 w h)) (fun h => wsL_law_x2 w h)) (fun h => wsL_law_x3 w h)) (fun h => wsL_law_x4 w h)
theorem inlX0 : ∀ w ∈ wsX00, w ∈ wsL_law := fun _ h => List.mem_append_left _ (List.mem_append_left _ (List.mem_append_left _ (List.mem_append_left _ (List.mem_append_left _ (List.mem_append_left _ (List.mem_append_left _ (List.mem_append_left _ (List.mem_append_left _ (List.mem_append_left _ (List.mem_append_left _ (List.mem_append_left _ (List.mem_append_right _ h))))))))))))
theorem inX0 : ∀ w ∈ wsX00, w ∈ lw_tbl := fun w h => wsL_law_in w (inlX0 w h)
theorem inlX1 : ∀ w ∈ wsX10, w ∈ wsL_law := fun _ h => List.mem_append_left _ (List.mem_append_left _ (List.mem_append_left _ (List.mem_append_left _ (List.mem_append_left _ (List.mem_append_left _ (List.mem_append_left _ (List.mem_append_left _ (List.mem_append_left _ (List.mem_append_left _ (List.mem_append_left _ (List.mem_append_right _ h)))))))))))
theorem inX1 : ∀ w ∈ wsX10, w ∈ lw_tbl := fun w h => wsL_law_in w (inlX1 w h)
theorem inlX2 : ∀ w ∈ wsX20, w ∈ wsL_law := fun _ h => List.mem_append_left _ (List.mem_append_left _ (List.mem_append_left _ (List.mem_append_left _ (List.mem_append_left _ (List.mem_append_left _ (List.mem_append_left _ (List.mem_append_left _ (List.mem_append_left _ (List.mem_append_left _ (List.mem_append_right _ h))))))))))
theorem inX2 : ∀ w ∈ wsX20, w ∈ lw_tbl := fun w h => wsL_law_in w (inlX2 w h)
theorem inlX3 : ∀ w ∈ wsX30, w ∈ wsL_law := fun _ h => List.mem_append_left _ (List.mem_append_left _ (List.mem_append_left _ (List.mem_append_left _ (List.mem_append_left _ (List.mem_append_left _ (List.mem_append_left _ (List.mem_append_left _ (List.mem_append_left _ (List.mem_append_left _ (List.mem_append_left _ (List.mem_append_left _ (List.mem_append_left _ (List.mem_append_left _ (List.mem_append_left _ (List.mem_append_right _ h)))))))))))))))
theorem inX3 : ∀ w ∈ wsX30, w ∈ lw_tbl := fun w h => wsL_law_in w (inlX3 w h)
theorem inlX4 : ∀ w ∈ wsX40, w ∈ wsL_law := fun _ h => List.mem_append_left _ (List.mem_append_left _ (List.mem_append_left _ (List.mem_append_left _ (List.mem_append_left _ (List.mem_append_left _ (List.mem_append_left _ (List.mem_append_left _ (List.mem_append_left _ (List.mem_append_right _ h)))))))))
theorem inX4 : ∀ w ∈ wsX40, w ∈ lw_tbl := fun w h => wsL_law_in w (inlX4 w h)
theorem inlX5 : ∀ w ∈ wsX50, w ∈ wsL_law := fun _ h => List.mem_append_left _ (List.mem_append_left _ (List.mem_append_left _ (List.mem_append_left _ (List.mem_append_left _ (List.mem_append_left _ (List.mem_append_left _ (List.mem_append_left _ (List.mem_append_left _ (List.mem_append_left _ (List.mem_append_left _ (List.mem_append_left _ (List.mem_append_left _ (List.mem_append_left _ (List.mem_append_right _ h))))))))))))))
theorem inX5 : ∀ w ∈ wsX50, w ∈ lw_tbl := fun w h => wsL_law_in w (inlX5 w h)
theorem inlX6 : ∀ w ∈ wsX60, w ∈ wsL_law := fun _ h => List.mem_append_left _ (List.mem_append_left _ (List.mem_append_left _ (List.mem_append_left _ (List.mem_append_left _ (List.mem_append_left _ (List.mem_append_left _ (List.mem_append_left _ (List.mem_append_right _ h))))))))
theorem inX6 : ∀ w ∈ wsX60, w ∈ lw_tbl := fun w h => wsL_law_in w (inlX6 w h)
theorem inlX7 : ∀ w ∈ wsX70, w ∈ wsL_law := fun _ h => List.mem_append_left _ (List.mem_append_left _ (List.mem_append_left _ (List.mem_append_left _ (List.mem_append_left _ (List.mem_append_left _ (List.mem_append_left _ (List.mem_append_left _ (List.mem_append_left _ (List.mem_append_left _ (List.mem_append_left _ (List.mem_append_left _ (List.mem_append_left _ (List.mem_append_left _ (List.mem_append_left _ (List.mem_append_left _ (List.mem_append_right _ h))))))))))))))))
theorem inX7 : ∀ w ∈ wsX70, w ∈ lw_tbl := fun w h => wsL_law_in w (inlX7 w h)
theorem inlX8 : ∀ w ∈ wsX80, w ∈ wsL_law := fun _ h => List.mem_append_left _ (List.mem_append_left _ (List.mem_append_left _ (List.mem_append_left _ (List.mem_append_left _ (List.mem_append_left _ (List.mem_append_left _ (List.mem_append_left _ (List.mem_append_left _ (List.mem_append_left _ (List.mem_append_left _ (List.mem_append_left _ (List.mem_append_left _ (List.mem_append_right _ h)))))))))))))
theorem inX8 : ∀ w ∈ wsX80, w ∈ lw_tbl := fun w h => wsL_law_in w (inlX8 w h)
theorem inlX9 : ∀ w ∈ wsX90, w ∈ wsL_law := fun _ h => List.mem_append_left _ (List.mem_append_left _ (List.mem_append_left _ (List.mem_append_left _ (List.mem_append_left _ (List.mem_append_left _ (List.mem_append_left _ (List.mem_append_right _ h)))))))
theorem inX9 : ∀ w ∈ wsX90, w ∈ lw_tbl := fun w h => wsL_law_in w (inlX9 w h)
theorem inlX10 : ∀ w ∈ wsX100, w ∈ wsL_law := fun _ h => List.mem_append_left _ (List.mem_append_left _ (List.mem_append_left _ (List.mem_append_left _ (List.mem_append_left _ (List.mem_append_left _ (List.mem_append_right _ h))))))
theorem inX10 : ∀ w ∈ wsX100, w ∈ lw_tbl := fun w h => wsL_law_in w (inlX10 w h)
theorem inlX11 : ∀ w ∈ wsX110, w ∈ wsL_law := fun _ h => List.mem_append_left _ (List.mem_append_left _ (List.mem_append_left _ (List.mem_append_left _ (List.mem_append_left _ (List.mem_append_left _ (List.mem_append_left _ (List.mem_append_left _ (List.mem_append_left _ (List.mem_append_left _ (List.mem_append_left _ (List.mem_append_left _ (List.mem_append_left _ (List.mem_append_left _ (List.mem_append_left _ (List.mem_append_left _ (List.mem_append_left _ (List.mem_append_left _ (List.mem_append_right _ h))))))))))))))))))
theorem inX11 : ∀ w ∈ wsX110, w ∈ lw_tbl := fun w h => wsL_law_in w (inlX11 w h)
theorem inlX12 : ∀ w ∈ wsX120, w ∈ wsL_law := fun _ h => List.mem_append_left _ (List.mem_append_left _ (List.mem_append_left _ (List.mem_append_left _ (List.mem_append_left _ (List.mem_append_left _ (List.mem_append_left _ (List.mem_append_left _ (List.mem_append_left _ (List.mem_append_left _ (List.mem_append_left _ (List.mem_append_left _ (List.mem_append_left _ (List.mem_append_left _ (List.mem_append_left _ (List.mem_append_left _ (List.mem_append_left _ (List.mem_append_right _ h)))))))))))))))))
theorem inX12 : ∀ w ∈ wsX120, w ∈ lw_tbl := fun w h => wsL_law_in w (inlX12 w h)
theorem inJx145de : ∀ w ∈ wsJx145de0, w ∈ lw_tbl := by decide +kernel
theorem inJ9 : ∀ w ∈ wsJ90, w ∈ lw_tbl := by decide +kernel
theorem inJ0 : ∀ w ∈ wsJ00, w ∈ lw_tbl := by decide +kernel
theorem inJ10 : ∀ w ∈ wsJ100, w ∈ lw_tbl := by decide +kernel
theorem inJ7 : ∀ w ∈ wsJ70, w ∈ lw_tbl := by decide +kernel
set_option maxRecDepth 20000 in
theorem ggL_element_X11_element : GoodIn wsL_element wsX11_element := goodIn_ca (goodIn_ca (goodIn_r _ [7, 8, 9, 10, 11, 12, 13, 14, 15, 6, 16, 17, 18, 19, 20, 21, 22, 23, 24, 25, 26, 27, 28, 29, 30, 31, 32] (by decide +kernel) (by decide +kernel)) (goodIn_sub (fun _ h => List.mem_cons_of_mem _ (List.mem_append_left _ (List.mem_append_right _ h))) (by decide +kernel))) (goodIn_sub (fun _ h => List.mem_cons_of_mem _ (List.mem_append_right _ h)) (by decide +kernel))
set_option maxRecDepth 20000 in
theorem gL_element_X11_element : GoodIn wsL_element (wsV RL 7 RX11 yX11_element wsX11_element) := goodIn_app (goodIn_of _ (by decide +kernel)) ggL_element_X11_element
theorem dL_element_0 : decode cL_element 0 = .ok (.aload_n 3, 1) := by decide +kernel
theorem dL_element_1 : decode cL_element 1 = .ok (.iconst 0, 1) := by decide +kernel
theorem dL_element_2 : decode cL_element 2 = .ok (.aload_n 0, 1) := by decide +kernel
theorem dL_element_3 : decode cL_element 3 = .ok (.iload_n 1, 1) := by decide +kernel
theorem dL_element_4 : decode cL_element 4 = .ok (.iload_n 2, 1) := by decide +kernel
theorem dL_element_5 : decode cL_element 5 = .ok (.invokevirtual 7, 3) := by decide +kernel
theorem dL_element_8 : decode cL_element 8 = .ok (.lastore, 1) := by decide +kernel
theorem dL_element_9 : decode cL_element 9 = .ok (.goto 11, 3) := by decide +kernel
theorem dL_element_12 : decode cL_element 12 = .ok (.astore 4, 2) := by decide +kernel
theorem dL_element_14 : decode cL_element 14 = .ok (.iconst 1, 1) := by decide +kernel
theorem dL_element_15 : decode cL_element 15 = .ok (.ireturn, 1) := by decide +kernel
theorem dL_element_16 : decode cL_element 16 = .ok (.astore 4, 2) := by decide +kernel
theorem dL_element_18 : decode cL_element 18 = .ok (.iconst 2, 1) := by decide +kernel
theorem dL_element_19 : decode cL_element 19 = .ok (.ireturn, 1) := by decide +kernel
theorem dL_element_20 : decode cL_element 20 = .ok (.iconst 0, 1) := by decide +kernel
theorem dL_element_21 : decode cL_element 21 = .ok (.ireturn, 1) := by decide +kernel
set_option maxRecDepth 20000 in
theorem ggL_law_X11_init : GoodIn wsL_law wsX11_init := goodIn_r _ [9, 10, 11, 12, 13, 14, 15, 16, 17, 18, 19, 20, 21, 22, 23, 24, 25, 26, 27, 28, 29, 30, 31, 32, 33, 34, 35, 36, 37, 38, 39, 40, 41, 42, 43, 44, 45, 46, 47, 48, 49, 50, 51, 52, 53, 54, 55, 56, 57, 58, 59, 60, 61, 62, 63, 64, 65, 66, 67, 68, 1173, 1174, 1175, 1176, 1138, 1139, 1140, 1141, 1142, 1143, 1144, 1145, 1146, 1147, 1148, 1177, 1178, 1179, 1180, 1181, 1182, 1183, 1184, 1185, 1186, 1187, 1188, 1189, 1190, 1191, 1192, 1193, 1194, 1195] (by decide +kernel) (by decide +kernel)
set_option maxRecDepth 20000 in
theorem gL_law_X11_init : GoodIn wsL_law (wsX11_init) := ggL_law_X11_init
set_option maxRecDepth 20000 in
theorem ggL_law_X12_init : GoodIn wsL_law wsX12_init := goodIn_r _ [71, 72, 11, 12, 32, 73, 74, 75, 76, 77, 78, 79, 80, 81, 82, 83, 84, 1149, 1150, 1151, 1152, 1153, 1154, 1155, 1156, 1157, 1158, 1159, 1160, 1161, 1162, 1163, 1164, 1165, 1166, 1167, 1168, 1169, 1170, 1171, 1172] (by decide +kernel) (by decide +kernel)
set_option maxRecDepth 20000 in
theorem gL_law_X12_init : GoodIn wsL_law (wsX12_init) := ggL_law_X12_init
set_option maxRecDepth 20000 in
theorem ggL_law_X11_street : GoodIn wsL_law wsX11_street := goodIn_r _ [88, 30, 36, 34, 18, 16, 89, 90, 91, 2, 92, 33, 93, 94, 95, 96, 97, 98, 99, 100, 101, 102, 103, 31, 104, 105, 106, 29, 107, 64, 108, 109, 110, 111, 112, 113, 114, 115, 116, 117, 118, 119, 120, 121, 122, 123, 124, 125, 126, 127, 128, 129, 130, 131, 132, 133, 134, 135, 136, 137, 138, 139, 140, 141, 142, 143, 15, 144, 42, 43, 145, 146, 147, 148, 149, 150, 151, 152, 153, 154, 155, 156, 157, 158, 159, 160, 161, 162, 163, 164, 165, 166, 167, 168, 169, 170, 171, 172, 173, 174, 175, 176, 177, 178, 179, 180, 181, 182, 183, 184, 185, 186, 187, 188, 189, 190, 191, 19, 20, 21, 192, 193, 194, 195, 45, 46, 47, 11, 12, 48, 196, 197, 198, 199, 200, 201, 202, 203, 204, 205, 206, 207, 208, 209, 210, 211, 212, 213, 214, 215, 216, 217, 218, 219, 44, 220, 221, 222, 223, 224, 225, 226, 227, 228, 229, 230, 231, 232, 233, 234, 235, 236, 237, 238, 239, 240, 241, 242, 243, 244, 245, 246, 247, 248, 249, 250, 251, 252, 253, 254, 255, 256, 257, 258, 1138, 1139, 1140, 1141, 1142, 1143, 1144, 1145, 1146, 1147, 1148, 1186, 1187, 1188, 1173, 1174, 1175, 1176, 1191, 1193, 1195, 1192, 1189, 1194, 1190, 1177] (by decide +kernel) (by decide +kernel)
set_option maxRecDepth 20000 in
theorem gL_law_X11_street : GoodIn wsL_law (wsV RL 21 RX11 yX11_street wsX11_street) := goodIn_app (goodIn_of _ (by decide +kernel)) ggL_law_X11_street
set_option maxRecDepth 20000 in
theorem ggL_law_X12_street : GoodIn wsL_law wsX12_street := goodIn_r _ [262, 263, 79, 264, 265, 73, 75, 266, 267, 268, 5, 269, 77, 78, 270, 271, 272, 273, 274, 275, 276, 277, 278, 279, 280, 281, 282, 283, 284, 285, 80, 286, 287, 288, 289, 290, 291, 83, 292, 293, 294, 295, 296, 297, 298, 299, 300, 301, 302, 303, 304, 305, 306, 307, 308, 309, 310, 311, 312, 313, 314, 315, 316, 317, 318, 319, 320, 321, 322, 323, 324, 325, 326, 327, 328, 329, 330, 331, 332, 333, 334, 335, 336, 337, 338, 339, 340, 341, 342, 1149, 1150, 1151, 1152, 1153, 1154, 1155, 1156, 1157, 1158, 1159, 1160, 1161, 1162, 1163, 1164, 1165, 1166, 1167, 1168, 1169, 1170, 1171, 1172] (by decide +kernel) (by decide +kernel)
set_option maxRecDepth 20000 in
theorem gL_law_X12_street : GoodIn wsL_law (wsV RL 25 RX12 yX12_street wsX12_street) := goodIn_app (goodIn_of _ (by decide +kernel)) ggL_law_X12_street
set_option maxRecDepth 20000 in
theorem ggL_law_X11_house : GoodIn wsL_law wsX11_house := goodIn_r _ [346, 16, 347, 348, 349, 350, 237, 238, 15, 239, 145, 351, 352, 353, 354, 355, 185, 356, 357, 358, 359, 191, 360, 361, 362, 173, 363, 364, 365, 366, 21, 367, 368, 182, 369, 370, 371, 176, 372, 373, 374, 188, 375, 376, 377, 179, 378, 379, 380, 381, 382, 383, 384, 385, 386, 387, 388, 389, 390, 391, 392, 393, 394, 395, 396, 397, 398, 399, 400, 401, 402, 403, 404, 405, 406, 407, 408, 409, 410, 411, 412, 413, 414, 415, 416, 417, 418, 419, 420, 421, 422, 423, 424, 425, 426, 427, 428, 109, 110, 111, 429, 430, 431, 432, 433, 434, 435, 436, 146, 437, 438, 439, 440, 42, 441, 43, 442, 443, 444, 445, 446, 447, 448, 449, 450, 451, 452, 453, 454, 455, 456, 457, 458, 459, 460, 461, 462, 463, 464, 465, 466, 467, 468, 469, 470, 471, 472, 473, 474, 475, 476, 477, 478, 479, 480, 481, 482, 483, 484, 485, 486, 487, 488, 489, 490, 491, 492, 493, 494, 495, 496, 497, 498, 499, 500, 501, 502, 503, 504, 505, 506, 507, 508, 509, 510, 511, 512, 513, 514, 515, 516, 517, 518, 519, 520, 521, 522, 523, 1138, 1139, 1140, 1141, 1142, 1143, 1144, 1145, 1146, 1147, 1148, 1173, 1174, 1175, 1176, 1189, 1190, 1191, 1177, 1192, 1193, 1194, 1195] (by decide +kernel) (by decide +kernel)
set_option maxRecDepth 20000 in
theorem gL_law_X11_house : GoodIn wsL_law (wsV RL 26 RX11 yX11_house wsX11_house) := goodIn_app (goodIn_of _ (by decide +kernel)) ggL_law_X11_house
set_option maxRecDepth 20000 in
theorem ggL_law_X12_house : GoodIn wsL_law wsX12_house := goodIn_r _ [527, 323, 324, 325, 5, 326, 73, 274, 275, 276, 331, 332, 333, 334, 528, 529, 530, 531, 532, 533, 534, 535, 536, 537, 538, 539, 327, 328, 329, 330, 540, 541, 542, 543, 544, 545, 546, 547, 548, 549, 550, 551, 552, 553, 554, 555, 556, 557, 558, 1149, 1150, 1151, 1152, 1153, 1154, 1155, 1156, 1157, 1158, 1159, 1160, 1161, 1162, 1163, 1164, 1165, 1166, 1167, 1168, 1169, 1170, 1171, 1172] (by decide +kernel) (by decide +kernel)
set_option maxRecDepth 20000 in
theorem gL_law_X12_house : GoodIn wsL_law (wsV RL 30 RX12 yX12_house wsX12_house) := goodIn_app (goodIn_of _ (by decide +kernel)) ggL_law_X12_house
set_option maxRecDepth 20000 in
theorem ggL_law_X11_comes : GoodIn wsL_law wsX11_comes := goodIn_r _ [562, 16, 563, 31, 564, 565, 2, 566, 567, 568, 569, 570, 97, 98, 99, 100, 101, 102, 103, 33, 571, 221, 222, 15, 223, 145, 42, 43, 1138, 1139, 1140, 1141, 1142, 1143, 1144, 1145, 1146, 1147, 1148, 1173, 1174, 1175, 1176] (by decide +kernel) (by decide +kernel)
set_option maxRecDepth 20000 in
theorem gL_law_X11_comes : GoodIn wsL_law (wsV RL 31 RX11 yX11_comes wsX11_comes) := goodIn_app (goodIn_of _ (by decide +kernel)) ggL_law_X11_comes
set_option maxRecDepth 20000 in
theorem ggL_law_X12_comes : GoodIn wsL_law wsX12_comes := goodIn_r _ [575, 576, 81, 82, 73, 274, 275, 5, 276, 577, 578, 579, 580, 77, 270, 271, 272, 273, 299, 300, 301, 302, 303, 304, 305, 306, 307, 308, 309, 310, 1149, 1150, 1151, 1152, 1153, 1154, 1155, 1156, 1157, 1158, 1159, 1160, 1161, 1162, 1163, 1164, 1165, 1166, 1167, 1168, 1169, 1170, 1171, 1172] (by decide +kernel) (by decide +kernel)
set_option maxRecDepth 20000 in
theorem gL_law_X12_comes : GoodIn wsL_law (wsV RL 34 RX12 yX12_comes wsX12_comes) := goodIn_app (goodIn_of _ (by decide +kernel)) ggL_law_X12_comes
set_option maxRecDepth 20000 in
theorem ggL_law_X11_round : GoodIn wsL_law wsX11_round := goodIn_r _ [584, 16, 585, 1138, 1139, 1140, 1141, 1142, 1143, 1144, 1145, 1146, 1147, 1148, 1173, 1174, 1175, 1176] (by decide +kernel) (by decide +kernel)
set_option maxRecDepth 20000 in
theorem gL_law_X11_round : GoodIn wsL_law (wsV RL 35 RX11 yX11_round wsX11_round) := goodIn_app (goodIn_of _ (by decide +kernel)) ggL_law_X11_round
set_option maxRecDepth 20000 in
theorem ggL_law_X12_round : GoodIn wsL_law wsX12_round := goodIn_r _ [589, 73, 274, 275, 5, 276, 1149, 1150, 1151, 1152, 1153, 1154, 1155, 1156, 1157, 1158, 1159, 1160, 1161, 1162, 1163, 1164, 1165, 1166, 1167, 1168, 1169, 1170, 1171, 1172] (by decide +kernel) (by decide +kernel)
set_option maxRecDepth 20000 in
theorem gL_law_X12_round : GoodIn wsL_law (wsV RL 38 RX12 yX12_round wsX12_round) := goodIn_app (goodIn_of _ (by decide +kernel)) ggL_law_X12_round
set_option maxRecDepth 20000 in
theorem ggL_law_X11_give : GoodIn wsL_law wsX11_give := goodIn_r _ [593, 16, 349, 594, 229, 230, 15, 231, 43, 232, 233, 234, 235, 236, 237, 238, 239, 145, 1138, 1139, 1140, 1141, 1142, 1143, 1144, 1145, 1146, 1147, 1148, 1173, 1174, 1175, 1176] (by decide +kernel) (by decide +kernel)
set_option maxRecDepth 20000 in
theorem gL_law_X11_give : GoodIn wsL_law (wsV RL 39 RX11 yX11_give wsX11_give) := goodIn_app (goodIn_of _ (by decide +kernel)) ggL_law_X11_give
set_option maxRecDepth 20000 in
theorem ggL_law_X12_give : GoodIn wsL_law wsX12_give := goodIn_r _ [598, 315, 316, 317, 5, 318, 319, 320, 321, 322, 323, 324, 325, 326, 73, 274, 275, 276, 327, 328, 329, 330, 331, 332, 333, 334, 335, 336, 337, 338, 307, 308, 309, 310, 1149, 1150, 1151, 1152, 1153, 1154, 1155, 1156, 1157, 1158, 1159, 1160, 1161, 1162, 1163, 1164, 1165, 1166, 1167, 1168, 1169, 1170, 1171, 1172] (by decide +kernel) (by decide +kernel)
set_option maxRecDepth 20000 in
theorem gL_law_X12_give : GoodIn wsL_law (wsV RL 43 RX12 yX12_give wsX12_give) := goodIn_app (goodIn_of _ (by decide +kernel)) ggL_law_X12_give
set_option maxRecDepth 20000 in
theorem ggL_law_X11_weeks : GoodIn wsL_law wsX11_weeks := goodIn_r _ [602, 16, 603, 604, 605, 15, 606, 145, 43, 42, 428, 109, 110, 111, 607, 485, 486, 487, 488, 185, 489, 490, 491, 407, 492, 176, 493, 494, 411, 495, 21, 496, 497, 498, 191, 499, 500, 501, 502, 503, 504, 505, 179, 506, 507, 508, 173, 509, 458, 459, 510, 461, 608, 512, 513, 514, 182, 515, 516, 517, 472, 518, 519, 520, 188, 521, 522, 478, 523, 609, 610, 611, 612, 1138, 1139, 1140, 1141, 1142, 1143, 1144, 1145, 1146, 1147, 1148, 1173, 1174, 1175, 1176, 1189, 1190, 1191, 1177, 1192, 1193, 1194, 1195] (by decide +kernel) (by decide +kernel)
set_option maxRecDepth 20000 in
theorem gL_law_X11_weeks : GoodIn wsL_law (wsV RL 44 RX11 yX11_weeks wsX11_weeks) := goodIn_app (goodIn_of _ (by decide +kernel)) ggL_law_X11_weeks
set_option maxRecDepth 20000 in
theorem ggL_law_X12_weeks : GoodIn wsL_law wsX12_weeks := goodIn_r _ [616, 617, 73, 274, 275, 5, 276, 327, 328, 329, 330, 331, 332, 333, 334, 532, 533, 534, 535, 540, 541, 542, 543, 556, 557, 558, 307, 308, 309, 310, 618, 619, 620, 621, 1149, 1150, 1151, 1152, 1153, 1154, 1155, 1156, 1157, 1158, 1159, 1160, 1161, 1162, 1163, 1164, 1165, 1166, 1167, 1168, 1169, 1170, 1171, 1172] (by decide +kernel) (by decide +kernel)
set_option maxRecDepth 20000 in
theorem gL_law_X12_weeks : GoodIn wsL_law (wsV RL 47 RX12 yX12_weeks wsX12_weeks) := goodIn_app (goodIn_of _ (by decide +kernel)) ggL_law_X12_weeks
set_option maxRecDepth 20000 in
theorem ggL_law_X11_lawful : GoodIn wsL_law wsX11_lawful := goodIn_r _ [625, 16, 626, 627, 628, 15, 629, 145, 630, 631, 632, 633, 43, 429, 430, 431, 432, 433, 434, 435, 436, 146, 437, 438, 439, 440, 42, 441, 442, 380, 381, 382, 21, 383, 384, 385, 386, 191, 387, 388, 443, 390, 391, 392, 393, 394, 395, 179, 396, 444, 398, 399, 400, 401, 185, 402, 403, 404, 405, 406, 407, 408, 176, 409, 410, 411, 412, 413, 414, 415, 445, 417, 418, 419, 182, 420, 421, 422, 423, 446, 447, 448, 449, 450, 451, 452, 453, 454, 455, 456, 173, 457, 458, 459, 460, 461, 462, 463, 464, 465, 466, 467, 468, 110, 469, 470, 471, 472, 473, 474, 475, 188, 476, 477, 478, 479, 480, 481, 482, 483, 1138, 1139, 1140, 1141, 1142, 1143, 1144, 1145, 1146, 1147, 1148, 1173, 1174, 1175, 1176, 1189, 1190, 1191, 1177, 1192, 1193, 1194, 1195] (by decide +kernel) (by decide +kernel)
set_option maxRecDepth 20000 in
theorem gL_law_X11_lawful : GoodIn wsL_law (wsV RL 48 RX11 yX11_lawful wsX11_lawful) := goodIn_app (goodIn_of _ (by decide +kernel)) ggL_law_X11_lawful
set_option maxRecDepth 20000 in
theorem ggL_law_X12_lawful : GoodIn wsL_law wsX12_lawful := goodIn_r _ [637, 638, 639, 640, 5, 641, 642, 643, 644, 645, 73, 646, 647, 648, 649, 327, 328, 329, 330, 331, 332, 333, 334, 650, 651, 652, 653, 548, 549, 550, 551, 323, 324, 325, 326, 274, 275, 276, 528, 529, 530, 531, 532, 533, 534, 535, 536, 537, 538, 539, 540, 541, 542, 543, 552, 553, 554, 555, 654, 655, 656, 1149, 1150, 1151, 1152, 1153, 1154, 1155, 1156, 1157, 1158, 1159, 1160, 1161, 1162, 1163, 1164, 1165, 1166, 1167, 1168, 1169, 1170, 1171, 1172] (by decide +kernel) (by decide +kernel)
set_option maxRecDepth 20000 in
theorem gL_law_X12_lawful : GoodIn wsL_law (wsV RL 52 RX12 yX12_lawful wsX12_lawful) := goodIn_app (goodIn_of _ (by decide +kernel)) ggL_law_X12_lawful
set_option maxRecDepth 20000 in
theorem ggL_law_X11_breaches : GoodIn wsL_law wsX11_breaches := goodIn_r _ [660, 16, 626, 627, 628, 15, 629, 145, 630, 631, 632, 633, 43, 429, 430, 431, 432, 433, 434, 435, 436, 146, 437, 438, 439, 440, 42, 441, 442, 380, 381, 382, 21, 383, 384, 385, 386, 191, 387, 388, 443, 390, 391, 392, 393, 394, 395, 179, 396, 444, 398, 399, 400, 401, 185, 402, 403, 404, 405, 406, 407, 408, 176, 409, 410, 411, 412, 413, 414, 415, 445, 417, 418, 419, 182, 420, 421, 422, 423, 446, 447, 448, 449, 450, 451, 452, 453, 454, 455, 456, 173, 457, 458, 459, 460, 461, 462, 463, 464, 465, 466, 467, 468, 110, 469, 470, 471, 472, 473, 474, 475, 188, 476, 477, 478, 479, 480, 481, 482, 483, 350, 237, 238, 239, 661, 1138, 1139, 1140, 1141, 1142, 1143, 1144, 1145, 1146, 1147, 1148, 1173, 1174, 1175, 1176, 1189, 1190, 1191, 1177, 1192, 1193, 1194, 1195] (by decide +kernel) (by decide +kernel)
set_option maxRecDepth 20000 in
theorem gL_law_X11_breaches : GoodIn wsL_law (wsV RL 53 RX11 yX11_breaches wsX11_breaches) := goodIn_app (goodIn_of _ (by decide +kernel)) ggL_law_X11_breaches
set_option maxRecDepth 20000 in
theorem ggL_law_X12_breaches : GoodIn wsL_law wsX12_breaches := goodIn_r _ [665, 642, 643, 644, 5, 645, 73, 646, 647, 648, 649, 327, 328, 329, 330, 331, 332, 333, 334, 650, 651, 652, 653, 548, 549, 550, 551, 323, 324, 325, 326, 274, 275, 276, 528, 529, 530, 531, 532, 533, 534, 535, 536, 537, 538, 539, 540, 541, 542, 543, 552, 553, 554, 555, 654, 655, 656, 1149, 1150, 1151, 1152, 1153, 1154, 1155, 1156, 1157, 1158, 1159, 1160, 1161, 1162, 1163, 1164, 1165, 1166, 1167, 1168, 1169, 1170, 1171, 1172] (by decide +kernel) (by decide +kernel)
set_option maxRecDepth 20000 in
theorem gL_law_X12_breaches : GoodIn wsL_law (wsV RL 56 RX12 yX12_breaches wsX12_breaches) := goodIn_app (goodIn_of _ (by decide +kernel)) ggL_law_X12_breaches
set_option maxRecDepth 20000 in
theorem ggL_law_X11_held : GoodIn wsL_law wsX11_held := goodIn_r _ [669, 16, 350, 237, 238, 15, 239, 145, 670, 671, 672, 673, 43, 429, 430, 431, 432, 433, 434, 435, 436, 146, 480, 481, 482, 483, 437, 438, 439, 440, 42, 441, 442, 380, 381, 382, 21, 383, 384, 385, 386, 191, 387, 388, 443, 390, 391, 392, 393, 394, 395, 179, 396, 444, 398, 399, 400, 401, 185, 402, 403, 404, 405, 406, 407, 408, 176, 409, 410, 411, 412, 413, 414, 415, 445, 417, 418, 419, 182, 420, 421, 422, 423, 446, 447, 448, 449, 450, 451, 452, 453, 454, 455, 456, 173, 457, 458, 459, 460, 461, 462, 463, 464, 465, 466, 467, 468, 110, 469, 470, 471, 472, 473, 474, 475, 188, 476, 477, 478, 479, 1138, 1139, 1140, 1141, 1142, 1143, 1144, 1145, 1146, 1147, 1148, 1173, 1174, 1175, 1176, 1189, 1190, 1191, 1177, 1192, 1193, 1194, 1195] (by decide +kernel) (by decide +kernel)
set_option maxRecDepth 20000 in
theorem gL_law_X11_held : GoodIn wsL_law (wsV RL 57 RX11 yX11_held wsX11_held) := goodIn_app (goodIn_of _ (by decide +kernel)) ggL_law_X11_held
set_option maxRecDepth 20000 in
theorem ggL_law_X12_held : GoodIn wsL_law wsX12_held := goodIn_r _ [677, 323, 324, 325, 5, 326, 73, 274, 275, 276, 327, 328, 329, 330, 331, 332, 333, 334, 650, 651, 652, 653, 548, 549, 550, 551, 528, 529, 530, 531, 532, 533, 534, 535, 536, 537, 538, 539, 540, 541, 542, 543, 552, 553, 554, 555, 1149, 1150, 1151, 1152, 1153, 1154, 1155, 1156, 1157, 1158, 1159, 1160, 1161, 1162, 1163, 1164, 1165, 1166, 1167, 1168, 1169, 1170, 1171, 1172] (by decide +kernel) (by decide +kernel)
set_option maxRecDepth 20000 in
theorem gL_law_X12_held : GoodIn wsL_law (wsV RL 60 RX12 yX12_held wsX12_held) := goodIn_app (goodIn_of _ (by decide +kernel)) ggL_law_X12_held
set_option maxRecDepth 20000 in
theorem ggL_law_X11_free : GoodIn wsL_law wsX11_free := goodIn_r _ [681, 16, 563, 349, 670, 671, 672, 15, 673, 43, 429, 430, 431, 432, 145, 433, 434, 435, 436, 146, 480, 481, 482, 483, 437, 438, 439, 440, 42, 441, 442, 380, 381, 382, 21, 383, 384, 385, 386, 191, 387, 388, 443, 390, 391, 392, 393, 394, 395, 179, 396, 444, 398, 399, 400, 401, 185, 402, 403, 404, 405, 406, 407, 408, 176, 409, 410, 411, 412, 413, 414, 415, 445, 417, 418, 419, 182, 420, 421, 422, 423, 446, 447, 448, 449, 450, 451, 452, 453, 454, 455, 456, 173, 457, 458, 459, 460, 461, 462, 463, 464, 465, 466, 467, 468, 110, 469, 470, 471, 472, 473, 474, 475, 188, 476, 477, 478, 479, 1138, 1139, 1140, 1141, 1142, 1143, 1144, 1145, 1146, 1147, 1148, 1173, 1174, 1175, 1176, 1189, 1190, 1191, 1177, 1192, 1193, 1194, 1195] (by decide +kernel) (by decide +kernel)
set_option maxRecDepth 20000 in
theorem gL_law_X11_free : GoodIn wsL_law (wsV RL 61 RX11 yX11_free wsX11_free) := goodIn_app (goodIn_of _ (by decide +kernel)) ggL_law_X11_free
set_option maxRecDepth 20000 in
theorem ggL_law_X12_free : GoodIn wsL_law wsX12_free := goodIn_r _ [685, 73, 327, 328, 329, 5, 330, 331, 332, 333, 334, 650, 651, 652, 653, 548, 549, 550, 551, 323, 324, 325, 326, 274, 275, 276, 528, 529, 530, 531, 532, 533, 534, 535, 536, 537, 538, 539, 540, 541, 542, 543, 552, 553, 554, 555, 1149, 1150, 1151, 1152, 1153, 1154, 1155, 1156, 1157, 1158, 1159, 1160, 1161, 1162, 1163, 1164, 1165, 1166, 1167, 1168, 1169, 1170, 1171, 1172] (by decide +kernel) (by decide +kernel)
set_option maxRecDepth 20000 in
theorem gL_law_X12_free : GoodIn wsL_law (wsV RL 64 RX12 yX12_free wsX12_free) := goodIn_app (goodIn_of _ (by decide +kernel)) ggL_law_X12_free
set_option maxRecDepth 20000 in
theorem ggL_law_X11_partings : GoodIn wsL_law wsX11_partings := goodIn_r _ [689, 26, 16, 690, 691, 692, 693, 2, 694, 563, 695, 696, 697, 25, 698, 699, 700, 701, 702, 53, 703, 55, 704, 56, 705, 706, 707, 708, 709, 66, 67, 68, 710, 142, 143, 15, 144, 42, 43, 145, 146, 711, 481, 482, 483, 433, 434, 435, 436, 712, 713, 714, 715, 58, 716, 438, 439, 440, 441, 442, 380, 381, 382, 21, 383, 384, 385, 386, 191, 387, 388, 443, 390, 391, 392, 393, 394, 395, 179, 396, 444, 398, 399, 400, 401, 185, 402, 403, 404, 405, 406, 407, 408, 176, 409, 410, 411, 412, 413, 414, 415, 445, 417, 418, 419, 182, 420, 421, 422, 423, 446, 447, 448, 449, 450, 451, 452, 453, 454, 455, 456, 173, 457, 458, 459, 460, 461, 462, 463, 464, 465, 466, 467, 468, 110, 469, 470, 471, 472, 473, 474, 475, 188, 476, 477, 478, 479, 717, 718, 719, 720, 721, 722, 723, 724, 725, 726, 727, 728, 729, 730, 731, 732, 733, 734, 735, 109, 111, 736, 737, 738, 739, 740, 741, 742, 743, 744, 745, 746, 747, 748, 749, 750, 1138, 1139, 1140, 1141, 1142, 1143, 1144, 1145, 1146, 1147, 1148, 1178, 1179, 1180, 1181, 1182, 1183, 1184, 1185, 1173, 1174, 1175, 1176, 1189, 1190, 1191, 1177, 1192, 1193, 1194, 1195] (by decide +kernel) (by decide +kernel)
set_option maxRecDepth 20000 in
theorem gL_law_X11_partings : GoodIn wsL_law (wsV RL 65 RX11 yX11_partings wsX11_partings) := goodIn_app (goodIn_of _ (by decide +kernel)) ggL_law_X11_partings
set_option maxRecDepth 20000 in
theorem ggL_law_X12_partings : GoodIn wsL_law wsX12_partings := goodIn_r _ [754, 755, 756, 757, 758, 5, 759, 760, 73, 274, 275, 276, 761, 762, 763, 764, 765, 766, 767, 768, 84, 327, 328, 329, 330, 331, 332, 333, 334, 769, 770, 771, 772, 76, 292, 293, 294, 773, 774, 775, 776, 777, 778, 779, 780, 638, 639, 640, 641, 642, 643, 644, 645, 646, 647, 648, 649, 650, 651, 652, 653, 548, 549, 550, 551, 323, 324, 325, 326, 528, 529, 530, 531, 532, 533, 534, 535, 536, 537, 538, 539, 540, 541, 542, 543, 552, 553, 554, 555, 654, 655, 656, 307, 308, 309, 310, 781, 782, 783, 784, 1149, 1150, 1151, 1152, 1153, 1154, 1155, 1156, 1157, 1158, 1159, 1160, 1161, 1162, 1163, 1164, 1165, 1166, 1167, 1168, 1169, 1170, 1171, 1172] (by decide +kernel) (by decide +kernel)
set_option maxRecDepth 20000 in
theorem gL_law_X12_partings : GoodIn wsL_law (wsV RL 68 RX12 yX12_partings wsX12_partings) := goodIn_app (goodIn_of _ (by decide +kernel)) ggL_law_X12_partings
set_option maxRecDepth 20000 in
theorem ggL_law_X11_uneven : GoodIn wsL_law wsX11_uneven := goodIn_r _ [788, 26, 16, 690, 789, 691, 692, 693, 2, 694, 563, 695, 696, 697, 25, 698, 699, 700, 701, 702, 53, 703, 55, 704, 56, 705, 706, 707, 708, 709, 66, 67, 68, 710, 142, 143, 15, 144, 42, 43, 145, 146, 711, 481, 482, 483, 433, 434, 435, 436, 712, 713, 714, 715, 58, 716, 438, 439, 440, 441, 442, 380, 381, 382, 21, 383, 384, 385, 386, 191, 387, 388, 443, 390, 391, 392, 393, 394, 395, 179, 396, 444, 398, 399, 400, 401, 185, 402, 403, 404, 405, 406, 407, 408, 176, 409, 410, 411, 412, 413, 414, 415, 445, 417, 418, 419, 182, 420, 421, 422, 423, 446, 447, 448, 449, 450, 451, 452, 453, 454, 455, 456, 173, 457, 458, 459, 460, 461, 462, 463, 464, 465, 466, 467, 468, 110, 469, 470, 471, 472, 473, 474, 475, 188, 476, 477, 478, 479, 717, 718, 719, 720, 721, 722, 723, 724, 725, 726, 727, 728, 729, 730, 731, 732, 733, 734, 735, 109, 111, 736, 737, 738, 739, 740, 741, 742, 743, 744, 745, 746, 747, 748, 749, 750, 1138, 1139, 1140, 1141, 1142, 1143, 1144, 1145, 1146, 1147, 1148, 1178, 1179, 1180, 1181, 1182, 1183, 1184, 1185, 1173, 1174, 1175, 1176, 1189, 1190, 1191, 1177, 1192, 1193, 1194, 1195] (by decide +kernel) (by decide +kernel)
set_option maxRecDepth 20000 in
theorem gL_law_X11_uneven : GoodIn wsL_law (wsV RL 69 RX11 yX11_uneven wsX11_uneven) := goodIn_app (goodIn_of _ (by decide +kernel)) ggL_law_X11_uneven
set_option maxRecDepth 20000 in
theorem ggL_law_X12_uneven : GoodIn wsL_law wsX12_uneven := goodIn_r _ [793, 765, 756, 757, 758, 5, 759, 760, 73, 274, 275, 276, 761, 762, 763, 764, 755, 766, 767, 768, 84, 327, 328, 329, 330, 331, 332, 333, 334, 769, 770, 771, 772, 76, 292, 293, 294, 773, 774, 775, 776, 777, 778, 779, 780, 638, 639, 640, 641, 642, 643, 644, 645, 646, 647, 648, 649, 650, 651, 652, 653, 548, 549, 550, 551, 323, 324, 325, 326, 528, 529, 530, 531, 532, 533, 534, 535, 536, 537, 538, 539, 540, 541, 542, 543, 552, 553, 554, 555, 654, 655, 656, 307, 308, 309, 310, 781, 782, 783, 784, 1149, 1150, 1151, 1152, 1153, 1154, 1155, 1156, 1157, 1158, 1159, 1160, 1161, 1162, 1163, 1164, 1165, 1166, 1167, 1168, 1169, 1170, 1171, 1172] (by decide +kernel) (by decide +kernel)
set_option maxRecDepth 20000 in
theorem gL_law_X12_uneven : GoodIn wsL_law (wsV RL 72 RX12 yX12_uneven wsX12_uneven) := goodIn_app (goodIn_of _ (by decide +kernel)) ggL_law_X12_uneven
set_option maxRecDepth 20000 in
theorem ggL_law_X11_richest : GoodIn wsL_law wsX11_richest := goodIn_r _ [797, 16, 26, 690, 798, 350, 237, 238, 15, 239, 145, 691, 692, 693, 2, 694, 563, 695, 696, 697, 25, 698, 699, 700, 701, 702, 53, 703, 55, 704, 56, 705, 706, 707, 708, 709, 66, 67, 68, 710, 142, 143, 144, 42, 43, 146, 711, 481, 482, 483, 433, 434, 435, 436, 712, 713, 714, 715, 58, 716, 438, 439, 440, 441, 442, 380, 381, 382, 21, 383, 384, 385, 386, 191, 387, 388, 443, 390, 391, 392, 393, 394, 395, 179, 396, 444, 398, 399, 400, 401, 185, 402, 403, 404, 405, 406, 407, 408, 176, 409, 410, 411, 412, 413, 414, 415, 445, 417, 418, 419, 182, 420, 421, 422, 423, 446, 447, 448, 449, 450, 451, 452, 453, 454, 455, 456, 173, 457, 458, 459, 460, 461, 462, 463, 464, 465, 466, 467, 468, 110, 469, 470, 471, 472, 473, 474, 475, 188, 476, 477, 478, 479, 717, 718, 719, 720, 721, 722, 723, 724, 725, 726, 727, 728, 729, 730, 731, 732, 733, 734, 735, 109, 111, 736, 737, 738, 739, 740, 741, 742, 743, 744, 745, 746, 747, 748, 749, 750, 1138, 1139, 1140, 1141, 1142, 1143, 1144, 1145, 1146, 1147, 1148, 1178, 1179, 1180, 1181, 1182, 1183, 1184, 1185, 1173, 1174, 1175, 1176, 1189, 1190, 1191, 1177, 1192, 1193, 1194, 1195] (by decide +kernel) (by decide +kernel)
set_option maxRecDepth 20000 in
theorem gL_law_X11_richest : GoodIn wsL_law (wsV RL 73 RX11 yX11_richest wsX11_richest) := goodIn_app (goodIn_of _ (by decide +kernel)) ggL_law_X11_richest
set_option maxRecDepth 20000 in
theorem ggL_law_X12_richest : GoodIn wsL_law wsX12_richest := goodIn_r _ [802, 766, 323, 324, 325, 5, 326, 73, 274, 275, 276, 756, 757, 758, 759, 760, 761, 762, 763, 764, 755, 765, 767, 768, 84, 327, 328, 329, 330, 331, 332, 333, 334, 769, 770, 771, 772, 76, 292, 293, 294, 773, 774, 775, 776, 777, 778, 779, 780, 638, 639, 640, 641, 642, 643, 644, 645, 646, 647, 648, 649, 650, 651, 652, 653, 548, 549, 550, 551, 528, 529, 530, 531, 532, 533, 534, 535, 536, 537, 538, 539, 540, 541, 542, 543, 552, 553, 554, 555, 654, 655, 656, 307, 308, 309, 310, 781, 782, 783, 784, 1149, 1150, 1151, 1152, 1153, 1154, 1155, 1156, 1157, 1158, 1159, 1160, 1161, 1162, 1163, 1164, 1165, 1166, 1167, 1168, 1169, 1170, 1171, 1172] (by decide +kernel) (by decide +kernel)
set_option maxRecDepth 20000 in
theorem gL_law_X12_richest : GoodIn wsL_law (wsV RL 76 RX12 yX12_richest wsX12_richest) := goodIn_app (goodIn_of _ (by decide +kernel)) ggL_law_X12_richest
set_option maxRecDepth 20000 in
theorem ggL_law_X11_hands : GoodIn wsL_law wsX11_hands := goodIn_r _ [806, 26, 16, 690, 807, 808, 809, 810, 2, 811, 563, 609, 610, 611, 15, 612, 145, 43, 695, 696, 697, 25, 698, 699, 700, 701, 702, 53, 703, 55, 704, 56, 705, 706, 707, 708, 709, 66, 67, 68, 710, 142, 143, 144, 42, 146, 711, 481, 482, 483, 433, 434, 435, 436, 712, 713, 714, 715, 58, 716, 438, 439, 440, 441, 442, 380, 381, 382, 21, 383, 384, 385, 386, 191, 387, 388, 443, 390, 391, 392, 393, 394, 395, 179, 396, 444, 398, 399, 400, 401, 185, 402, 403, 404, 405, 406, 407, 408, 176, 409, 410, 411, 412, 413, 414, 415, 445, 417, 418, 419, 182, 420, 421, 422, 423, 446, 447, 448, 449, 450, 451, 452, 453, 454, 455, 456, 173, 457, 458, 459, 460, 461, 462, 463, 464, 465, 466, 467, 468, 110, 469, 470, 471, 472, 473, 474, 475, 188, 476, 477, 478, 479, 717, 718, 719, 720, 721, 722, 723, 724, 725, 726, 727, 728, 729, 730, 731, 732, 733, 734, 735, 109, 111, 736, 737, 738, 739, 740, 741, 742, 743, 744, 745, 746, 747, 748, 749, 750, 1138, 1139, 1140, 1141, 1142, 1143, 1144, 1145, 1146, 1147, 1148, 1178, 1179, 1180, 1181, 1182, 1183, 1184, 1185, 1173, 1174, 1175, 1176, 1189, 1190, 1191, 1177, 1192, 1193, 1194, 1195] (by decide +kernel) (by decide +kernel)
set_option maxRecDepth 20000 in
theorem gL_law_X11_hands : GoodIn wsL_law (wsV RL 77 RX11 yX11_hands wsX11_hands) := goodIn_app (goodIn_of _ (by decide +kernel)) ggL_law_X11_hands
set_option maxRecDepth 20000 in
theorem ggL_law_X12_hands : GoodIn wsL_law wsX12_hands := goodIn_r _ [815, 767, 816, 817, 818, 5, 819, 73, 618, 619, 620, 621, 327, 328, 329, 330, 331, 332, 333, 334, 761, 762, 763, 764, 755, 765, 766, 768, 84, 769, 770, 771, 772, 76, 292, 293, 294, 773, 774, 775, 776, 777, 778, 779, 780, 638, 639, 640, 641, 642, 643, 644, 645, 646, 647, 648, 649, 650, 651, 652, 653, 548, 549, 550, 551, 323, 324, 325, 326, 274, 275, 276, 528, 529, 530, 531, 532, 533, 534, 535, 536, 537, 538, 539, 540, 541, 542, 543, 552, 553, 554, 555, 654, 655, 656, 307, 308, 309, 310, 781, 782, 783, 784, 1149, 1150, 1151, 1152, 1153, 1154, 1155, 1156, 1157, 1158, 1159, 1160, 1161, 1162, 1163, 1164, 1165, 1166, 1167, 1168, 1169, 1170, 1171, 1172] (by decide +kernel) (by decide +kernel)
set_option maxRecDepth 20000 in
theorem gL_law_X12_hands : GoodIn wsL_law (wsV RL 80 RX12 yX12_hands wsX12_hands) := goodIn_app (goodIn_of _ (by decide +kernel)) ggL_law_X12_hands
set_option maxRecDepth 20000 in
theorem ggL_law_X11_any : GoodIn wsL_law wsX11_any := goodIn_r _ [823, 26, 16, 690, 824, 808, 809, 810, 2, 811, 563, 609, 610, 611, 15, 612, 145, 43, 695, 696, 697, 25, 698, 699, 700, 701, 702, 53, 703, 55, 704, 56, 705, 706, 707, 708, 709, 66, 67, 68, 710, 142, 143, 144, 42, 146, 711, 481, 482, 483, 433, 434, 435, 436, 712, 713, 714, 715, 58, 716, 438, 439, 440, 441, 442, 380, 381, 382, 21, 383, 384, 385, 386, 191, 387, 388, 443, 390, 391, 392, 393, 394, 395, 179, 396, 444, 398, 399, 400, 401, 185, 402, 403, 404, 405, 406, 407, 408, 176, 409, 410, 411, 412, 413, 414, 415, 445, 417, 418, 419, 182, 420, 421, 422, 423, 446, 447, 448, 449, 450, 451, 452, 453, 454, 455, 456, 173, 457, 458, 459, 460, 461, 462, 463, 464, 465, 466, 467, 468, 110, 469, 470, 471, 472, 473, 474, 475, 188, 476, 477, 478, 479, 717, 718, 719, 720, 721, 722, 723, 724, 725, 726, 727, 728, 729, 730, 731, 732, 733, 734, 735, 109, 111, 736, 737, 738, 739, 740, 741, 742, 743, 744, 745, 746, 747, 748, 749, 750, 1138, 1139, 1140, 1141, 1142, 1143, 1144, 1145, 1146, 1147, 1148, 1178, 1179, 1180, 1181, 1182, 1183, 1184, 1185, 1173, 1174, 1175, 1176, 1189, 1190, 1191, 1177, 1192, 1193, 1194, 1195] (by decide +kernel) (by decide +kernel)
set_option maxRecDepth 20000 in
theorem gL_law_X11_any : GoodIn wsL_law (wsV RL 81 RX11 yX11_any wsX11_any) := goodIn_app (goodIn_of _ (by decide +kernel)) ggL_law_X11_any
set_option maxRecDepth 20000 in
theorem ggL_law_X12_any : GoodIn wsL_law wsX12_any := goodIn_r _ [828, 768, 816, 817, 818, 5, 819, 73, 618, 619, 620, 621, 327, 328, 329, 330, 331, 332, 333, 334, 761, 762, 763, 764, 755, 765, 766, 767, 84, 769, 770, 771, 772, 76, 292, 293, 294, 773, 774, 775, 776, 777, 778, 779, 780, 638, 639, 640, 641, 642, 643, 644, 645, 646, 647, 648, 649, 650, 651, 652, 653, 548, 549, 550, 551, 323, 324, 325, 326, 274, 275, 276, 528, 529, 530, 531, 532, 533, 534, 535, 536, 537, 538, 539, 540, 541, 542, 543, 552, 553, 554, 555, 654, 655, 656, 307, 308, 309, 310, 781, 782, 783, 784, 1149, 1150, 1151, 1152, 1153, 1154, 1155, 1156, 1157, 1158, 1159, 1160, 1161, 1162, 1163, 1164, 1165, 1166, 1167, 1168, 1169, 1170, 1171, 1172] (by decide +kernel) (by decide +kernel)
set_option maxRecDepth 20000 in
theorem gL_law_X12_any : GoodIn wsL_law (wsV RL 84 RX12 yX12_any wsX12_any) := goodIn_app (goodIn_of _ (by decide +kernel)) ggL_law_X12_any
set_option maxRecDepth 20000 in
theorem ggL_law_X11_change : GoodIn wsL_law wsX11_change := goodIn_r _ [832, 18, 16, 563, 141, 142, 143, 15, 144, 42, 43, 145, 146, 626, 627, 628, 629, 630, 631, 632, 633, 429, 430, 431, 432, 433, 434, 435, 436, 437, 438, 439, 440, 441, 442, 380, 381, 382, 21, 383, 384, 385, 386, 191, 387, 388, 443, 390, 391, 392, 393, 394, 395, 179, 396, 444, 398, 399, 400, 401, 185, 402, 403, 404, 405, 406, 407, 408, 176, 409, 410, 411, 412, 413, 414, 415, 445, 417, 418, 419, 182, 420, 421, 422, 423, 446, 447, 448, 449, 450, 451, 452, 453, 454, 455, 456, 173, 457, 458, 459, 460, 461, 462, 463, 464, 465, 466, 467, 468, 110, 469, 470, 471, 472, 473, 474, 475, 188, 476, 477, 478, 479, 480, 481, 482, 483, 833, 245, 246, 247, 1138, 1139, 1140, 1141, 1142, 1143, 1144, 1145, 1146, 1147, 1148, 1173, 1174, 1175, 1176, 1189, 1190, 1191, 1177, 1192, 1193, 1194, 1195] (by decide +kernel) (by decide +kernel)
set_option maxRecDepth 20000 in
theorem gL_law_X11_change : GoodIn wsL_law (wsV RL 85 RX11 yX11_change wsX11_change) := goodIn_app (goodIn_of _ (by decide +kernel)) ggL_law_X11_change
set_option maxRecDepth 20000 in
theorem ggL_law_X12_change : GoodIn wsL_law wsX12_change := goodIn_r _ [837, 73, 274, 275, 5, 276, 642, 643, 644, 645, 646, 647, 648, 649, 327, 328, 329, 330, 331, 332, 333, 334, 650, 651, 652, 653, 548, 549, 550, 551, 323, 324, 325, 326, 528, 529, 530, 531, 532, 533, 534, 535, 536, 537, 538, 539, 540, 541, 542, 543, 552, 553, 554, 555, 654, 655, 656, 339, 340, 341, 342, 307, 308, 309, 310, 1149, 1150, 1151, 1152, 1153, 1154, 1155, 1156, 1157, 1158, 1159, 1160, 1161, 1162, 1163, 1164, 1165, 1166, 1167, 1168, 1169, 1170, 1171, 1172] (by decide +kernel) (by decide +kernel)
set_option maxRecDepth 20000 in
theorem gL_law_X12_change : GoodIn wsL_law (wsV RL 88 RX12 yX12_change wsX12_change) := goodIn_app (goodIn_of _ (by decide +kernel)) ggL_law_X12_change
set_option maxRecDepth 20000 in
theorem ggL_law_X11_wedding : GoodIn wsL_law wsX11_wedding := goodIn_r _ [841, 16, 18, 349, 842, 109, 110, 111, 350, 237, 238, 15, 239, 145, 141, 142, 143, 144, 42, 43, 146, 843, 252, 253, 254, 236, 626, 627, 628, 629, 630, 631, 632, 633, 429, 430, 431, 432, 433, 434, 435, 436, 437, 438, 439, 440, 441, 442, 380, 381, 382, 21, 383, 384, 385, 386, 191, 387, 388, 443, 390, 391, 392, 393, 394, 395, 179, 396, 444, 398, 399, 400, 401, 185, 402, 403, 404, 405, 406, 407, 408, 176, 409, 410, 411, 412, 413, 414, 415, 445, 417, 418, 419, 182, 420, 421, 422, 423, 446, 447, 448, 449, 450, 451, 452, 453, 454, 455, 456, 173, 457, 458, 459, 460, 461, 462, 463, 464, 465, 466, 467, 468, 469, 470, 471, 472, 473, 474, 475, 188, 476, 477, 478, 479, 480, 481, 482, 483, 1138, 1139, 1140, 1141, 1142, 1143, 1144, 1145, 1146, 1147, 1148, 1173, 1174, 1175, 1176, 1189, 1190, 1191, 1177, 1192, 1193, 1194, 1195] (by decide +kernel) (by decide +kernel)
set_option maxRecDepth 20000 in
theorem gL_law_X11_wedding : GoodIn wsL_law (wsV RL 89 RX11 yX11_wedding wsX11_wedding) := goodIn_app (goodIn_of _ (by decide +kernel)) ggL_law_X11_wedding
set_option maxRecDepth 20000 in
theorem ggL_law_X12_wedding : GoodIn wsL_law wsX12_wedding := goodIn_r _ [847, 73, 323, 324, 325, 5, 326, 274, 275, 276, 769, 770, 771, 772, 76, 292, 293, 294, 327, 328, 329, 330, 331, 332, 333, 334, 307, 308, 309, 310, 642, 643, 644, 645, 646, 647, 648, 649, 650, 651, 652, 653, 548, 549, 550, 551, 528, 529, 530, 531, 532, 533, 534, 535, 536, 537, 538, 539, 540, 541, 542, 543, 552, 553, 554, 555, 654, 655, 656, 781, 782, 783, 784, 1149, 1150, 1151, 1152, 1153, 1154, 1155, 1156, 1157, 1158, 1159, 1160, 1161, 1162, 1163, 1164, 1165, 1166, 1167, 1168, 1169, 1170, 1171, 1172] (by decide +kernel) (by decide +kernel)
set_option maxRecDepth 20000 in
theorem gL_law_X12_wedding : GoodIn wsL_law (wsV RL 92 RX12 yX12_wedding wsX12_wedding) := goodIn_app (goodIn_of _ (by decide +kernel)) ggL_law_X12_wedding
set_option maxRecDepth 20000 in
theorem ggL_law_X11_worth : GoodIn wsL_law wsX11_worth := goodIn_r _ [851, 16, 852, 18, 22, 350, 237, 238, 15, 239, 145, 564, 565, 2, 566, 141, 142, 143, 144, 42, 43, 146, 571, 221, 222, 223, 424, 425, 426, 427, 428, 109, 110, 111, 429, 430, 431, 432, 433, 434, 435, 436, 437, 438, 439, 440, 441, 442, 380, 381, 382, 21, 383, 384, 385, 386, 191, 387, 388, 443, 390, 391, 392, 393, 394, 395, 179, 396, 444, 398, 399, 400, 401, 185, 402, 403, 404, 405, 406, 407, 408, 176, 409, 410, 411, 412, 413, 414, 415, 445, 417, 418, 419, 182, 420, 421, 422, 423, 446, 447, 448, 449, 450, 451, 452, 453, 454, 455, 456, 173, 457, 458, 459, 460, 461, 462, 463, 464, 465, 466, 467, 468, 469, 470, 471, 472, 473, 474, 475, 188, 476, 477, 478, 479, 480, 481, 482, 483, 1138, 1139, 1140, 1141, 1142, 1143, 1144, 1145, 1146, 1147, 1148, 1173, 1174, 1175, 1176, 1189, 1190, 1191, 1177, 1192, 1193, 1194, 1195] (by decide +kernel) (by decide +kernel)
set_option maxRecDepth 20000 in
theorem gL_law_X11_worth : GoodIn wsL_law (wsV RL 93 RX11 yX11_worth wsX11_worth) := goodIn_app (goodIn_of _ (by decide +kernel)) ggL_law_X11_worth
set_option maxRecDepth 20000 in
theorem ggL_law_X12_worth : GoodIn wsL_law wsX12_worth := goodIn_r _ [856, 576, 857, 73, 323, 324, 325, 5, 326, 274, 275, 276, 544, 545, 546, 547, 548, 549, 550, 551, 528, 529, 530, 531, 532, 533, 534, 535, 331, 332, 333, 334, 536, 537, 538, 539, 327, 328, 329, 330, 540, 541, 542, 543, 552, 553, 554, 555, 769, 770, 771, 772, 76, 292, 293, 294, 307, 308, 309, 310, 781, 782, 783, 784, 1149, 1150, 1151, 1152, 1153, 1154, 1155, 1156, 1157, 1158, 1159, 1160, 1161, 1162, 1163, 1164, 1165, 1166, 1167, 1168, 1169, 1170, 1171, 1172] (by decide +kernel) (by decide +kernel)
set_option maxRecDepth 20000 in
theorem gL_law_X12_worth : GoodIn wsL_law (wsV RL 96 RX12 yX12_worth wsX12_worth) := goodIn_app (goodIn_of _ (by decide +kernel)) ggL_law_X12_worth
set_option maxRecDepth 20000 in
theorem ggL_law_X11_fitting : GoodIn wsL_law wsX11_fitting := goodIn_r _ [861, 16, 18, 349, 350, 237, 238, 15, 239, 145, 141, 142, 143, 144, 42, 43, 146, 626, 627, 628, 629, 630, 631, 632, 633, 429, 430, 431, 432, 433, 434, 435, 436, 437, 438, 439, 440, 441, 442, 380, 381, 382, 21, 383, 384, 385, 386, 191, 387, 388, 443, 390, 391, 392, 393, 394, 395, 179, 396, 444, 398, 399, 400, 401, 185, 402, 403, 404, 405, 406, 407, 408, 176, 409, 410, 411, 412, 413, 414, 415, 445, 417, 418, 419, 182, 420, 421, 422, 423, 446, 447, 448, 449, 450, 451, 452, 453, 454, 455, 456, 173, 457, 458, 459, 460, 461, 462, 463, 464, 465, 466, 467, 468, 110, 469, 470, 471, 472, 473, 474, 475, 188, 476, 477, 478, 479, 480, 481, 482, 483, 1138, 1139, 1140, 1141, 1142, 1143, 1144, 1145, 1146, 1147, 1148, 1173, 1174, 1175, 1176, 1189, 1190, 1191, 1177, 1192, 1193, 1194, 1195] (by decide +kernel) (by decide +kernel)
set_option maxRecDepth 20000 in
theorem gL_law_X11_fitting : GoodIn wsL_law (wsV RL 97 RX11 yX11_fitting wsX11_fitting) := goodIn_app (goodIn_of _ (by decide +kernel)) ggL_law_X11_fitting
set_option maxRecDepth 20000 in
theorem ggL_law_X12_fitting : GoodIn wsL_law wsX12_fitting := goodIn_r _ [865, 866, 323, 324, 325, 5, 326, 73, 274, 275, 276, 769, 770, 771, 772, 76, 292, 293, 294, 307, 308, 309, 310, 638, 639, 640, 641, 642, 643, 644, 645, 646, 647, 648, 649, 327, 328, 329, 330, 331, 332, 333, 334, 650, 651, 652, 653, 548, 549, 550, 551, 528, 529, 530, 531, 532, 533, 534, 535, 536, 537, 538, 539, 540, 541, 542, 543, 552, 553, 554, 555, 654, 655, 656, 781, 782, 783, 784, 1149, 1150, 1151, 1152, 1153, 1154, 1155, 1156, 1157, 1158, 1159, 1160, 1161, 1162, 1163, 1164, 1165, 1166, 1167, 1168, 1169, 1170, 1171, 1172] (by decide +kernel) (by decide +kernel)
set_option maxRecDepth 20000 in
theorem gL_law_X12_fitting : GoodIn wsL_law (wsV RL 100 RX12 yX12_fitting wsX12_fitting) := goodIn_app (goodIn_of _ (by decide +kernel)) ggL_law_X12_fitting
set_option maxRecDepth 20000 in
theorem ggL_law_X11_given : GoodIn wsL_law wsX11_given := goodIn_r _ [870, 36, 34, 18, 16, 89, 90, 91, 2, 92, 33, 93, 94, 95, 96, 97, 98, 99, 100, 101, 102, 103, 31, 871, 872, 873, 874, 875, 233, 234, 15, 235, 236, 237, 238, 239, 145, 141, 142, 143, 144, 42, 43, 146, 594, 229, 230, 231, 232, 626, 627, 628, 629, 630, 631, 632, 633, 429, 430, 431, 432, 433, 434, 435, 436, 437, 438, 439, 440, 441, 442, 380, 381, 382, 21, 383, 384, 385, 386, 191, 387, 388, 443, 390, 391, 392, 393, 394, 395, 179, 396, 444, 398, 399, 400, 401, 185, 402, 403, 404, 405, 406, 407, 408, 176, 409, 410, 411, 412, 413, 414, 415, 445, 417, 418, 419, 182, 420, 421, 422, 423, 446, 447, 448, 449, 450, 451, 452, 453, 454, 455, 456, 173, 457, 458, 459, 460, 461, 462, 463, 464, 465, 466, 467, 468, 110, 469, 470, 471, 472, 473, 474, 475, 188, 476, 477, 478, 479, 480, 481, 482, 483, 1138, 1139, 1140, 1141, 1142, 1143, 1144, 1145, 1146, 1147, 1148, 1173, 1174, 1175, 1176, 1189, 1190, 1191, 1177, 1192, 1193, 1194, 1195] (by decide +kernel) (by decide +kernel)
set_option maxRecDepth 20000 in
theorem gL_law_X11_given : GoodIn wsL_law (wsV RL 101 RX11 yX11_given wsX11_given) := goodIn_app (goodIn_of _ (by decide +kernel)) ggL_law_X11_given
set_option maxRecDepth 20000 in
theorem ggL_law_X12_given : GoodIn wsL_law wsX12_given := goodIn_r _ [879, 79, 576, 270, 271, 5, 272, 273, 274, 275, 276, 266, 267, 268, 269, 77, 78, 880, 881, 882, 883, 80, 319, 320, 321, 322, 323, 324, 325, 326, 73, 769, 770, 771, 772, 76, 292, 293, 294, 311, 312, 313, 314, 315, 316, 317, 318, 327, 328, 329, 330, 331, 332, 333, 334, 335, 336, 337, 338, 307, 308, 309, 310, 642, 643, 644, 645, 646, 647, 648, 649, 650, 651, 652, 653, 548, 549, 550, 551, 528, 529, 530, 531, 532, 533, 534, 535, 536, 537, 538, 539, 540, 541, 542, 543, 552, 553, 554, 555, 654, 655, 656, 781, 782, 783, 784, 1149, 1150, 1151, 1152, 1153, 1154, 1155, 1156, 1157, 1158, 1159, 1160, 1161, 1162, 1163, 1164, 1165, 1166, 1167, 1168, 1169, 1170, 1171, 1172] (by decide +kernel) (by decide +kernel)
set_option maxRecDepth 20000 in
theorem gL_law_X12_given : GoodIn wsL_law (wsV RL 104 RX12 yX12_given wsX12_given) := goodIn_app (goodIn_of _ (by decide +kernel)) ggL_law_X12_given
set_option maxRecDepth 20000 in
theorem ggL_law_X11_tax : GoodIn wsL_law wsX11_tax := goodIn_r _ [887, 16, 563, 349, 842, 109, 110, 111, 564, 565, 2, 566, 1138, 1139, 1140, 1141, 1142, 1143, 1144, 1145, 1146, 1147, 1148, 1173, 1174, 1175, 1176] (by decide +kernel) (by decide +kernel)
set_option maxRecDepth 20000 in
theorem gL_law_X11_tax : GoodIn wsL_law (wsV RL 105 RX11 yX11_tax wsX11_tax) := goodIn_app (goodIn_of _ (by decide +kernel)) ggL_law_X11_tax
set_option maxRecDepth 20000 in
theorem ggL_law_X12_tax : GoodIn wsL_law wsX12_tax := goodIn_r _ [891, 576, 73, 274, 275, 5, 276, 327, 328, 329, 330, 331, 332, 333, 334, 1149, 1150, 1151, 1152, 1153, 1154, 1155, 1156, 1157, 1158, 1159, 1160, 1161, 1162, 1163, 1164, 1165, 1166, 1167, 1168, 1169, 1170, 1171, 1172] (by decide +kernel) (by decide +kernel)
set_option maxRecDepth 20000 in
theorem gL_law_X12_tax : GoodIn wsL_law (wsV RL 108 RX12 yX12_tax wsX12_tax) := goodIn_app (goodIn_of _ (by decide +kernel)) ggL_law_X12_tax
set_option maxRecDepth 20000 in
theorem ggL_law_X11_seeded : GoodIn wsL_law wsX11_seeded := goodIn_r _ [895, 16, 563, 18, 141, 142, 143, 15, 144, 42, 43, 145, 146, 896, 897, 2, 898, 899, 900, 901, 902, 903, 904, 905, 430, 431, 432, 433, 434, 435, 436, 906, 481, 482, 483, 907, 908, 909, 910, 626, 627, 628, 629, 630, 631, 632, 633, 429, 437, 438, 439, 440, 441, 442, 380, 381, 382, 21, 383, 384, 385, 386, 191, 387, 388, 443, 390, 391, 392, 393, 394, 395, 179, 396, 444, 398, 399, 400, 401, 185, 402, 403, 404, 405, 406, 407, 408, 176, 409, 410, 411, 412, 413, 414, 415, 445, 417, 418, 419, 182, 420, 421, 422, 423, 446, 447, 448, 449, 450, 451, 452, 453, 454, 455, 456, 173, 457, 458, 459, 460, 461, 462, 463, 464, 465, 466, 467, 468, 110, 469, 470, 471, 472, 473, 474, 475, 188, 476, 477, 478, 479, 480, 1138, 1139, 1140, 1141, 1142, 1143, 1144, 1145, 1146, 1147, 1148, 1173, 1174, 1175, 1176, 1189, 1190, 1191, 1177, 1192, 1193, 1194, 1195] (by decide +kernel) (by decide +kernel)
set_option maxRecDepth 20000 in
theorem gL_law_X11_seeded : GoodIn wsL_law (wsV RL 109 RX11 yX11_seeded wsX11_seeded) := goodIn_app (goodIn_of _ (by decide +kernel)) ggL_law_X11_seeded
set_option maxRecDepth 20000 in
theorem ggL_law_X12_seeded : GoodIn wsL_law wsX12_seeded := goodIn_r _ [914, 915, 73, 916, 274, 275, 5, 276, 769, 770, 771, 772, 76, 292, 293, 294, 917, 918, 919, 920, 921, 922, 923, 548, 549, 550, 551, 323, 324, 325, 326, 311, 312, 313, 314, 315, 316, 317, 318, 319, 320, 321, 322, 327, 328, 329, 330, 331, 332, 333, 334, 335, 336, 337, 338, 307, 308, 309, 310, 638, 639, 640, 641, 642, 643, 644, 645, 646, 647, 648, 649, 650, 651, 652, 653, 528, 529, 530, 531, 532, 533, 534, 535, 536, 537, 538, 539, 540, 541, 542, 543, 552, 553, 554, 555, 654, 655, 656, 781, 782, 783, 784, 1149, 1150, 1151, 1152, 1153, 1154, 1155, 1156, 1157, 1158, 1159, 1160, 1161, 1162, 1163, 1164, 1165, 1166, 1167, 1168, 1169, 1170, 1171, 1172] (by decide +kernel) (by decide +kernel)
set_option maxRecDepth 20000 in
theorem gL_law_X12_seeded : GoodIn wsL_law (wsV RL 112 RX12 yX12_seeded wsX12_seeded) := goodIn_app (goodIn_of _ (by decide +kernel)) ggL_law_X12_seeded
set_option maxRecDepth 20000 in
theorem ggL_law_X11_judge : GoodIn wsL_law wsX11_judge := goodIn_r _ [927, 33, 34, 16, 563, 842, 109, 110, 111, 36, 349, 93, 94, 95, 2, 96, 97, 98, 99, 100, 101, 102, 103, 31, 928, 929, 930, 931, 1138, 1139, 1140, 1141, 1142, 1143, 1144, 1145, 1146, 1147, 1148, 1173, 1174, 1175, 1176] (by decide +kernel) (by decide +kernel)
set_option maxRecDepth 20000 in
theorem gL_law_X11_judge : GoodIn wsL_law (wsV RL 113 RX11 yX11_judge wsX11_judge) := goodIn_app (goodIn_of _ (by decide +kernel)) ggL_law_X11_judge
set_option maxRecDepth 20000 in
theorem ggL_law_X12_judge : GoodIn wsL_law wsX12_judge := goodIn_r _ [935, 78, 936, 79, 73, 266, 267, 268, 5, 269, 77, 270, 271, 272, 273, 274, 275, 276, 880, 881, 882, 883, 80, 327, 328, 329, 330, 331, 332, 333, 334, 1149, 1150, 1151, 1152, 1153, 1154, 1155, 1156, 1157, 1158, 1159, 1160, 1161, 1162, 1163, 1164, 1165, 1166, 1167, 1168, 1169, 1170, 1171, 1172] (by decide +kernel) (by decide +kernel)
set_option maxRecDepth 20000 in
theorem gL_law_X12_judge : GoodIn wsL_law (wsV RL 116 RX12 yX12_judge wsX12_judge) := goodIn_app (goodIn_of _ (by decide +kernel)) ggL_law_X12_judge
set_option maxRecDepth 20000 in
theorem ggL_law_X11_image : GoodIn wsL_law wsX11_image := goodIn_r _ [940, 17, 16, 941, 141, 142, 143, 15, 144, 42, 43, 145, 146, 609, 610, 611, 612, 1138, 1139, 1140, 1141, 1142, 1143, 1144, 1145, 1146, 1147, 1148, 1173, 1174, 1175, 1176] (by decide +kernel) (by decide +kernel)
set_option maxRecDepth 20000 in
theorem gL_law_X11_image : GoodIn wsL_law (wsV RL 117 RX11 yX11_image wsX11_image) := goodIn_app (goodIn_of _ (by decide +kernel)) ggL_law_X11_image
set_option maxRecDepth 20000 in
theorem ggL_law_X12_image : GoodIn wsL_law wsX12_image := goodIn_r _ [945, 73, 74, 946, 292, 293, 5, 294, 618, 619, 620, 621, 327, 328, 329, 330, 331, 332, 333, 334, 1149, 1150, 1151, 1152, 1153, 1154, 1155, 1156, 1157, 1158, 1159, 1160, 1161, 1162, 1163, 1164, 1165, 1166, 1167, 1168, 1169, 1170, 1171, 1172] (by decide +kernel) (by decide +kernel)
set_option maxRecDepth 20000 in
theorem gL_law_X12_image : GoodIn wsL_law (wsV RL 120 RX12 yX12_image wsX12_image) := goodIn_app (goodIn_of _ (by decide +kernel)) ggL_law_X12_image
set_option maxRecDepth 20000 in
theorem ggL_law_X11_restore : GoodIn wsL_law wsX11_restore := goodIn_r _ [950, 941, 16, 17, 141, 142, 143, 15, 144, 42, 43, 145, 146, 609, 610, 611, 612, 1138, 1139, 1140, 1141, 1142, 1143, 1144, 1145, 1146, 1147, 1148, 1173, 1174, 1175, 1176] (by decide +kernel) (by decide +kernel)
set_option maxRecDepth 20000 in
theorem gL_law_X11_restore : GoodIn wsL_law (wsV RL 121 RX11 yX11_restore wsX11_restore) := goodIn_app (goodIn_of _ (by decide +kernel)) ggL_law_X11_restore
set_option maxRecDepth 20000 in
theorem ggL_law_X12_restore : GoodIn wsL_law wsX12_restore := goodIn_r _ [954, 946, 74, 73, 292, 293, 5, 294, 618, 619, 620, 621, 327, 328, 329, 330, 331, 332, 333, 334, 1149, 1150, 1151, 1152, 1153, 1154, 1155, 1156, 1157, 1158, 1159, 1160, 1161, 1162, 1163, 1164, 1165, 1166, 1167, 1168, 1169, 1170, 1171, 1172] (by decide +kernel) (by decide +kernel)
set_option maxRecDepth 20000 in
theorem gL_law_X12_restore : GoodIn wsL_law (wsV RL 124 RX12 yX12_restore wsX12_restore) := goodIn_app (goodIn_of _ (by decide +kernel)) ggL_law_X12_restore
set_option maxRecDepth 20000 in
theorem ggL_law_X11_count : GoodIn wsL_law wsX11_count := goodIn_r _ [958, 16, 563, 585, 609, 610, 611, 15, 612, 145, 43, 959, 960, 961, 962, 630, 631, 632, 633, 429, 430, 431, 432, 433, 434, 435, 436, 146, 437, 438, 439, 440, 42, 441, 442, 380, 381, 382, 21, 383, 384, 385, 386, 191, 387, 388, 443, 390, 391, 392, 393, 394, 395, 179, 396, 444, 398, 399, 400, 401, 185, 402, 403, 404, 405, 406, 407, 408, 176, 409, 410, 411, 412, 413, 414, 415, 445, 417, 418, 419, 182, 420, 421, 422, 423, 446, 447, 448, 449, 450, 451, 452, 453, 454, 455, 456, 173, 457, 458, 459, 460, 461, 462, 463, 464, 465, 466, 467, 468, 110, 469, 470, 471, 472, 473, 474, 475, 188, 476, 477, 478, 479, 480, 481, 482, 483, 1138, 1139, 1140, 1141, 1142, 1143, 1144, 1145, 1146, 1147, 1148, 1173, 1174, 1175, 1176, 1189, 1190, 1191, 1177, 1192, 1193, 1194, 1195] (by decide +kernel) (by decide +kernel)
set_option maxRecDepth 20000 in
theorem gL_law_X11_count : GoodIn wsL_law (wsV RL 125 RX11 yX11_count wsX11_count) := goodIn_app (goodIn_of _ (by decide +kernel)) ggL_law_X11_count
set_option maxRecDepth 20000 in
theorem ggL_law_X12_count : GoodIn wsL_law wsX12_count := goodIn_r _ [966, 73, 618, 619, 620, 5, 621, 327, 328, 329, 330, 331, 332, 333, 334, 646, 647, 648, 649, 650, 651, 652, 653, 548, 549, 550, 551, 323, 324, 325, 326, 274, 275, 276, 528, 529, 530, 531, 532, 533, 534, 535, 536, 537, 538, 539, 540, 541, 542, 543, 552, 553, 554, 555, 654, 655, 656, 1149, 1150, 1151, 1152, 1153, 1154, 1155, 1156, 1157, 1158, 1159, 1160, 1161, 1162, 1163, 1164, 1165, 1166, 1167, 1168, 1169, 1170, 1171, 1172] (by decide +kernel) (by decide +kernel)
set_option maxRecDepth 20000 in
theorem gL_law_X12_count : GoodIn wsL_law (wsV RL 128 RX12 yX12_count wsX12_count) := goodIn_app (goodIn_of _ (by decide +kernel)) ggL_law_X12_count
set_option maxRecDepth 20000 in
theorem ggL_law_X11_keep : GoodIn wsL_law wsX11_keep := goodIn_r _ [970, 31, 33, 97, 98, 2, 99, 971, 167, 168, 972, 169, 170, 171, 172, 173, 174, 175, 176, 177, 178, 179, 180, 181, 182, 183, 184, 185, 186, 187, 188, 189, 190, 191, 19, 20, 21, 192, 193, 194, 195, 45, 46, 47, 11, 12, 48, 196, 197, 198, 199, 200, 201, 202, 203, 204, 205, 206, 207, 208, 209, 210, 211, 212, 213, 214, 215, 216, 217, 218, 219, 44, 1138, 1139, 1140, 1141, 1142, 1143, 1144, 1145, 1146, 1147, 1148, 1191, 1193, 1195, 1192, 1189, 1194, 1190, 1177] (by decide +kernel) (by decide +kernel)
set_option maxRecDepth 20000 in
theorem gL_law_X11_keep : GoodIn wsL_law (wsV RL 129 RX11 yX11_keep wsX11_keep) := goodIn_app (goodIn_of _ (by decide +kernel)) ggL_law_X11_keep
set_option maxRecDepth 20000 in
theorem ggL_law_X12_keep : GoodIn wsL_law wsX12_keep := goodIn_r _ [976, 273, 977, 77, 81, 82, 270, 271, 5, 272, 274, 275, 276, 1149, 1150, 1151, 1152, 1153, 1154, 1155, 1156, 1157, 1158, 1159, 1160, 1161, 1162, 1163, 1164, 1165, 1166, 1167, 1168, 1169, 1170, 1171, 1172] (by decide +kernel) (by decide +kernel)
set_option maxRecDepth 20000 in
theorem gL_law_X12_keep : GoodIn wsL_law (wsV RL 133 RX12 yX12_keep wsX12_keep) := goodIn_app (goodIn_of _ (by decide +kernel)) ggL_law_X12_keep
set_option maxRecDepth 20000 in
theorem ggL_law_X11_row : GoodIn wsL_law wsX11_row := goodIn_r _ [981, 31, 33, 34, 36, 97, 98, 2, 99, 65, 66, 67, 68, 1138, 1139, 1140, 1141, 1142, 1143, 1144, 1145, 1146, 1147, 1148] (by decide +kernel) (by decide +kernel)
set_option maxRecDepth 20000 in
theorem gL_law_X11_row : GoodIn wsL_law (wsV RL 134 RX11 yX11_row wsX11_row) := goodIn_app (goodIn_of _ (by decide +kernel)) ggL_law_X11_row
set_option maxRecDepth 20000 in
theorem ggL_law_X12_row : GoodIn wsL_law wsX12_row := goodIn_r _ [985, 866, 77, 78, 79, 80, 270, 271, 5, 272, 273, 274, 275, 276, 1149, 1150, 1151, 1152, 1153, 1154, 1155, 1156, 1157, 1158, 1159, 1160, 1161, 1162, 1163, 1164, 1165, 1166, 1167, 1168, 1169, 1170, 1171, 1172] (by decide +kernel) (by decide +kernel)
set_option maxRecDepth 20000 in
theorem gL_law_X12_row : GoodIn wsL_law (wsV RL 137 RX12 yX12_row wsX12_row) := goodIn_app (goodIn_of _ (by decide +kernel)) ggL_law_X12_row
set_option maxRecDepth 20000 in
theorem ggL_law_X11_put : GoodIn wsL_law wsX11_put := goodIn_r _ [989, 36, 33, 93, 94, 95, 2, 96, 97, 98, 99, 100, 101, 102, 103, 31, 990, 991, 992, 993, 34, 994, 995, 996, 1138, 1139, 1140, 1141, 1142, 1143, 1144, 1145, 1146, 1147, 1148] (by decide +kernel) (by decide +kernel)
set_option maxRecDepth 20000 in
theorem gL_law_X11_put : GoodIn wsL_law (wsV RL 138 RX11 yX11_put wsX11_put) := goodIn_app (goodIn_of _ (by decide +kernel)) ggL_law_X11_put
set_option maxRecDepth 20000 in
theorem ggL_law_X12_put : GoodIn wsL_law wsX12_put := goodIn_r _ [1000, 79, 80, 78, 266, 267, 268, 5, 269, 77, 270, 271, 272, 273, 274, 275, 276, 1149, 1150, 1151, 1152, 1153, 1154, 1155, 1156, 1157, 1158, 1159, 1160, 1161, 1162, 1163, 1164, 1165, 1166, 1167, 1168, 1169, 1170, 1171, 1172] (by decide +kernel) (by decide +kernel)
set_option maxRecDepth 20000 in
theorem gL_law_X12_put : GoodIn wsL_law (wsV RL 141 RX12 yX12_put wsX12_put) := goodIn_app (goodIn_of _ (by decide +kernel)) ggL_law_X12_put
set_option maxRecDepth 20000 in
theorem ggL_law_L_element : GoodIn wsL_law wsL_element := goodIn_ca (goodIn_ca (goodIn_r _ [1004, 1005, 1006, 1007, 1008, 1009, 2, 1010, 1011, 1012, 1013, 1014, 33, 36, 97, 98, 99, 990, 991, 992, 993, 34, 1138, 1139, 1140, 1141, 1142, 1143, 1144, 1145, 1146, 1147, 1148] (by decide +kernel) (by decide +kernel)) (goodIn_sub (fun _ h => List.mem_append_left _ (List.mem_append_left _ (List.mem_append_left _ (List.mem_append_left _ (List.mem_append_right _ h))))) (by decide +kernel))) (goodIn_sub (fun _ h => List.mem_append_left _ (List.mem_append_left _ (List.mem_append_left _ (List.mem_append_right _ h)))) (by decide +kernel))
set_option maxRecDepth 20000 in
theorem gL_law_L_element : GoodIn wsL_law (va_wsS RL 142 yL_element wsL_element) := goodIn_app (goodIn_of _ (by decide +kernel)) ggL_law_L_element
set_option maxRecDepth 20000 in
theorem ggL_law_X12_element : GoodIn wsL_law wsX12_element := goodIn_r _ [1018, 77, 79, 1019, 80, 270, 271, 5, 272, 273, 274, 275, 276, 1149, 1150, 1151, 1152, 1153, 1154, 1155, 1156, 1157, 1158, 1159, 1160, 1161, 1162, 1163, 1164, 1165, 1166, 1167, 1168, 1169, 1170, 1171, 1172] (by decide +kernel) (by decide +kernel)
set_option maxRecDepth 20000 in
theorem gL_law_X12_element : GoodIn wsL_law (wsV RL 147 RX12 yX12_element wsX12_element) := goodIn_app (goodIn_of _ (by decide +kernel)) ggL_law_X12_element
set_option maxRecDepth 20000 in
theorem ggL_law_X12_thrown : GoodIn wsL_law wsX12_thrown := goodIn_r _ [1023, 1019, 1149, 1150, 1151, 1152, 1153, 1154, 1155, 1156, 1157, 1158, 1159, 1160, 1161, 1162, 1163, 1164, 1165, 1166, 1167, 1168, 1169, 1170, 1171, 1172] (by decide +kernel) (by decide +kernel)
set_option maxRecDepth 20000 in
theorem gL_law_X12_thrown : GoodIn wsL_law (wsV RL 148 RX12 yX12_thrown wsX12_thrown) := goodIn_app (goodIn_of _ (by decide +kernel)) ggL_law_X12_thrown
set_option maxRecDepth 20000 in
theorem ggL_law_X11_copy : GoodIn wsL_law wsX11_copy := goodIn_r _ [1027, 33, 36, 1028, 706, 707, 708, 97, 98, 2, 99, 100, 101, 102, 103, 31, 1029, 1030, 1031, 1032, 34, 1138, 1139, 1140, 1141, 1142, 1143, 1144, 1145, 1146, 1147, 1148] (by decide +kernel) (by decide +kernel)
set_option maxRecDepth 20000 in
theorem gL_law_X11_copy : GoodIn wsL_law (wsV RL 151 RX11 yX11_copy wsX11_copy) := goodIn_app (goodIn_of _ (by decide +kernel)) ggL_law_X11_copy
set_option maxRecDepth 20000 in
theorem ggL_law_X12_copy : GoodIn wsL_law wsX12_copy := goodIn_r _ [1036, 77, 78, 79, 80, 270, 271, 5, 272, 273, 274, 275, 276, 1149, 1150, 1151, 1152, 1153, 1154, 1155, 1156, 1157, 1158, 1159, 1160, 1161, 1162, 1163, 1164, 1165, 1166, 1167, 1168, 1169, 1170, 1171, 1172] (by decide +kernel) (by decide +kernel)
set_option maxRecDepth 20000 in
theorem gL_law_X12_copy : GoodIn wsL_law (wsV RL 155 RX12 yX12_copy wsX12_copy) := goodIn_app (goodIn_of _ (by decide +kernel)) ggL_law_X12_copy
set_option maxRecDepth 20000 in
theorem ggL_law_X11_fee : GoodIn wsL_law wsX11_fee := goodIn_r _ [1040, 31, 567, 568, 569, 2, 570, 97, 98, 99, 100, 101, 102, 103, 33, 1041, 1042, 1043, 1044, 1045, 185, 1046, 403, 404, 1047, 1048, 407, 1049, 176, 1050, 1051, 411, 1052, 21, 1053, 1054, 1055, 191, 1056, 1057, 1058, 504, 1059, 179, 1060, 1061, 1062, 1063, 1064, 173, 1065, 458, 459, 1066, 461, 1067, 1068, 1069, 1070, 182, 1071, 1072, 1073, 472, 1074, 1075, 1076, 188, 1077, 1078, 1079, 1080, 478, 1081, 1138, 1139, 1140, 1141, 1142, 1143, 1144, 1145, 1146, 1147, 1148, 1189, 1190, 1191, 1177, 1192, 1193, 1194, 1195] (by decide +kernel) (by decide +kernel)
set_option maxRecDepth 20000 in
theorem gL_law_X11_fee : GoodIn wsL_law (wsV RL 156 RX11 yX11_fee wsX11_fee) := goodIn_app (goodIn_of _ (by decide +kernel)) ggL_law_X11_fee
set_option maxRecDepth 20000 in
theorem ggL_law_X12_fee : GoodIn wsL_law wsX12_fee := goodIn_r _ [1085, 81, 82, 577, 578, 579, 5, 580, 77, 270, 271, 272, 273, 274, 275, 276, 1086, 1087, 1088, 1149, 1150, 1151, 1152, 1153, 1154, 1155, 1156, 1157, 1158, 1159, 1160, 1161, 1162, 1163, 1164, 1165, 1166, 1167, 1168, 1169, 1170, 1171, 1172] (by decide +kernel) (by decide +kernel)
set_option maxRecDepth 20000 in
theorem gL_law_X12_fee : GoodIn wsL_law (wsV RL 159 RX12 yX12_fee wsX12_fee) := goodIn_app (goodIn_of _ (by decide +kernel)) ggL_law_X12_fee
set_option maxRecDepth 20000 in
theorem ggL_law_X11_toss : GoodIn wsL_law wsX11_toss := goodIn_ca (goodIn_ca (goodIn_ca (goodIn_r _ [1092, 1093, 1011, 1013, 31, 348, 567, 568, 569, 2, 570, 97, 98, 99, 100, 101, 102, 103, 33, 1094, 1095, 1096, 1097, 21, 1098, 48, 1099, 1100, 1101, 191, 1102, 500, 501, 1103, 1104, 1105, 1106, 1107, 1108, 1109, 1110, 179, 1111, 1112, 1113, 1114, 1115, 1116, 185, 1117, 1118, 1012, 1119, 1120, 1121, 1122, 1014, 1123, 1124, 1125, 1126, 1127, 1128, 1129, 188, 1130, 1131, 1132, 1133, 1041, 1042, 1043, 1044, 1045, 1046, 403, 404, 1047, 1048, 407, 1049, 176, 1050, 1051, 411, 1052, 1053, 1054, 1055, 1056, 1057, 1058, 504, 1059, 1060, 1061, 1062, 1063, 1064, 173, 1065, 458, 459, 1066, 461, 1067, 1068, 1069, 1070, 182, 1071, 1072, 1073, 472, 1074, 1075, 1076, 1077, 1078, 1079, 1080, 478, 1081, 1138, 1139, 1140, 1141, 1142, 1143, 1144, 1145, 1146, 1147, 1148, 1189, 1190, 1191, 1177, 1192, 1193, 1194, 1195] (by decide +kernel) (by decide +kernel)) (goodIn_sub (fun _ h => List.mem_append_left _ (List.mem_append_left _ (List.mem_append_right _ h))) (by decide +kernel))) (goodIn_sub (fun _ h => List.mem_append_left _ (List.mem_append_right _ h)) (by decide +kernel))) (goodIn_sub (fun _ h => List.mem_append_right _ h) (by decide +kernel))
set_option maxRecDepth 20000 in
theorem gL_law_X11_toss : GoodIn wsL_law (wsV RL 160 RX11 yX11_toss wsX11_toss) := goodIn_app (goodIn_of _ (by decide +kernel)) ggL_law_X11_toss
set_option maxRecDepth 20000 in
theorem ggL_law_X12_toss : GoodIn wsL_law wsX12_toss := goodIn_r _ [1137, 81, 82, 577, 578, 579, 5, 580, 77, 270, 271, 272, 273, 274, 275, 276, 1086, 1087, 1088, 1149, 1150, 1151, 1152, 1153, 1154, 1155, 1156, 1157, 1158, 1159, 1160, 1161, 1162, 1163, 1164, 1165, 1166, 1167, 1168, 1169, 1170, 1171, 1172] (by decide +kernel) (by decide +kernel)
set_option maxRecDepth 20000 in
theorem gL_law_X12_toss : GoodIn wsL_law (wsV RL 163 RX12 yX12_toss wsX12_toss) := goodIn_app (goodIn_of _ (by decide +kernel)) ggL_law_X12_toss
theorem dL_law_0 : decode cL_law 0 = .ok (.new 8, 3) := by decide +kernel
theorem dL_law_3 : decode cL_law 3 = .ok (.dup, 1) := by decide +kernel
theorem dL_law_4 : decode cL_law 4 = .ok (.invokespecial 17, 3) := by decide +kernel
theorem dL_law_7 : decode cL_law 7 = .ok (.astore_n 1, 1) := by decide +kernel
theorem dL_law_8 : decode cL_law 8 = .ok (.new 18, 3) := by decide +kernel
theorem dL_law_11 : decode cL_law 11 = .ok (.dup, 1) := by decide +kernel
theorem dL_law_12 : decode cL_law 12 = .ok (.invokespecial 20, 3) := by decide +kernel
theorem dL_law_15 : decode cL_law 15 = .ok (.astore_n 2, 1) := by decide +kernel
theorem dL_law_16 : decode cL_law 16 = .ok (.iconst 1, 1) := by decide +kernel
theorem dL_law_17 : decode cL_law 17 = .ok (.newarray .long, 2) := by decide +kernel
theorem dL_law_19 : decode cL_law 19 = .ok (.astore_n 3, 1) := by decide +kernel
theorem dL_law_20 : decode cL_law 20 = .ok (.iconst 0, 1) := by decide +kernel
theorem dL_law_21 : decode cL_law 21 = .ok (.istore 4, 2) := by decide +kernel
theorem dL_law_23 : decode cL_law 23 = .ok (.iload 4, 2) := by decide +kernel
theorem dL_law_25 : decode cL_law 25 = .ok (.aload_n 0, 1) := by decide +kernel
theorem dL_law_26 : decode cL_law 26 = .ok (.arraylength, 1) := by decide +kernel
theorem dL_law_27 : decode cL_law 27 = .ok (.bipush 6, 2) := by decide +kernel
theorem dL_law_29 : decode cL_law 29 = .ok (.isub, 1) := by decide +kernel
theorem dL_law_30 : decode cL_law 30 = .ok (.if_icmp .gt 1199, 3) := by decide +kernel
theorem dL_law_33 : decode cL_law 33 = .ok (.aload_n 0, 1) := by decide +kernel
theorem dL_law_34 : decode cL_law 34 = .ok (.iload 4, 2) := by decide +kernel
theorem dL_law_36 : decode cL_law 36 = .ok (.iaload, 1) := by decide +kernel
theorem dL_law_37 : decode cL_law 37 = .ok (.bipush 63, 2) := by decide +kernel
theorem dL_law_39 : decode cL_law 39 = .ok (.iand, 1) := by decide +kernel
theorem dL_law_40 : decode cL_law 40 = .ok (.tableswitch 1183 0 32 #[148, 173, 210, 247, 272, 321, 346, 359, 384, 409, 422, 447, 472, 509, 522, 535, 560, 585, 622, 659, 696, 721, 758, 783, 796, 809, 834, 895, 944, 993, 1060, 1133, 1158], 148) := by decide +kernel
theorem dL_law_188 : decode cL_law 188 = .ok (.aload_n 1, 1) := by decide +kernel
theorem dL_law_189 : decode cL_law 189 = .ok (.aload_n 0, 1) := by decide +kernel
theorem dL_law_190 : decode cL_law 190 = .ok (.iload 4, 2) := by decide +kernel
theorem dL_law_192 : decode cL_law 192 = .ok (.iconst 1, 1) := by decide +kernel
theorem dL_law_193 : decode cL_law 193 = .ok (.iadd, 1) := by decide +kernel
theorem dL_law_194 : decode cL_law 194 = .ok (.iaload, 1) := by decide +kernel
theorem dL_law_195 : decode cL_law 195 = .ok (.invokevirtual 21, 3) := by decide +kernel
theorem dL_law_198 : decode cL_law 198 = .ok (.aload_n 2, 1) := by decide +kernel
theorem dL_law_199 : decode cL_law 199 = .ok (.aload_n 0, 1) := by decide +kernel
theorem dL_law_200 : decode cL_law 200 = .ok (.iload 4, 2) := by decide +kernel
theorem dL_law_202 : decode cL_law 202 = .ok (.iconst 1, 1) := by decide +kernel
theorem dL_law_203 : decode cL_law 203 = .ok (.iadd, 1) := by decide +kernel
theorem dL_law_204 : decode cL_law 204 = .ok (.iaload, 1) := by decide +kernel
theorem dL_law_205 : decode cL_law 205 = .ok (.invokevirtual 25, 3) := by decide +kernel
theorem dL_law_208 : decode cL_law 208 = .ok (.if_icmp .eq 1015, 3) := by decide +kernel
theorem dL_law_211 : decode cL_law 211 = .ok (.iconst 0, 1) := by decide +kernel
theorem dL_law_212 : decode cL_law 212 = .ok (.ireturn, 1) := by decide +kernel
theorem dL_law_213 : decode cL_law 213 = .ok (.aload_n 1, 1) := by decide +kernel
theorem dL_law_214 : decode cL_law 214 = .ok (.aload_n 0, 1) := by decide +kernel
theorem dL_law_215 : decode cL_law 215 = .ok (.iload 4, 2) := by decide +kernel
theorem dL_law_217 : decode cL_law 217 = .ok (.iconst 1, 1) := by decide +kernel
theorem dL_law_218 : decode cL_law 218 = .ok (.iadd, 1) := by decide +kernel
theorem dL_law_219 : decode cL_law 219 = .ok (.iaload, 1) := by decide +kernel
theorem dL_law_220 : decode cL_law 220 = .ok (.aload_n 0, 1) := by decide +kernel
theorem dL_law_221 : decode cL_law 221 = .ok (.iload 4, 2) := by decide +kernel
theorem dL_law_223 : decode cL_law 223 = .ok (.iconst 2, 1) := by decide +kernel
theorem dL_law_224 : decode cL_law 224 = .ok (.iadd, 1) := by decide +kernel
theorem dL_law_225 : decode cL_law 225 = .ok (.iaload, 1) := by decide +kernel
theorem dL_law_226 : decode cL_law 226 = .ok (.invokevirtual 26, 3) := by decide +kernel
theorem dL_law_229 : decode cL_law 229 = .ok (.aload_n 2, 1) := by decide +kernel
theorem dL_law_230 : decode cL_law 230 = .ok (.aload_n 0, 1) := by decide +kernel
theorem dL_law_231 : decode cL_law 231 = .ok (.iload 4, 2) := by decide +kernel
theorem dL_law_233 : decode cL_law 233 = .ok (.iconst 1, 1) := by decide +kernel
theorem dL_law_234 : decode cL_law 234 = .ok (.iadd, 1) := by decide +kernel
theorem dL_law_235 : decode cL_law 235 = .ok (.iaload, 1) := by decide +kernel
theorem dL_law_236 : decode cL_law 236 = .ok (.aload_n 0, 1) := by decide +kernel
theorem dL_law_237 : decode cL_law 237 = .ok (.iload 4, 2) := by decide +kernel
theorem dL_law_239 : decode cL_law 239 = .ok (.iconst 2, 1) := by decide +kernel
theorem dL_law_240 : decode cL_law 240 = .ok (.iadd, 1) := by decide +kernel
theorem dL_law_241 : decode cL_law 241 = .ok (.iaload, 1) := by decide +kernel
theorem dL_law_242 : decode cL_law 242 = .ok (.invokevirtual 30, 3) := by decide +kernel
theorem dL_law_245 : decode cL_law 245 = .ok (.if_icmp .eq 978, 3) := by decide +kernel
theorem dL_law_248 : decode cL_law 248 = .ok (.iconst 0, 1) := by decide +kernel
theorem dL_law_249 : decode cL_law 249 = .ok (.ireturn, 1) := by decide +kernel
theorem dL_law_250 : decode cL_law 250 = .ok (.aload_n 1, 1) := by decide +kernel
theorem dL_law_251 : decode cL_law 251 = .ok (.aload_n 0, 1) := by decide +kernel
theorem dL_law_252 : decode cL_law 252 = .ok (.iload 4, 2) := by decide +kernel
theorem dL_law_254 : decode cL_law 254 = .ok (.iconst 1, 1) := by decide +kernel
theorem dL_law_255 : decode cL_law 255 = .ok (.iadd, 1) := by decide +kernel
theorem dL_law_256 : decode cL_law 256 = .ok (.iaload, 1) := by decide +kernel
theorem dL_law_257 : decode cL_law 257 = .ok (.aload_n 0, 1) := by decide +kernel
theorem dL_law_258 : decode cL_law 258 = .ok (.iload 4, 2) := by decide +kernel
theorem dL_law_260 : decode cL_law 260 = .ok (.iconst 2, 1) := by decide +kernel
theorem dL_law_261 : decode cL_law 261 = .ok (.iadd, 1) := by decide +kernel
theorem dL_law_262 : decode cL_law 262 = .ok (.iaload, 1) := by decide +kernel
theorem dL_law_263 : decode cL_law 263 = .ok (.invokevirtual 31, 3) := by decide +kernel
theorem dL_law_266 : decode cL_law 266 = .ok (.aload_n 2, 1) := by decide +kernel
theorem dL_law_267 : decode cL_law 267 = .ok (.aload_n 0, 1) := by decide +kernel
theorem dL_law_268 : decode cL_law 268 = .ok (.iload 4, 2) := by decide +kernel
theorem dL_law_270 : decode cL_law 270 = .ok (.iconst 1, 1) := by decide +kernel
theorem dL_law_271 : decode cL_law 271 = .ok (.iadd, 1) := by decide +kernel
theorem dL_law_272 : decode cL_law 272 = .ok (.iaload, 1) := by decide +kernel
theorem dL_law_273 : decode cL_law 273 = .ok (.aload_n 0, 1) := by decide +kernel
theorem dL_law_274 : decode cL_law 274 = .ok (.iload 4, 2) := by decide +kernel
theorem dL_law_276 : decode cL_law 276 = .ok (.iconst 2, 1) := by decide +kernel
theorem dL_law_277 : decode cL_law 277 = .ok (.iadd, 1) := by decide +kernel
theorem dL_law_278 : decode cL_law 278 = .ok (.iaload, 1) := by decide +kernel
theorem dL_law_279 : decode cL_law 279 = .ok (.invokevirtual 34, 3) := by decide +kernel
theorem dL_law_282 : decode cL_law 282 = .ok (.if_icmp .eq 941, 3) := by decide +kernel
theorem dL_law_285 : decode cL_law 285 = .ok (.iconst 0, 1) := by decide +kernel
theorem dL_law_286 : decode cL_law 286 = .ok (.ireturn, 1) := by decide +kernel
theorem dL_law_287 : decode cL_law 287 = .ok (.aload_n 1, 1) := by decide +kernel
theorem dL_law_288 : decode cL_law 288 = .ok (.aload_n 0, 1) := by decide +kernel
theorem dL_law_289 : decode cL_law 289 = .ok (.iload 4, 2) := by decide +kernel
theorem dL_law_291 : decode cL_law 291 = .ok (.iconst 1, 1) := by decide +kernel
theorem dL_law_292 : decode cL_law 292 = .ok (.iadd, 1) := by decide +kernel
theorem dL_law_293 : decode cL_law 293 = .ok (.iaload, 1) := by decide +kernel
theorem dL_law_294 : decode cL_law 294 = .ok (.invokevirtual 35, 3) := by decide +kernel
theorem dL_law_297 : decode cL_law 297 = .ok (.aload_n 2, 1) := by decide +kernel
theorem dL_law_298 : decode cL_law 298 = .ok (.aload_n 0, 1) := by decide +kernel
theorem dL_law_299 : decode cL_law 299 = .ok (.iload 4, 2) := by decide +kernel
theorem dL_law_301 : decode cL_law 301 = .ok (.iconst 1, 1) := by decide +kernel
theorem dL_law_302 : decode cL_law 302 = .ok (.iadd, 1) := by decide +kernel
theorem dL_law_303 : decode cL_law 303 = .ok (.iaload, 1) := by decide +kernel
theorem dL_law_304 : decode cL_law 304 = .ok (.invokevirtual 38, 3) := by decide +kernel
theorem dL_law_307 : decode cL_law 307 = .ok (.if_icmp .eq 916, 3) := by decide +kernel
theorem dL_law_310 : decode cL_law 310 = .ok (.iconst 0, 1) := by decide +kernel
theorem dL_law_311 : decode cL_law 311 = .ok (.ireturn, 1) := by decide +kernel
theorem dL_law_312 : decode cL_law 312 = .ok (.aload_n 1, 1) := by decide +kernel
theorem dL_law_313 : decode cL_law 313 = .ok (.aload_n 0, 1) := by decide +kernel
theorem dL_law_314 : decode cL_law 314 = .ok (.iload 4, 2) := by decide +kernel
theorem dL_law_316 : decode cL_law 316 = .ok (.iconst 1, 1) := by decide +kernel
theorem dL_law_317 : decode cL_law 317 = .ok (.iadd, 1) := by decide +kernel
theorem dL_law_318 : decode cL_law 318 = .ok (.iaload, 1) := by decide +kernel
theorem dL_law_319 : decode cL_law 319 = .ok (.aload_n 0, 1) := by decide +kernel
theorem dL_law_320 : decode cL_law 320 = .ok (.iload 4, 2) := by decide +kernel
theorem dL_law_322 : decode cL_law 322 = .ok (.iconst 2, 1) := by decide +kernel
theorem dL_law_323 : decode cL_law 323 = .ok (.iadd, 1) := by decide +kernel
theorem dL_law_324 : decode cL_law 324 = .ok (.iaload, 1) := by decide +kernel
theorem dL_law_325 : decode cL_law 325 = .ok (.aload_n 0, 1) := by decide +kernel
theorem dL_law_326 : decode cL_law 326 = .ok (.iload 4, 2) := by decide +kernel
theorem dL_law_328 : decode cL_law 328 = .ok (.iconst 3, 1) := by decide +kernel
theorem dL_law_329 : decode cL_law 329 = .ok (.iadd, 1) := by decide +kernel
theorem dL_law_330 : decode cL_law 330 = .ok (.iaload, 1) := by decide +kernel
theorem dL_law_331 : decode cL_law 331 = .ok (.invokevirtual 39, 3) := by decide +kernel
theorem dL_law_334 : decode cL_law 334 = .ok (.aload_n 2, 1) := by decide +kernel
theorem dL_law_335 : decode cL_law 335 = .ok (.aload_n 0, 1) := by decide +kernel
theorem dL_law_336 : decode cL_law 336 = .ok (.iload 4, 2) := by decide +kernel
theorem dL_law_338 : decode cL_law 338 = .ok (.iconst 1, 1) := by decide +kernel
theorem dL_law_339 : decode cL_law 339 = .ok (.iadd, 1) := by decide +kernel
theorem dL_law_340 : decode cL_law 340 = .ok (.iaload, 1) := by decide +kernel
theorem dL_law_341 : decode cL_law 341 = .ok (.aload_n 0, 1) := by decide +kernel
theorem dL_law_342 : decode cL_law 342 = .ok (.iload 4, 2) := by decide +kernel
theorem dL_law_344 : decode cL_law 344 = .ok (.iconst 2, 1) := by decide +kernel
theorem dL_law_345 : decode cL_law 345 = .ok (.iadd, 1) := by decide +kernel
theorem dL_law_346 : decode cL_law 346 = .ok (.iaload, 1) := by decide +kernel
theorem dL_law_347 : decode cL_law 347 = .ok (.aload_n 0, 1) := by decide +kernel
theorem dL_law_348 : decode cL_law 348 = .ok (.iload 4, 2) := by decide +kernel
theorem dL_law_350 : decode cL_law 350 = .ok (.iconst 3, 1) := by decide +kernel
theorem dL_law_351 : decode cL_law 351 = .ok (.iadd, 1) := by decide +kernel
theorem dL_law_352 : decode cL_law 352 = .ok (.iaload, 1) := by decide +kernel
theorem dL_law_353 : decode cL_law 353 = .ok (.invokevirtual 43, 3) := by decide +kernel
theorem dL_law_356 : decode cL_law 356 = .ok (.if_icmp .eq 867, 3) := by decide +kernel
theorem dL_law_359 : decode cL_law 359 = .ok (.iconst 0, 1) := by decide +kernel
theorem dL_law_360 : decode cL_law 360 = .ok (.ireturn, 1) := by decide +kernel
theorem dL_law_361 : decode cL_law 361 = .ok (.aload_n 1, 1) := by decide +kernel
theorem dL_law_362 : decode cL_law 362 = .ok (.aload_n 0, 1) := by decide +kernel
theorem dL_law_363 : decode cL_law 363 = .ok (.iload 4, 2) := by decide +kernel
theorem dL_law_365 : decode cL_law 365 = .ok (.iconst 1, 1) := by decide +kernel
theorem dL_law_366 : decode cL_law 366 = .ok (.iadd, 1) := by decide +kernel
theorem dL_law_367 : decode cL_law 367 = .ok (.iaload, 1) := by decide +kernel
theorem dL_law_368 : decode cL_law 368 = .ok (.invokevirtual 44, 3) := by decide +kernel
theorem dL_law_371 : decode cL_law 371 = .ok (.aload_n 2, 1) := by decide +kernel
theorem dL_law_372 : decode cL_law 372 = .ok (.aload_n 0, 1) := by decide +kernel
theorem dL_law_373 : decode cL_law 373 = .ok (.iload 4, 2) := by decide +kernel
theorem dL_law_375 : decode cL_law 375 = .ok (.iconst 1, 1) := by decide +kernel
theorem dL_law_376 : decode cL_law 376 = .ok (.iadd, 1) := by decide +kernel
theorem dL_law_377 : decode cL_law 377 = .ok (.iaload, 1) := by decide +kernel
theorem dL_law_378 : decode cL_law 378 = .ok (.invokevirtual 47, 3) := by decide +kernel
theorem dL_law_381 : decode cL_law 381 = .ok (.if_icmp .eq 842, 3) := by decide +kernel
theorem dL_law_384 : decode cL_law 384 = .ok (.iconst 0, 1) := by decide +kernel
theorem dL_law_385 : decode cL_law 385 = .ok (.ireturn, 1) := by decide +kernel
theorem dL_law_386 : decode cL_law 386 = .ok (.aload_n 1, 1) := by decide +kernel
theorem dL_law_387 : decode cL_law 387 = .ok (.invokevirtual 48, 3) := by decide +kernel
theorem dL_law_390 : decode cL_law 390 = .ok (.aload_n 2, 1) := by decide +kernel
theorem dL_law_391 : decode cL_law 391 = .ok (.invokevirtual 52, 3) := by decide +kernel
theorem dL_law_394 : decode cL_law 394 = .ok (.if_icmp .eq 829, 3) := by decide +kernel
theorem dL_law_397 : decode cL_law 397 = .ok (.iconst 0, 1) := by decide +kernel
theorem dL_law_398 : decode cL_law 398 = .ok (.ireturn, 1) := by decide +kernel
theorem dL_law_399 : decode cL_law 399 = .ok (.aload_n 1, 1) := by decide +kernel
theorem dL_law_400 : decode cL_law 400 = .ok (.aload_n 0, 1) := by decide +kernel
theorem dL_law_401 : decode cL_law 401 = .ok (.iload 4, 2) := by decide +kernel
theorem dL_law_403 : decode cL_law 403 = .ok (.iconst 1, 1) := by decide +kernel
theorem dL_law_404 : decode cL_law 404 = .ok (.iadd, 1) := by decide +kernel
theorem dL_law_405 : decode cL_law 405 = .ok (.iaload, 1) := by decide +kernel
theorem dL_law_406 : decode cL_law 406 = .ok (.invokevirtual 53, 3) := by decide +kernel
theorem dL_law_409 : decode cL_law 409 = .ok (.aload_n 2, 1) := by decide +kernel
theorem dL_law_410 : decode cL_law 410 = .ok (.aload_n 0, 1) := by decide +kernel
theorem dL_law_411 : decode cL_law 411 = .ok (.iload 4, 2) := by decide +kernel
theorem dL_law_413 : decode cL_law 413 = .ok (.iconst 1, 1) := by decide +kernel
theorem dL_law_414 : decode cL_law 414 = .ok (.iadd, 1) := by decide +kernel
theorem dL_law_415 : decode cL_law 415 = .ok (.iaload, 1) := by decide +kernel
theorem dL_law_416 : decode cL_law 416 = .ok (.invokevirtual 56, 3) := by decide +kernel
theorem dL_law_419 : decode cL_law 419 = .ok (.if_icmp .eq 804, 3) := by decide +kernel
theorem dL_law_422 : decode cL_law 422 = .ok (.iconst 0, 1) := by decide +kernel
theorem dL_law_423 : decode cL_law 423 = .ok (.ireturn, 1) := by decide +kernel
theorem dL_law_424 : decode cL_law 424 = .ok (.aload_n 1, 1) := by decide +kernel
theorem dL_law_425 : decode cL_law 425 = .ok (.aload_n 0, 1) := by decide +kernel
theorem dL_law_426 : decode cL_law 426 = .ok (.iload 4, 2) := by decide +kernel
theorem dL_law_428 : decode cL_law 428 = .ok (.iconst 1, 1) := by decide +kernel
theorem dL_law_429 : decode cL_law 429 = .ok (.iadd, 1) := by decide +kernel
theorem dL_law_430 : decode cL_law 430 = .ok (.iaload, 1) := by decide +kernel
theorem dL_law_431 : decode cL_law 431 = .ok (.invokevirtual 57, 3) := by decide +kernel
theorem dL_law_434 : decode cL_law 434 = .ok (.aload_n 2, 1) := by decide +kernel
theorem dL_law_435 : decode cL_law 435 = .ok (.aload_n 0, 1) := by decide +kernel
theorem dL_law_436 : decode cL_law 436 = .ok (.iload 4, 2) := by decide +kernel
theorem dL_law_438 : decode cL_law 438 = .ok (.iconst 1, 1) := by decide +kernel
theorem dL_law_439 : decode cL_law 439 = .ok (.iadd, 1) := by decide +kernel
theorem dL_law_440 : decode cL_law 440 = .ok (.iaload, 1) := by decide +kernel
theorem dL_law_441 : decode cL_law 441 = .ok (.invokevirtual 60, 3) := by decide +kernel
theorem dL_law_444 : decode cL_law 444 = .ok (.if_icmp .eq 779, 3) := by decide +kernel
theorem dL_law_447 : decode cL_law 447 = .ok (.iconst 0, 1) := by decide +kernel
theorem dL_law_448 : decode cL_law 448 = .ok (.ireturn, 1) := by decide +kernel
theorem dL_law_449 : decode cL_law 449 = .ok (.aload_n 1, 1) := by decide +kernel
theorem dL_law_450 : decode cL_law 450 = .ok (.invokevirtual 61, 3) := by decide +kernel
theorem dL_law_453 : decode cL_law 453 = .ok (.aload_n 2, 1) := by decide +kernel
theorem dL_law_454 : decode cL_law 454 = .ok (.invokevirtual 64, 3) := by decide +kernel
theorem dL_law_457 : decode cL_law 457 = .ok (.if_icmp .eq 766, 3) := by decide +kernel
theorem dL_law_460 : decode cL_law 460 = .ok (.iconst 0, 1) := by decide +kernel
theorem dL_law_461 : decode cL_law 461 = .ok (.ireturn, 1) := by decide +kernel
theorem dL_law_462 : decode cL_law 462 = .ok (.aload_n 1, 1) := by decide +kernel
theorem dL_law_463 : decode cL_law 463 = .ok (.aload_n 0, 1) := by decide +kernel
theorem dL_law_464 : decode cL_law 464 = .ok (.iload 4, 2) := by decide +kernel
theorem dL_law_466 : decode cL_law 466 = .ok (.iconst 1, 1) := by decide +kernel
theorem dL_law_467 : decode cL_law 467 = .ok (.iadd, 1) := by decide +kernel
theorem dL_law_468 : decode cL_law 468 = .ok (.iaload, 1) := by decide +kernel
theorem dL_law_469 : decode cL_law 469 = .ok (.invokevirtual 65, 3) := by decide +kernel
theorem dL_law_472 : decode cL_law 472 = .ok (.aload_n 2, 1) := by decide +kernel
theorem dL_law_473 : decode cL_law 473 = .ok (.aload_n 0, 1) := by decide +kernel
theorem dL_law_474 : decode cL_law 474 = .ok (.iload 4, 2) := by decide +kernel
theorem dL_law_476 : decode cL_law 476 = .ok (.iconst 1, 1) := by decide +kernel
theorem dL_law_477 : decode cL_law 477 = .ok (.iadd, 1) := by decide +kernel
theorem dL_law_478 : decode cL_law 478 = .ok (.iaload, 1) := by decide +kernel
theorem dL_law_479 : decode cL_law 479 = .ok (.invokevirtual 68, 3) := by decide +kernel
theorem dL_law_482 : decode cL_law 482 = .ok (.if_icmp .eq 741, 3) := by decide +kernel
theorem dL_law_485 : decode cL_law 485 = .ok (.iconst 0, 1) := by decide +kernel
theorem dL_law_486 : decode cL_law 486 = .ok (.ireturn, 1) := by decide +kernel
theorem dL_law_487 : decode cL_law 487 = .ok (.aload_n 1, 1) := by decide +kernel
theorem dL_law_488 : decode cL_law 488 = .ok (.aload_n 0, 1) := by decide +kernel
theorem dL_law_489 : decode cL_law 489 = .ok (.iload 4, 2) := by decide +kernel
theorem dL_law_491 : decode cL_law 491 = .ok (.iconst 1, 1) := by decide +kernel
theorem dL_law_492 : decode cL_law 492 = .ok (.iadd, 1) := by decide +kernel
theorem dL_law_493 : decode cL_law 493 = .ok (.iaload, 1) := by decide +kernel
theorem dL_law_494 : decode cL_law 494 = .ok (.invokevirtual 69, 3) := by decide +kernel
theorem dL_law_497 : decode cL_law 497 = .ok (.aload_n 2, 1) := by decide +kernel
theorem dL_law_498 : decode cL_law 498 = .ok (.aload_n 0, 1) := by decide +kernel
theorem dL_law_499 : decode cL_law 499 = .ok (.iload 4, 2) := by decide +kernel
theorem dL_law_501 : decode cL_law 501 = .ok (.iconst 1, 1) := by decide +kernel
theorem dL_law_502 : decode cL_law 502 = .ok (.iadd, 1) := by decide +kernel
theorem dL_law_503 : decode cL_law 503 = .ok (.iaload, 1) := by decide +kernel
theorem dL_law_504 : decode cL_law 504 = .ok (.invokevirtual 72, 3) := by decide +kernel
theorem dL_law_507 : decode cL_law 507 = .ok (.if_icmp .eq 716, 3) := by decide +kernel
theorem dL_law_510 : decode cL_law 510 = .ok (.iconst 0, 1) := by decide +kernel
theorem dL_law_511 : decode cL_law 511 = .ok (.ireturn, 1) := by decide +kernel
theorem dL_law_512 : decode cL_law 512 = .ok (.aload_n 1, 1) := by decide +kernel
theorem dL_law_513 : decode cL_law 513 = .ok (.aload_n 0, 1) := by decide +kernel
theorem dL_law_514 : decode cL_law 514 = .ok (.iload 4, 2) := by decide +kernel
theorem dL_law_516 : decode cL_law 516 = .ok (.iconst 1, 1) := by decide +kernel
theorem dL_law_517 : decode cL_law 517 = .ok (.iadd, 1) := by decide +kernel
theorem dL_law_518 : decode cL_law 518 = .ok (.iaload, 1) := by decide +kernel
theorem dL_law_519 : decode cL_law 519 = .ok (.aload_n 0, 1) := by decide +kernel
theorem dL_law_520 : decode cL_law 520 = .ok (.iload 4, 2) := by decide +kernel
theorem dL_law_522 : decode cL_law 522 = .ok (.iconst 2, 1) := by decide +kernel
theorem dL_law_523 : decode cL_law 523 = .ok (.iadd, 1) := by decide +kernel
theorem dL_law_524 : decode cL_law 524 = .ok (.iaload, 1) := by decide +kernel
theorem dL_law_525 : decode cL_law 525 = .ok (.invokevirtual 73, 3) := by decide +kernel
theorem dL_law_528 : decode cL_law 528 = .ok (.aload_n 2, 1) := by decide +kernel
theorem dL_law_529 : decode cL_law 529 = .ok (.aload_n 0, 1) := by decide +kernel
theorem dL_law_530 : decode cL_law 530 = .ok (.iload 4, 2) := by decide +kernel
theorem dL_law_532 : decode cL_law 532 = .ok (.iconst 1, 1) := by decide +kernel
theorem dL_law_533 : decode cL_law 533 = .ok (.iadd, 1) := by decide +kernel
theorem dL_law_534 : decode cL_law 534 = .ok (.iaload, 1) := by decide +kernel
theorem dL_law_535 : decode cL_law 535 = .ok (.aload_n 0, 1) := by decide +kernel
theorem dL_law_536 : decode cL_law 536 = .ok (.iload 4, 2) := by decide +kernel
theorem dL_law_538 : decode cL_law 538 = .ok (.iconst 2, 1) := by decide +kernel
theorem dL_law_539 : decode cL_law 539 = .ok (.iadd, 1) := by decide +kernel
theorem dL_law_540 : decode cL_law 540 = .ok (.iaload, 1) := by decide +kernel
theorem dL_law_541 : decode cL_law 541 = .ok (.invokevirtual 76, 3) := by decide +kernel
theorem dL_law_544 : decode cL_law 544 = .ok (.if_icmp .eq 679, 3) := by decide +kernel
theorem dL_law_547 : decode cL_law 547 = .ok (.iconst 0, 1) := by decide +kernel
theorem dL_law_548 : decode cL_law 548 = .ok (.ireturn, 1) := by decide +kernel
theorem dL_law_549 : decode cL_law 549 = .ok (.aload_n 1, 1) := by decide +kernel
theorem dL_law_550 : decode cL_law 550 = .ok (.invokevirtual 77, 3) := by decide +kernel
theorem dL_law_553 : decode cL_law 553 = .ok (.aload_n 2, 1) := by decide +kernel
theorem dL_law_554 : decode cL_law 554 = .ok (.invokevirtual 80, 3) := by decide +kernel
theorem dL_law_557 : decode cL_law 557 = .ok (.if_icmp .eq 666, 3) := by decide +kernel
theorem dL_law_560 : decode cL_law 560 = .ok (.iconst 0, 1) := by decide +kernel
theorem dL_law_561 : decode cL_law 561 = .ok (.ireturn, 1) := by decide +kernel
theorem dL_law_562 : decode cL_law 562 = .ok (.aload_n 1, 1) := by decide +kernel
theorem dL_law_563 : decode cL_law 563 = .ok (.invokevirtual 81, 3) := by decide +kernel
theorem dL_law_566 : decode cL_law 566 = .ok (.aload_n 2, 1) := by decide +kernel
theorem dL_law_567 : decode cL_law 567 = .ok (.invokevirtual 84, 3) := by decide +kernel
theorem dL_law_570 : decode cL_law 570 = .ok (.if_icmp .eq 653, 3) := by decide +kernel
theorem dL_law_573 : decode cL_law 573 = .ok (.iconst 0, 1) := by decide +kernel
theorem dL_law_574 : decode cL_law 574 = .ok (.ireturn, 1) := by decide +kernel
theorem dL_law_575 : decode cL_law 575 = .ok (.aload_n 1, 1) := by decide +kernel
theorem dL_law_576 : decode cL_law 576 = .ok (.aload_n 0, 1) := by decide +kernel
theorem dL_law_577 : decode cL_law 577 = .ok (.iload 4, 2) := by decide +kernel
theorem dL_law_579 : decode cL_law 579 = .ok (.iconst 1, 1) := by decide +kernel
theorem dL_law_580 : decode cL_law 580 = .ok (.iadd, 1) := by decide +kernel
theorem dL_law_581 : decode cL_law 581 = .ok (.iaload, 1) := by decide +kernel
theorem dL_law_582 : decode cL_law 582 = .ok (.invokevirtual 85, 3) := by decide +kernel
theorem dL_law_585 : decode cL_law 585 = .ok (.aload_n 2, 1) := by decide +kernel
theorem dL_law_586 : decode cL_law 586 = .ok (.aload_n 0, 1) := by decide +kernel
theorem dL_law_587 : decode cL_law 587 = .ok (.iload 4, 2) := by decide +kernel
theorem dL_law_589 : decode cL_law 589 = .ok (.iconst 1, 1) := by decide +kernel
theorem dL_law_590 : decode cL_law 590 = .ok (.iadd, 1) := by decide +kernel
theorem dL_law_591 : decode cL_law 591 = .ok (.iaload, 1) := by decide +kernel
theorem dL_law_592 : decode cL_law 592 = .ok (.invokevirtual 88, 3) := by decide +kernel
theorem dL_law_595 : decode cL_law 595 = .ok (.if_icmp .eq 628, 3) := by decide +kernel
theorem dL_law_598 : decode cL_law 598 = .ok (.iconst 0, 1) := by decide +kernel
theorem dL_law_599 : decode cL_law 599 = .ok (.ireturn, 1) := by decide +kernel
theorem dL_law_600 : decode cL_law 600 = .ok (.aload_n 1, 1) := by decide +kernel
theorem dL_law_601 : decode cL_law 601 = .ok (.aload_n 0, 1) := by decide +kernel
theorem dL_law_602 : decode cL_law 602 = .ok (.iload 4, 2) := by decide +kernel
theorem dL_law_604 : decode cL_law 604 = .ok (.iconst 1, 1) := by decide +kernel
theorem dL_law_605 : decode cL_law 605 = .ok (.iadd, 1) := by decide +kernel
theorem dL_law_606 : decode cL_law 606 = .ok (.iaload, 1) := by decide +kernel
theorem dL_law_607 : decode cL_law 607 = .ok (.invokevirtual 89, 3) := by decide +kernel
theorem dL_law_610 : decode cL_law 610 = .ok (.aload_n 2, 1) := by decide +kernel
theorem dL_law_611 : decode cL_law 611 = .ok (.aload_n 0, 1) := by decide +kernel
theorem dL_law_612 : decode cL_law 612 = .ok (.iload 4, 2) := by decide +kernel
theorem dL_law_614 : decode cL_law 614 = .ok (.iconst 1, 1) := by decide +kernel
theorem dL_law_615 : decode cL_law 615 = .ok (.iadd, 1) := by decide +kernel
theorem dL_law_616 : decode cL_law 616 = .ok (.iaload, 1) := by decide +kernel
theorem dL_law_617 : decode cL_law 617 = .ok (.invokevirtual 92, 3) := by decide +kernel
theorem dL_law_620 : decode cL_law 620 = .ok (.if_icmp .eq 603, 3) := by decide +kernel
theorem dL_law_623 : decode cL_law 623 = .ok (.iconst 0, 1) := by decide +kernel
theorem dL_law_624 : decode cL_law 624 = .ok (.ireturn, 1) := by decide +kernel
theorem dL_law_625 : decode cL_law 625 = .ok (.aload_n 1, 1) := by decide +kernel
theorem dL_law_626 : decode cL_law 626 = .ok (.aload_n 0, 1) := by decide +kernel
theorem dL_law_627 : decode cL_law 627 = .ok (.iload 4, 2) := by decide +kernel
theorem dL_law_629 : decode cL_law 629 = .ok (.iconst 1, 1) := by decide +kernel
theorem dL_law_630 : decode cL_law 630 = .ok (.iadd, 1) := by decide +kernel
theorem dL_law_631 : decode cL_law 631 = .ok (.iaload, 1) := by decide +kernel
theorem dL_law_632 : decode cL_law 632 = .ok (.aload_n 0, 1) := by decide +kernel
theorem dL_law_633 : decode cL_law 633 = .ok (.iload 4, 2) := by decide +kernel
theorem dL_law_635 : decode cL_law 635 = .ok (.iconst 2, 1) := by decide +kernel
theorem dL_law_636 : decode cL_law 636 = .ok (.iadd, 1) := by decide +kernel
theorem dL_law_637 : decode cL_law 637 = .ok (.iaload, 1) := by decide +kernel
theorem dL_law_638 : decode cL_law 638 = .ok (.invokevirtual 93, 3) := by decide +kernel
theorem dL_law_641 : decode cL_law 641 = .ok (.aload_n 2, 1) := by decide +kernel
theorem dL_law_642 : decode cL_law 642 = .ok (.aload_n 0, 1) := by decide +kernel
theorem dL_law_643 : decode cL_law 643 = .ok (.iload 4, 2) := by decide +kernel
theorem dL_law_645 : decode cL_law 645 = .ok (.iconst 1, 1) := by decide +kernel
theorem dL_law_646 : decode cL_law 646 = .ok (.iadd, 1) := by decide +kernel
theorem dL_law_647 : decode cL_law 647 = .ok (.iaload, 1) := by decide +kernel
theorem dL_law_648 : decode cL_law 648 = .ok (.aload_n 0, 1) := by decide +kernel
theorem dL_law_649 : decode cL_law 649 = .ok (.iload 4, 2) := by decide +kernel
theorem dL_law_651 : decode cL_law 651 = .ok (.iconst 2, 1) := by decide +kernel
theorem dL_law_652 : decode cL_law 652 = .ok (.iadd, 1) := by decide +kernel
theorem dL_law_653 : decode cL_law 653 = .ok (.iaload, 1) := by decide +kernel
theorem dL_law_654 : decode cL_law 654 = .ok (.invokevirtual 96, 3) := by decide +kernel
theorem dL_law_657 : decode cL_law 657 = .ok (.if_icmp .eq 566, 3) := by decide +kernel
theorem dL_law_660 : decode cL_law 660 = .ok (.iconst 0, 1) := by decide +kernel
theorem dL_law_661 : decode cL_law 661 = .ok (.ireturn, 1) := by decide +kernel
theorem dL_law_662 : decode cL_law 662 = .ok (.aload_n 1, 1) := by decide +kernel
theorem dL_law_663 : decode cL_law 663 = .ok (.aload_n 0, 1) := by decide +kernel
theorem dL_law_664 : decode cL_law 664 = .ok (.iload 4, 2) := by decide +kernel
theorem dL_law_666 : decode cL_law 666 = .ok (.iconst 1, 1) := by decide +kernel
theorem dL_law_667 : decode cL_law 667 = .ok (.iadd, 1) := by decide +kernel
theorem dL_law_668 : decode cL_law 668 = .ok (.iaload, 1) := by decide +kernel
theorem dL_law_669 : decode cL_law 669 = .ok (.aload_n 0, 1) := by decide +kernel
theorem dL_law_670 : decode cL_law 670 = .ok (.iload 4, 2) := by decide +kernel
theorem dL_law_672 : decode cL_law 672 = .ok (.iconst 2, 1) := by decide +kernel
theorem dL_law_673 : decode cL_law 673 = .ok (.iadd, 1) := by decide +kernel
theorem dL_law_674 : decode cL_law 674 = .ok (.iaload, 1) := by decide +kernel
theorem dL_law_675 : decode cL_law 675 = .ok (.invokevirtual 97, 3) := by decide +kernel
theorem dL_law_678 : decode cL_law 678 = .ok (.aload_n 2, 1) := by decide +kernel
theorem dL_law_679 : decode cL_law 679 = .ok (.aload_n 0, 1) := by decide +kernel
theorem dL_law_680 : decode cL_law 680 = .ok (.iload 4, 2) := by decide +kernel
theorem dL_law_682 : decode cL_law 682 = .ok (.iconst 1, 1) := by decide +kernel
theorem dL_law_683 : decode cL_law 683 = .ok (.iadd, 1) := by decide +kernel
theorem dL_law_684 : decode cL_law 684 = .ok (.iaload, 1) := by decide +kernel
theorem dL_law_685 : decode cL_law 685 = .ok (.aload_n 0, 1) := by decide +kernel
theorem dL_law_686 : decode cL_law 686 = .ok (.iload 4, 2) := by decide +kernel
theorem dL_law_688 : decode cL_law 688 = .ok (.iconst 2, 1) := by decide +kernel
theorem dL_law_689 : decode cL_law 689 = .ok (.iadd, 1) := by decide +kernel
theorem dL_law_690 : decode cL_law 690 = .ok (.iaload, 1) := by decide +kernel
theorem dL_law_691 : decode cL_law 691 = .ok (.invokevirtual 100, 3) := by decide +kernel
theorem dL_law_694 : decode cL_law 694 = .ok (.if_icmp .eq 529, 3) := by decide +kernel
theorem dL_law_697 : decode cL_law 697 = .ok (.iconst 0, 1) := by decide +kernel
theorem dL_law_698 : decode cL_law 698 = .ok (.ireturn, 1) := by decide +kernel
theorem dL_law_699 : decode cL_law 699 = .ok (.aload_n 1, 1) := by decide +kernel
theorem dL_law_700 : decode cL_law 700 = .ok (.aload_n 0, 1) := by decide +kernel
theorem dL_law_701 : decode cL_law 701 = .ok (.iload 4, 2) := by decide +kernel
theorem dL_law_703 : decode cL_law 703 = .ok (.iconst 1, 1) := by decide +kernel
theorem dL_law_704 : decode cL_law 704 = .ok (.iadd, 1) := by decide +kernel
theorem dL_law_705 : decode cL_law 705 = .ok (.iaload, 1) := by decide +kernel
theorem dL_law_706 : decode cL_law 706 = .ok (.aload_n 0, 1) := by decide +kernel
theorem dL_law_707 : decode cL_law 707 = .ok (.iload 4, 2) := by decide +kernel
theorem dL_law_709 : decode cL_law 709 = .ok (.iconst 2, 1) := by decide +kernel
theorem dL_law_710 : decode cL_law 710 = .ok (.iadd, 1) := by decide +kernel
theorem dL_law_711 : decode cL_law 711 = .ok (.iaload, 1) := by decide +kernel
theorem dL_law_712 : decode cL_law 712 = .ok (.invokevirtual 101, 3) := by decide +kernel
theorem dL_law_715 : decode cL_law 715 = .ok (.aload_n 2, 1) := by decide +kernel
theorem dL_law_716 : decode cL_law 716 = .ok (.aload_n 0, 1) := by decide +kernel
theorem dL_law_717 : decode cL_law 717 = .ok (.iload 4, 2) := by decide +kernel
theorem dL_law_719 : decode cL_law 719 = .ok (.iconst 1, 1) := by decide +kernel
theorem dL_law_720 : decode cL_law 720 = .ok (.iadd, 1) := by decide +kernel
theorem dL_law_721 : decode cL_law 721 = .ok (.iaload, 1) := by decide +kernel
theorem dL_law_722 : decode cL_law 722 = .ok (.aload_n 0, 1) := by decide +kernel
theorem dL_law_723 : decode cL_law 723 = .ok (.iload 4, 2) := by decide +kernel
theorem dL_law_725 : decode cL_law 725 = .ok (.iconst 2, 1) := by decide +kernel
theorem dL_law_726 : decode cL_law 726 = .ok (.iadd, 1) := by decide +kernel
theorem dL_law_727 : decode cL_law 727 = .ok (.iaload, 1) := by decide +kernel
theorem dL_law_728 : decode cL_law 728 = .ok (.invokevirtual 104, 3) := by decide +kernel
theorem dL_law_731 : decode cL_law 731 = .ok (.if_icmp .eq 492, 3) := by decide +kernel
theorem dL_law_734 : decode cL_law 734 = .ok (.iconst 0, 1) := by decide +kernel
theorem dL_law_735 : decode cL_law 735 = .ok (.ireturn, 1) := by decide +kernel
theorem dL_law_736 : decode cL_law 736 = .ok (.aload_n 1, 1) := by decide +kernel
theorem dL_law_737 : decode cL_law 737 = .ok (.aload_n 0, 1) := by decide +kernel
theorem dL_law_738 : decode cL_law 738 = .ok (.iload 4, 2) := by decide +kernel
theorem dL_law_740 : decode cL_law 740 = .ok (.iconst 1, 1) := by decide +kernel
theorem dL_law_741 : decode cL_law 741 = .ok (.iadd, 1) := by decide +kernel
theorem dL_law_742 : decode cL_law 742 = .ok (.iaload, 1) := by decide +kernel
theorem dL_law_743 : decode cL_law 743 = .ok (.invokevirtual 105, 3) := by decide +kernel
theorem dL_law_746 : decode cL_law 746 = .ok (.aload_n 2, 1) := by decide +kernel
theorem dL_law_747 : decode cL_law 747 = .ok (.aload_n 0, 1) := by decide +kernel
theorem dL_law_748 : decode cL_law 748 = .ok (.iload 4, 2) := by decide +kernel
theorem dL_law_750 : decode cL_law 750 = .ok (.iconst 1, 1) := by decide +kernel
theorem dL_law_751 : decode cL_law 751 = .ok (.iadd, 1) := by decide +kernel
theorem dL_law_752 : decode cL_law 752 = .ok (.iaload, 1) := by decide +kernel
theorem dL_law_753 : decode cL_law 753 = .ok (.invokevirtual 108, 3) := by decide +kernel
theorem dL_law_756 : decode cL_law 756 = .ok (.if_icmp .eq 467, 3) := by decide +kernel
theorem dL_law_759 : decode cL_law 759 = .ok (.iconst 0, 1) := by decide +kernel
theorem dL_law_760 : decode cL_law 760 = .ok (.ireturn, 1) := by decide +kernel
theorem dL_law_761 : decode cL_law 761 = .ok (.aload_n 1, 1) := by decide +kernel
theorem dL_law_762 : decode cL_law 762 = .ok (.aload_n 0, 1) := by decide +kernel
theorem dL_law_763 : decode cL_law 763 = .ok (.iload 4, 2) := by decide +kernel
theorem dL_law_765 : decode cL_law 765 = .ok (.iconst 1, 1) := by decide +kernel
theorem dL_law_766 : decode cL_law 766 = .ok (.iadd, 1) := by decide +kernel
theorem dL_law_767 : decode cL_law 767 = .ok (.iaload, 1) := by decide +kernel
theorem dL_law_768 : decode cL_law 768 = .ok (.aload_n 0, 1) := by decide +kernel
theorem dL_law_769 : decode cL_law 769 = .ok (.iload 4, 2) := by decide +kernel
theorem dL_law_771 : decode cL_law 771 = .ok (.iconst 2, 1) := by decide +kernel
theorem dL_law_772 : decode cL_law 772 = .ok (.iadd, 1) := by decide +kernel
theorem dL_law_773 : decode cL_law 773 = .ok (.iaload, 1) := by decide +kernel
theorem dL_law_774 : decode cL_law 774 = .ok (.invokevirtual 109, 3) := by decide +kernel
theorem dL_law_777 : decode cL_law 777 = .ok (.aload_n 2, 1) := by decide +kernel
theorem dL_law_778 : decode cL_law 778 = .ok (.aload_n 0, 1) := by decide +kernel
theorem dL_law_779 : decode cL_law 779 = .ok (.iload 4, 2) := by decide +kernel
theorem dL_law_781 : decode cL_law 781 = .ok (.iconst 1, 1) := by decide +kernel
theorem dL_law_782 : decode cL_law 782 = .ok (.iadd, 1) := by decide +kernel
theorem dL_law_783 : decode cL_law 783 = .ok (.iaload, 1) := by decide +kernel
theorem dL_law_784 : decode cL_law 784 = .ok (.aload_n 0, 1) := by decide +kernel
theorem dL_law_785 : decode cL_law 785 = .ok (.iload 4, 2) := by decide +kernel
theorem dL_law_787 : decode cL_law 787 = .ok (.iconst 2, 1) := by decide +kernel
theorem dL_law_788 : decode cL_law 788 = .ok (.iadd, 1) := by decide +kernel
theorem dL_law_789 : decode cL_law 789 = .ok (.iaload, 1) := by decide +kernel
theorem dL_law_790 : decode cL_law 790 = .ok (.invokevirtual 112, 3) := by decide +kernel
theorem dL_law_793 : decode cL_law 793 = .ok (.if_icmp .eq 430, 3) := by decide +kernel
theorem dL_law_796 : decode cL_law 796 = .ok (.iconst 0, 1) := by decide +kernel
theorem dL_law_797 : decode cL_law 797 = .ok (.ireturn, 1) := by decide +kernel
theorem dL_law_798 : decode cL_law 798 = .ok (.aload_n 1, 1) := by decide +kernel
theorem dL_law_799 : decode cL_law 799 = .ok (.aload_n 0, 1) := by decide +kernel
theorem dL_law_800 : decode cL_law 800 = .ok (.iload 4, 2) := by decide +kernel
theorem dL_law_802 : decode cL_law 802 = .ok (.iconst 1, 1) := by decide +kernel
theorem dL_law_803 : decode cL_law 803 = .ok (.iadd, 1) := by decide +kernel
theorem dL_law_804 : decode cL_law 804 = .ok (.iaload, 1) := by decide +kernel
theorem dL_law_805 : decode cL_law 805 = .ok (.invokevirtual 113, 3) := by decide +kernel
theorem dL_law_808 : decode cL_law 808 = .ok (.aload_n 2, 1) := by decide +kernel
theorem dL_law_809 : decode cL_law 809 = .ok (.aload_n 0, 1) := by decide +kernel
theorem dL_law_810 : decode cL_law 810 = .ok (.iload 4, 2) := by decide +kernel
theorem dL_law_812 : decode cL_law 812 = .ok (.iconst 1, 1) := by decide +kernel
theorem dL_law_813 : decode cL_law 813 = .ok (.iadd, 1) := by decide +kernel
theorem dL_law_814 : decode cL_law 814 = .ok (.iaload, 1) := by decide +kernel
theorem dL_law_815 : decode cL_law 815 = .ok (.invokevirtual 116, 3) := by decide +kernel
theorem dL_law_818 : decode cL_law 818 = .ok (.if_icmp .eq 405, 3) := by decide +kernel
theorem dL_law_821 : decode cL_law 821 = .ok (.iconst 0, 1) := by decide +kernel
theorem dL_law_822 : decode cL_law 822 = .ok (.ireturn, 1) := by decide +kernel
theorem dL_law_823 : decode cL_law 823 = .ok (.aload_n 1, 1) := by decide +kernel
theorem dL_law_824 : decode cL_law 824 = .ok (.invokevirtual 117, 3) := by decide +kernel
theorem dL_law_827 : decode cL_law 827 = .ok (.aload_n 2, 1) := by decide +kernel
theorem dL_law_828 : decode cL_law 828 = .ok (.invokevirtual 120, 3) := by decide +kernel
theorem dL_law_831 : decode cL_law 831 = .ok (.if_icmp .eq 392, 3) := by decide +kernel
theorem dL_law_834 : decode cL_law 834 = .ok (.iconst 0, 1) := by decide +kernel
theorem dL_law_835 : decode cL_law 835 = .ok (.ireturn, 1) := by decide +kernel
theorem dL_law_836 : decode cL_law 836 = .ok (.aload_n 1, 1) := by decide +kernel
theorem dL_law_837 : decode cL_law 837 = .ok (.invokevirtual 121, 3) := by decide +kernel
theorem dL_law_840 : decode cL_law 840 = .ok (.aload_n 2, 1) := by decide +kernel
theorem dL_law_841 : decode cL_law 841 = .ok (.invokevirtual 124, 3) := by decide +kernel
theorem dL_law_844 : decode cL_law 844 = .ok (.if_icmp .eq 379, 3) := by decide +kernel
theorem dL_law_847 : decode cL_law 847 = .ok (.iconst 0, 1) := by decide +kernel
theorem dL_law_848 : decode cL_law 848 = .ok (.ireturn, 1) := by decide +kernel
theorem dL_law_849 : decode cL_law 849 = .ok (.aload_n 1, 1) := by decide +kernel
theorem dL_law_850 : decode cL_law 850 = .ok (.aload_n 0, 1) := by decide +kernel
theorem dL_law_851 : decode cL_law 851 = .ok (.iload 4, 2) := by decide +kernel
theorem dL_law_853 : decode cL_law 853 = .ok (.iconst 1, 1) := by decide +kernel
theorem dL_law_854 : decode cL_law 854 = .ok (.iadd, 1) := by decide +kernel
theorem dL_law_855 : decode cL_law 855 = .ok (.iaload, 1) := by decide +kernel
theorem dL_law_856 : decode cL_law 856 = .ok (.invokevirtual 125, 3) := by decide +kernel
theorem dL_law_859 : decode cL_law 859 = .ok (.aload_n 2, 1) := by decide +kernel
theorem dL_law_860 : decode cL_law 860 = .ok (.aload_n 0, 1) := by decide +kernel
theorem dL_law_861 : decode cL_law 861 = .ok (.iload 4, 2) := by decide +kernel
theorem dL_law_863 : decode cL_law 863 = .ok (.iconst 1, 1) := by decide +kernel
theorem dL_law_864 : decode cL_law 864 = .ok (.iadd, 1) := by decide +kernel
theorem dL_law_865 : decode cL_law 865 = .ok (.iaload, 1) := by decide +kernel
theorem dL_law_866 : decode cL_law 866 = .ok (.invokevirtual 128, 3) := by decide +kernel
theorem dL_law_869 : decode cL_law 869 = .ok (.if_icmp .eq 354, 3) := by decide +kernel
theorem dL_law_872 : decode cL_law 872 = .ok (.iconst 0, 1) := by decide +kernel
theorem dL_law_873 : decode cL_law 873 = .ok (.ireturn, 1) := by decide +kernel
theorem dL_law_874 : decode cL_law 874 = .ok (.aload_n 1, 1) := by decide +kernel
theorem dL_law_875 : decode cL_law 875 = .ok (.aload_n 0, 1) := by decide +kernel
theorem dL_law_876 : decode cL_law 876 = .ok (.iload 4, 2) := by decide +kernel
theorem dL_law_878 : decode cL_law 878 = .ok (.iconst 1, 1) := by decide +kernel
theorem dL_law_879 : decode cL_law 879 = .ok (.iadd, 1) := by decide +kernel
theorem dL_law_880 : decode cL_law 880 = .ok (.iaload, 1) := by decide +kernel
theorem dL_law_881 : decode cL_law 881 = .ok (.aload_n 0, 1) := by decide +kernel
theorem dL_law_882 : decode cL_law 882 = .ok (.iload 4, 2) := by decide +kernel
theorem dL_law_884 : decode cL_law 884 = .ok (.iconst 2, 1) := by decide +kernel
theorem dL_law_885 : decode cL_law 885 = .ok (.iadd, 1) := by decide +kernel
theorem dL_law_886 : decode cL_law 886 = .ok (.iaload, 1) := by decide +kernel
theorem dL_law_887 : decode cL_law 887 = .ok (.aload_n 0, 1) := by decide +kernel
theorem dL_law_888 : decode cL_law 888 = .ok (.iload 4, 2) := by decide +kernel
theorem dL_law_890 : decode cL_law 890 = .ok (.iconst 3, 1) := by decide +kernel
theorem dL_law_891 : decode cL_law 891 = .ok (.iadd, 1) := by decide +kernel
theorem dL_law_892 : decode cL_law 892 = .ok (.iaload, 1) := by decide +kernel
theorem dL_law_893 : decode cL_law 893 = .ok (.aload_n 0, 1) := by decide +kernel
theorem dL_law_894 : decode cL_law 894 = .ok (.iload 4, 2) := by decide +kernel
theorem dL_law_896 : decode cL_law 896 = .ok (.iconst 4, 1) := by decide +kernel
theorem dL_law_897 : decode cL_law 897 = .ok (.iadd, 1) := by decide +kernel
theorem dL_law_898 : decode cL_law 898 = .ok (.iaload, 1) := by decide +kernel
theorem dL_law_899 : decode cL_law 899 = .ok (.invokevirtual 129, 3) := by decide +kernel
theorem dL_law_902 : decode cL_law 902 = .ok (.aload_n 2, 1) := by decide +kernel
theorem dL_law_903 : decode cL_law 903 = .ok (.aload_n 0, 1) := by decide +kernel
theorem dL_law_904 : decode cL_law 904 = .ok (.iload 4, 2) := by decide +kernel
theorem dL_law_906 : decode cL_law 906 = .ok (.iconst 1, 1) := by decide +kernel
theorem dL_law_907 : decode cL_law 907 = .ok (.iadd, 1) := by decide +kernel
theorem dL_law_908 : decode cL_law 908 = .ok (.iaload, 1) := by decide +kernel
theorem dL_law_909 : decode cL_law 909 = .ok (.aload_n 0, 1) := by decide +kernel
theorem dL_law_910 : decode cL_law 910 = .ok (.iload 4, 2) := by decide +kernel
theorem dL_law_912 : decode cL_law 912 = .ok (.iconst 2, 1) := by decide +kernel
theorem dL_law_913 : decode cL_law 913 = .ok (.iadd, 1) := by decide +kernel
theorem dL_law_914 : decode cL_law 914 = .ok (.iaload, 1) := by decide +kernel
theorem dL_law_915 : decode cL_law 915 = .ok (.aload_n 0, 1) := by decide +kernel
theorem dL_law_916 : decode cL_law 916 = .ok (.iload 4, 2) := by decide +kernel
theorem dL_law_918 : decode cL_law 918 = .ok (.iconst 3, 1) := by decide +kernel
theorem dL_law_919 : decode cL_law 919 = .ok (.iadd, 1) := by decide +kernel
theorem dL_law_920 : decode cL_law 920 = .ok (.iaload, 1) := by decide +kernel
theorem dL_law_921 : decode cL_law 921 = .ok (.aload_n 0, 1) := by decide +kernel
theorem dL_law_922 : decode cL_law 922 = .ok (.iload 4, 2) := by decide +kernel
theorem dL_law_924 : decode cL_law 924 = .ok (.iconst 4, 1) := by decide +kernel
theorem dL_law_925 : decode cL_law 925 = .ok (.iadd, 1) := by decide +kernel
theorem dL_law_926 : decode cL_law 926 = .ok (.iaload, 1) := by decide +kernel
theorem dL_law_927 : decode cL_law 927 = .ok (.invokevirtual 133, 3) := by decide +kernel
theorem dL_law_930 : decode cL_law 930 = .ok (.if_icmp .eq 293, 3) := by decide +kernel
theorem dL_law_933 : decode cL_law 933 = .ok (.iconst 0, 1) := by decide +kernel
theorem dL_law_934 : decode cL_law 934 = .ok (.ireturn, 1) := by decide +kernel
theorem dL_law_935 : decode cL_law 935 = .ok (.aload_n 1, 1) := by decide +kernel
theorem dL_law_936 : decode cL_law 936 = .ok (.aload_n 0, 1) := by decide +kernel
theorem dL_law_937 : decode cL_law 937 = .ok (.iload 4, 2) := by decide +kernel
theorem dL_law_939 : decode cL_law 939 = .ok (.iconst 1, 1) := by decide +kernel
theorem dL_law_940 : decode cL_law 940 = .ok (.iadd, 1) := by decide +kernel
theorem dL_law_941 : decode cL_law 941 = .ok (.iaload, 1) := by decide +kernel
theorem dL_law_942 : decode cL_law 942 = .ok (.aload_n 0, 1) := by decide +kernel
theorem dL_law_943 : decode cL_law 943 = .ok (.iload 4, 2) := by decide +kernel
theorem dL_law_945 : decode cL_law 945 = .ok (.iconst 2, 1) := by decide +kernel
theorem dL_law_946 : decode cL_law 946 = .ok (.iadd, 1) := by decide +kernel
theorem dL_law_947 : decode cL_law 947 = .ok (.iaload, 1) := by decide +kernel
theorem dL_law_948 : decode cL_law 948 = .ok (.aload_n 0, 1) := by decide +kernel
theorem dL_law_949 : decode cL_law 949 = .ok (.iload 4, 2) := by decide +kernel
theorem dL_law_951 : decode cL_law 951 = .ok (.iconst 3, 1) := by decide +kernel
theorem dL_law_952 : decode cL_law 952 = .ok (.iadd, 1) := by decide +kernel
theorem dL_law_953 : decode cL_law 953 = .ok (.iaload, 1) := by decide +kernel
theorem dL_law_954 : decode cL_law 954 = .ok (.invokevirtual 134, 3) := by decide +kernel
theorem dL_law_957 : decode cL_law 957 = .ok (.aload_n 2, 1) := by decide +kernel
theorem dL_law_958 : decode cL_law 958 = .ok (.aload_n 0, 1) := by decide +kernel
theorem dL_law_959 : decode cL_law 959 = .ok (.iload 4, 2) := by decide +kernel
theorem dL_law_961 : decode cL_law 961 = .ok (.iconst 1, 1) := by decide +kernel
theorem dL_law_962 : decode cL_law 962 = .ok (.iadd, 1) := by decide +kernel
theorem dL_law_963 : decode cL_law 963 = .ok (.iaload, 1) := by decide +kernel
theorem dL_law_964 : decode cL_law 964 = .ok (.aload_n 0, 1) := by decide +kernel
theorem dL_law_965 : decode cL_law 965 = .ok (.iload 4, 2) := by decide +kernel
theorem dL_law_967 : decode cL_law 967 = .ok (.iconst 2, 1) := by decide +kernel
theorem dL_law_968 : decode cL_law 968 = .ok (.iadd, 1) := by decide +kernel
theorem dL_law_969 : decode cL_law 969 = .ok (.iaload, 1) := by decide +kernel
theorem dL_law_970 : decode cL_law 970 = .ok (.aload_n 0, 1) := by decide +kernel
theorem dL_law_971 : decode cL_law 971 = .ok (.iload 4, 2) := by decide +kernel
theorem dL_law_973 : decode cL_law 973 = .ok (.iconst 3, 1) := by decide +kernel
theorem dL_law_974 : decode cL_law 974 = .ok (.iadd, 1) := by decide +kernel
theorem dL_law_975 : decode cL_law 975 = .ok (.iaload, 1) := by decide +kernel
theorem dL_law_976 : decode cL_law 976 = .ok (.invokevirtual 137, 3) := by decide +kernel
theorem dL_law_979 : decode cL_law 979 = .ok (.if_icmp .eq 244, 3) := by decide +kernel
theorem dL_law_982 : decode cL_law 982 = .ok (.iconst 0, 1) := by decide +kernel
theorem dL_law_983 : decode cL_law 983 = .ok (.ireturn, 1) := by decide +kernel
theorem dL_law_984 : decode cL_law 984 = .ok (.aload_n 1, 1) := by decide +kernel
theorem dL_law_985 : decode cL_law 985 = .ok (.aload_n 0, 1) := by decide +kernel
theorem dL_law_986 : decode cL_law 986 = .ok (.iload 4, 2) := by decide +kernel
theorem dL_law_988 : decode cL_law 988 = .ok (.iconst 1, 1) := by decide +kernel
theorem dL_law_989 : decode cL_law 989 = .ok (.iadd, 1) := by decide +kernel
theorem dL_law_990 : decode cL_law 990 = .ok (.iaload, 1) := by decide +kernel
theorem dL_law_991 : decode cL_law 991 = .ok (.aload_n 0, 1) := by decide +kernel
theorem dL_law_992 : decode cL_law 992 = .ok (.iload 4, 2) := by decide +kernel
theorem dL_law_994 : decode cL_law 994 = .ok (.iconst 2, 1) := by decide +kernel
theorem dL_law_995 : decode cL_law 995 = .ok (.iadd, 1) := by decide +kernel
theorem dL_law_996 : decode cL_law 996 = .ok (.iaload, 1) := by decide +kernel
theorem dL_law_997 : decode cL_law 997 = .ok (.aload_n 0, 1) := by decide +kernel
theorem dL_law_998 : decode cL_law 998 = .ok (.iload 4, 2) := by decide +kernel
theorem dL_law_1000 : decode cL_law 1000 = .ok (.iconst 3, 1) := by decide +kernel
theorem dL_law_1001 : decode cL_law 1001 = .ok (.iadd, 1) := by decide +kernel
theorem dL_law_1002 : decode cL_law 1002 = .ok (.iaload, 1) := by decide +kernel
theorem dL_law_1003 : decode cL_law 1003 = .ok (.invokevirtual 138, 3) := by decide +kernel
theorem dL_law_1006 : decode cL_law 1006 = .ok (.aload_n 2, 1) := by decide +kernel
theorem dL_law_1007 : decode cL_law 1007 = .ok (.aload_n 0, 1) := by decide +kernel
theorem dL_law_1008 : decode cL_law 1008 = .ok (.iload 4, 2) := by decide +kernel
theorem dL_law_1010 : decode cL_law 1010 = .ok (.iconst 1, 1) := by decide +kernel
theorem dL_law_1011 : decode cL_law 1011 = .ok (.iadd, 1) := by decide +kernel
theorem dL_law_1012 : decode cL_law 1012 = .ok (.iaload, 1) := by decide +kernel
theorem dL_law_1013 : decode cL_law 1013 = .ok (.aload_n 0, 1) := by decide +kernel
theorem dL_law_1014 : decode cL_law 1014 = .ok (.iload 4, 2) := by decide +kernel
theorem dL_law_1016 : decode cL_law 1016 = .ok (.iconst 2, 1) := by decide +kernel
theorem dL_law_1017 : decode cL_law 1017 = .ok (.iadd, 1) := by decide +kernel
theorem dL_law_1018 : decode cL_law 1018 = .ok (.iaload, 1) := by decide +kernel
theorem dL_law_1019 : decode cL_law 1019 = .ok (.aload_n 0, 1) := by decide +kernel
theorem dL_law_1020 : decode cL_law 1020 = .ok (.iload 4, 2) := by decide +kernel
theorem dL_law_1022 : decode cL_law 1022 = .ok (.iconst 3, 1) := by decide +kernel
theorem dL_law_1023 : decode cL_law 1023 = .ok (.iadd, 1) := by decide +kernel
theorem dL_law_1024 : decode cL_law 1024 = .ok (.iaload, 1) := by decide +kernel
theorem dL_law_1025 : decode cL_law 1025 = .ok (.invokevirtual 141, 3) := by decide +kernel
theorem dL_law_1028 : decode cL_law 1028 = .ok (.if_icmp .eq 195, 3) := by decide +kernel
theorem dL_law_1031 : decode cL_law 1031 = .ok (.iconst 0, 1) := by decide +kernel
theorem dL_law_1032 : decode cL_law 1032 = .ok (.ireturn, 1) := by decide +kernel
theorem dL_law_1033 : decode cL_law 1033 = .ok (.aload_n 1, 1) := by decide +kernel
theorem dL_law_1034 : decode cL_law 1034 = .ok (.aload_n 0, 1) := by decide +kernel
theorem dL_law_1035 : decode cL_law 1035 = .ok (.iload 4, 2) := by decide +kernel
theorem dL_law_1037 : decode cL_law 1037 = .ok (.iconst 1, 1) := by decide +kernel
theorem dL_law_1038 : decode cL_law 1038 = .ok (.iadd, 1) := by decide +kernel
theorem dL_law_1039 : decode cL_law 1039 = .ok (.iaload, 1) := by decide +kernel
theorem dL_law_1040 : decode cL_law 1040 = .ok (.aload_n 0, 1) := by decide +kernel
theorem dL_law_1041 : decode cL_law 1041 = .ok (.iload 4, 2) := by decide +kernel
theorem dL_law_1043 : decode cL_law 1043 = .ok (.iconst 2, 1) := by decide +kernel
theorem dL_law_1044 : decode cL_law 1044 = .ok (.iadd, 1) := by decide +kernel
theorem dL_law_1045 : decode cL_law 1045 = .ok (.iaload, 1) := by decide +kernel
theorem dL_law_1046 : decode cL_law 1046 = .ok (.aload_n 3, 1) := by decide +kernel
theorem dL_law_1047 : decode cL_law 1047 = .ok (.invokestatic 142, 3) := by decide +kernel
theorem dL_law_1050 : decode cL_law 1050 = .ok (.istore 5, 2) := by decide +kernel
theorem dL_law_1052 : decode cL_law 1052 = .ok (.aload_n 2, 1) := by decide +kernel
theorem dL_law_1053 : decode cL_law 1053 = .ok (.aload_n 0, 1) := by decide +kernel
theorem dL_law_1054 : decode cL_law 1054 = .ok (.iload 4, 2) := by decide +kernel
theorem dL_law_1056 : decode cL_law 1056 = .ok (.iconst 1, 1) := by decide +kernel
theorem dL_law_1057 : decode cL_law 1057 = .ok (.iadd, 1) := by decide +kernel
theorem dL_law_1058 : decode cL_law 1058 = .ok (.iaload, 1) := by decide +kernel
theorem dL_law_1059 : decode cL_law 1059 = .ok (.aload_n 0, 1) := by decide +kernel
theorem dL_law_1060 : decode cL_law 1060 = .ok (.iload 4, 2) := by decide +kernel
theorem dL_law_1062 : decode cL_law 1062 = .ok (.iconst 2, 1) := by decide +kernel
theorem dL_law_1063 : decode cL_law 1063 = .ok (.iadd, 1) := by decide +kernel
theorem dL_law_1064 : decode cL_law 1064 = .ok (.iaload, 1) := by decide +kernel
theorem dL_law_1065 : decode cL_law 1065 = .ok (.invokevirtual 147, 3) := by decide +kernel
theorem dL_law_1068 : decode cL_law 1068 = .ok (.lstore 6, 2) := by decide +kernel
theorem dL_law_1070 : decode cL_law 1070 = .ok (.aload_n 2, 1) := by decide +kernel
theorem dL_law_1071 : decode cL_law 1071 = .ok (.invokevirtual 148, 3) := by decide +kernel
theorem dL_law_1074 : decode cL_law 1074 = .ok (.iload 5, 2) := by decide +kernel
theorem dL_law_1076 : decode cL_law 1076 = .ok (.if_icmp .eq 5, 3) := by decide +kernel
theorem dL_law_1079 : decode cL_law 1079 = .ok (.iconst 0, 1) := by decide +kernel
theorem dL_law_1080 : decode cL_law 1080 = .ok (.ireturn, 1) := by decide +kernel
theorem dL_law_1081 : decode cL_law 1081 = .ok (.iload 5, 2) := by decide +kernel
theorem dL_law_1083 : decode cL_law 1083 = .ok (.ifCond .ne 14, 3) := by decide +kernel
theorem dL_law_1086 : decode cL_law 1086 = .ok (.aload_n 3, 1) := by decide +kernel
theorem dL_law_1087 : decode cL_law 1087 = .ok (.iconst 0, 1) := by decide +kernel
theorem dL_law_1088 : decode cL_law 1088 = .ok (.laload, 1) := by decide +kernel
theorem dL_law_1089 : decode cL_law 1089 = .ok (.lload 6, 2) := by decide +kernel
theorem dL_law_1091 : decode cL_law 1091 = .ok (.lcmp, 1) := by decide +kernel
theorem dL_law_1092 : decode cL_law 1092 = .ok (.ifCond .eq 5, 3) := by decide +kernel
theorem dL_law_1095 : decode cL_law 1095 = .ok (.iconst 0, 1) := by decide +kernel
theorem dL_law_1096 : decode cL_law 1096 = .ok (.ireturn, 1) := by decide +kernel
theorem dL_law_1097 : decode cL_law 1097 = .ok (.goto 126, 3) := by decide +kernel
theorem dL_law_1100 : decode cL_law 1100 = .ok (.aload_n 1, 1) := by decide +kernel
theorem dL_law_1101 : decode cL_law 1101 = .ok (.aload_n 0, 1) := by decide +kernel
theorem dL_law_1102 : decode cL_law 1102 = .ok (.iload 4, 2) := by decide +kernel
theorem dL_law_1104 : decode cL_law 1104 = .ok (.iconst 1, 1) := by decide +kernel
theorem dL_law_1105 : decode cL_law 1105 = .ok (.iadd, 1) := by decide +kernel
theorem dL_law_1106 : decode cL_law 1106 = .ok (.iaload, 1) := by decide +kernel
theorem dL_law_1107 : decode cL_law 1107 = .ok (.aload_n 0, 1) := by decide +kernel
theorem dL_law_1108 : decode cL_law 1108 = .ok (.iload 4, 2) := by decide +kernel
theorem dL_law_1110 : decode cL_law 1110 = .ok (.iconst 2, 1) := by decide +kernel
theorem dL_law_1111 : decode cL_law 1111 = .ok (.iadd, 1) := by decide +kernel
theorem dL_law_1112 : decode cL_law 1112 = .ok (.iaload, 1) := by decide +kernel
theorem dL_law_1113 : decode cL_law 1113 = .ok (.aload_n 0, 1) := by decide +kernel
theorem dL_law_1114 : decode cL_law 1114 = .ok (.iload 4, 2) := by decide +kernel
theorem dL_law_1116 : decode cL_law 1116 = .ok (.iconst 3, 1) := by decide +kernel
theorem dL_law_1117 : decode cL_law 1117 = .ok (.iadd, 1) := by decide +kernel
theorem dL_law_1118 : decode cL_law 1118 = .ok (.iaload, 1) := by decide +kernel
theorem dL_law_1119 : decode cL_law 1119 = .ok (.aload_n 0, 1) := by decide +kernel
theorem dL_law_1120 : decode cL_law 1120 = .ok (.iload 4, 2) := by decide +kernel
theorem dL_law_1122 : decode cL_law 1122 = .ok (.iconst 4, 1) := by decide +kernel
theorem dL_law_1123 : decode cL_law 1123 = .ok (.iadd, 1) := by decide +kernel
theorem dL_law_1124 : decode cL_law 1124 = .ok (.iaload, 1) := by decide +kernel
theorem dL_law_1125 : decode cL_law 1125 = .ok (.aload_n 0, 1) := by decide +kernel
theorem dL_law_1126 : decode cL_law 1126 = .ok (.iload 4, 2) := by decide +kernel
theorem dL_law_1128 : decode cL_law 1128 = .ok (.iconst 5, 1) := by decide +kernel
theorem dL_law_1129 : decode cL_law 1129 = .ok (.iadd, 1) := by decide +kernel
theorem dL_law_1130 : decode cL_law 1130 = .ok (.iaload, 1) := by decide +kernel
theorem dL_law_1131 : decode cL_law 1131 = .ok (.invokevirtual 151, 3) := by decide +kernel
theorem dL_law_1134 : decode cL_law 1134 = .ok (.aload_n 2, 1) := by decide +kernel
theorem dL_law_1135 : decode cL_law 1135 = .ok (.aload_n 0, 1) := by decide +kernel
theorem dL_law_1136 : decode cL_law 1136 = .ok (.iload 4, 2) := by decide +kernel
theorem dL_law_1138 : decode cL_law 1138 = .ok (.iconst 1, 1) := by decide +kernel
theorem dL_law_1139 : decode cL_law 1139 = .ok (.iadd, 1) := by decide +kernel
theorem dL_law_1140 : decode cL_law 1140 = .ok (.iaload, 1) := by decide +kernel
theorem dL_law_1141 : decode cL_law 1141 = .ok (.aload_n 0, 1) := by decide +kernel
theorem dL_law_1142 : decode cL_law 1142 = .ok (.iload 4, 2) := by decide +kernel
theorem dL_law_1144 : decode cL_law 1144 = .ok (.iconst 2, 1) := by decide +kernel
theorem dL_law_1145 : decode cL_law 1145 = .ok (.iadd, 1) := by decide +kernel
theorem dL_law_1146 : decode cL_law 1146 = .ok (.iaload, 1) := by decide +kernel
theorem dL_law_1147 : decode cL_law 1147 = .ok (.aload_n 0, 1) := by decide +kernel
theorem dL_law_1148 : decode cL_law 1148 = .ok (.iload 4, 2) := by decide +kernel
theorem dL_law_1150 : decode cL_law 1150 = .ok (.iconst 3, 1) := by decide +kernel
theorem dL_law_1151 : decode cL_law 1151 = .ok (.iadd, 1) := by decide +kernel
theorem dL_law_1152 : decode cL_law 1152 = .ok (.iaload, 1) := by decide +kernel
theorem dL_law_1153 : decode cL_law 1153 = .ok (.aload_n 0, 1) := by decide +kernel
theorem dL_law_1154 : decode cL_law 1154 = .ok (.iload 4, 2) := by decide +kernel
theorem dL_law_1156 : decode cL_law 1156 = .ok (.iconst 4, 1) := by decide +kernel
theorem dL_law_1157 : decode cL_law 1157 = .ok (.iadd, 1) := by decide +kernel
theorem dL_law_1158 : decode cL_law 1158 = .ok (.iaload, 1) := by decide +kernel
theorem dL_law_1159 : decode cL_law 1159 = .ok (.aload_n 0, 1) := by decide +kernel
theorem dL_law_1160 : decode cL_law 1160 = .ok (.iload 4, 2) := by decide +kernel
theorem dL_law_1162 : decode cL_law 1162 = .ok (.iconst 5, 1) := by decide +kernel
theorem dL_law_1163 : decode cL_law 1163 = .ok (.iadd, 1) := by decide +kernel
theorem dL_law_1164 : decode cL_law 1164 = .ok (.iaload, 1) := by decide +kernel
theorem dL_law_1165 : decode cL_law 1165 = .ok (.invokevirtual 155, 3) := by decide +kernel
theorem dL_law_1168 : decode cL_law 1168 = .ok (.if_icmp .eq 55, 3) := by decide +kernel
theorem dL_law_1171 : decode cL_law 1171 = .ok (.iconst 0, 1) := by decide +kernel
theorem dL_law_1172 : decode cL_law 1172 = .ok (.ireturn, 1) := by decide +kernel
theorem dL_law_1173 : decode cL_law 1173 = .ok (.aload_n 1, 1) := by decide +kernel
theorem dL_law_1174 : decode cL_law 1174 = .ok (.aload_n 0, 1) := by decide +kernel
theorem dL_law_1175 : decode cL_law 1175 = .ok (.iload 4, 2) := by decide +kernel
theorem dL_law_1177 : decode cL_law 1177 = .ok (.iconst 1, 1) := by decide +kernel
theorem dL_law_1178 : decode cL_law 1178 = .ok (.iadd, 1) := by decide +kernel
theorem dL_law_1179 : decode cL_law 1179 = .ok (.iaload, 1) := by decide +kernel
theorem dL_law_1180 : decode cL_law 1180 = .ok (.invokevirtual 156, 3) := by decide +kernel
theorem dL_law_1183 : decode cL_law 1183 = .ok (.aload_n 2, 1) := by decide +kernel
theorem dL_law_1184 : decode cL_law 1184 = .ok (.aload_n 0, 1) := by decide +kernel
theorem dL_law_1185 : decode cL_law 1185 = .ok (.iload 4, 2) := by decide +kernel
theorem dL_law_1187 : decode cL_law 1187 = .ok (.iconst 1, 1) := by decide +kernel
theorem dL_law_1188 : decode cL_law 1188 = .ok (.iadd, 1) := by decide +kernel
theorem dL_law_1189 : decode cL_law 1189 = .ok (.iaload, 1) := by decide +kernel
theorem dL_law_1190 : decode cL_law 1190 = .ok (.invokevirtual 159, 3) := by decide +kernel
theorem dL_law_1193 : decode cL_law 1193 = .ok (.if_icmp .eq 30, 3) := by decide +kernel
theorem dL_law_1196 : decode cL_law 1196 = .ok (.iconst 0, 1) := by decide +kernel
theorem dL_law_1197 : decode cL_law 1197 = .ok (.ireturn, 1) := by decide +kernel
theorem dL_law_1198 : decode cL_law 1198 = .ok (.aload_n 1, 1) := by decide +kernel
theorem dL_law_1199 : decode cL_law 1199 = .ok (.aload_n 0, 1) := by decide +kernel
theorem dL_law_1200 : decode cL_law 1200 = .ok (.iload 4, 2) := by decide +kernel
theorem dL_law_1202 : decode cL_law 1202 = .ok (.iconst 1, 1) := by decide +kernel
theorem dL_law_1203 : decode cL_law 1203 = .ok (.iadd, 1) := by decide +kernel
theorem dL_law_1204 : decode cL_law 1204 = .ok (.iaload, 1) := by decide +kernel
theorem dL_law_1205 : decode cL_law 1205 = .ok (.invokevirtual 160, 3) := by decide +kernel
theorem dL_law_1208 : decode cL_law 1208 = .ok (.aload_n 2, 1) := by decide +kernel
theorem dL_law_1209 : decode cL_law 1209 = .ok (.aload_n 0, 1) := by decide +kernel
theorem dL_law_1210 : decode cL_law 1210 = .ok (.iload 4, 2) := by decide +kernel
theorem dL_law_1212 : decode cL_law 1212 = .ok (.iconst 1, 1) := by decide +kernel
theorem dL_law_1213 : decode cL_law 1213 = .ok (.iadd, 1) := by decide +kernel
theorem dL_law_1214 : decode cL_law 1214 = .ok (.iaload, 1) := by decide +kernel
theorem dL_law_1215 : decode cL_law 1215 = .ok (.invokevirtual 163, 3) := by decide +kernel
theorem dL_law_1218 : decode cL_law 1218 = .ok (.if_icmp .eq 5, 3) := by decide +kernel
theorem dL_law_1221 : decode cL_law 1221 = .ok (.iconst 0, 1) := by decide +kernel
theorem dL_law_1222 : decode cL_law 1222 = .ok (.ireturn, 1) := by decide +kernel
theorem dL_law_1223 : decode cL_law 1223 = .ok (.iinc 4 6, 3) := by decide +kernel
theorem dL_law_1226 : decode cL_law 1226 = .ok (.goto (-1203), 3) := by decide +kernel
theorem dL_law_1229 : decode cL_law 1229 = .ok (.iconst 1, 1) := by decide +kernel
theorem dL_law_1230 : decode cL_law 1230 = .ok (.ireturn, 1) := by decide +kernel
