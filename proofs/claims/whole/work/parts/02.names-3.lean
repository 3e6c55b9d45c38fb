def wsX12_partsAll_r2 : List Cond := [Cond.methodLink RX12 205 yX12_parts, Cond.instanceMethod yX12_parts, Cond.selects RX12 yX12_parts yX12_parts, Cond.code yX12_parts cX12_parts 7 none, Cond.methodLink RX12 201 yX12_partsAre, Cond.instanceMethod yX12_partsAre, Cond.selects RX12 yX12_partsAre yX12_partsAre, Cond.code yX12_partsAre cX12_partsAre 9 none, Cond.methodLink RX12 183 yX12_isLawful, Cond.instanceMethod yX12_isLawful, Cond.selects RX12 yX12_isLawful yX12_isLawful, Cond.code yX12_isLawful cX12_isLawful 1 (some .boolean), Cond.methodLink RX12 99 yX12_breachesAll, Cond.instanceMethod yX12_breachesAll, Cond.selects RX12 yX12_breachesAll yX12_breachesAll, Cond.code yX12_breachesAll cX12_breachesAll 3 (some .int), Cond.methodLink RX12 96 yX12_breachesOf, Cond.instanceMethod yX12_breachesOf, Cond.selects RX12 yX12_breachesOf yX12_breachesOf, Cond.code yX12_breachesOf cX12_breachesOf 2 (some .int), Cond.methodLink RX12 90 yX12_tooMuchBy, Cond.instanceMethod yX12_tooMuchBy, Cond.selects RX12 yX12_tooMuchBy yX12_tooMuchBy, Cond.code yX12_tooMuchBy cX12_tooMuchBy 6 (some .int)]
def wsX12_partsAll_r3 : List Cond := [Cond.methodLink RX12 78 yX12_beside, Cond.instanceMethod yX12_beside, Cond.selects RX12 yX12_beside yX12_beside, Cond.code yX12_beside cX12_beside 5 (some .int), Cond.methodLink RX12 56 yX12_isHouse, Cond.instanceMethod yX12_isHouse, Cond.selects RX12 yX12_isHouse yX12_isHouse, Cond.code yX12_isHouse cX12_isHouse 2 (some .boolean), Cond.methodLink RX12 52 yX12_isIn, Cond.static yX12_isIn, Cond.code yX12_isIn cX12_isIn 6 (some .boolean), Cond.methodLink RX12 81 yX12_isLookedAt, Cond.instanceMethod yX12_isLookedAt, Cond.selects RX12 yX12_isLookedAt yX12_isLookedAt, Cond.code yX12_isLookedAt cX12_isLookedAt 2 (some .boolean), Cond.methodLink RX12 72 yX12_kind, Cond.instanceMethod yX12_kind, Cond.selects RX12 yX12_kind yX12_kind, Cond.code yX12_kind cX12_kind 2 (some .int), Cond.methodLink RX12 84 yX12_shows, Cond.instanceMethod yX12_shows, Cond.selects RX12 yX12_shows yX12_shows, Cond.code yX12_shows cX12_shows 3 (some .int), Cond.methodLink RX12 75 yX12_figure]
def wsX12_partsAll_r4 : List Cond := [Cond.instanceMethod yX12_figure, Cond.selects RX12 yX12_figure yX12_figure, Cond.code yX12_figure cX12_figure 2 (some .int), Cond.methodLink RX12 87 yX12_mayHave, Cond.instanceMethod yX12_mayHave, Cond.selects RX12 yX12_mayHave yX12_mayHave, Cond.code yX12_mayHave cX12_mayHave 4 (some .int), Cond.methodLink RX12 93 yX12_bits, Cond.static yX12_bits, Cond.code yX12_bits cX12_bits 3 (some .int), Cond.methodLink RX12 125 yX12_puts, Cond.instanceMethod yX12_puts, Cond.selects RX12 yX12_puts yX12_puts, Cond.code yX12_puts cX12_puts 4 none, Cond.methodLink RX12 211 yX12_ends, Cond.instanceMethod yX12_ends, Cond.selects RX12 yX12_ends yX12_ends, Cond.code yX12_ends cX12_ends 1 none]
def wsX12_partsAll : List Cond := .code yX12_partsAll cX12_partsAll 4 none :: ((wsX12_partsAll_r1 ++ (wsX12_partsAll_r2 ++ (wsX12_partsAll_r3 ++ wsX12_partsAll_r4))) ++ wsX120)
def wsX12_wrongParting : List Cond := .code yX12_wrongParting cX12_wrongParting 2 (some .int) :: ([.constantLong RX12 214 (20), .fieldLink RX12 9 "TwiceAsRichModel" "s" "[I", .methodLink RX12 52 yX12_isIn, .static yX12_isIn, .initialized RX12, .code yX12_isIn cX12_isIn 6 (some .boolean)] ++ wsX120)
def wsX12_partings_r1 : List Cond := [Cond.fieldLink RX12 186 "TwiceAsRichModel" "ways" "I", Cond.methodLink RX12 216 yX12_wrongParting, Cond.instanceMethod yX12_wrongParting, Cond.selects RX12 yX12_wrongParting yX12_wrongParting, Cond.initialized RX12, Cond.code yX12_wrongParting cX12_wrongParting 2 (some .int), Cond.constantLong RX12 214 (20), Cond.fieldLink RX12 9 "TwiceAsRichModel" "s" "[I", Cond.methodLink RX12 52 yX12_isIn, Cond.static yX12_isIn, Cond.code yX12_isIn cX12_isIn 6 (some .boolean), Cond.methodLink RX12 219 yX12_partsAll, Cond.instanceMethod yX12_partsAll, Cond.selects RX12 yX12_partsAll yX12_partsAll, Cond.code yX12_partsAll cX12_partsAll 4 none, Cond.fieldLink RX12 189 "TwiceAsRichModel" "uneven" "I", Cond.fieldLink RX12 192 "TwiceAsRichModel" "most" "I", Cond.fieldLink RX12 195 "TwiceAsRichModel" "fewestHands" "I", Cond.fieldLink RX12 198 "TwiceAsRichModel" "fewestAny" "I", Cond.fieldLink RX12 43 "TwiceAsRichModel" "was" "[I", Cond.methodLink RX12 68 yX12_purse, Cond.instanceMethod yX12_purse, Cond.selects RX12 yX12_purse yX12_purse, Cond.code yX12_purse cX12_purse 2 (some .int)]
def wsX12_partings_r2 : List Cond := [Cond.methodLink RX12 64 yX12_get, Cond.instanceMethod yX12_get, Cond.selects RX12 yX12_get yX12_get, Cond.code yX12_get cX12_get 3 (some .int), Cond.methodLink RX12 208 yX12_begins, Cond.instanceMethod yX12_begins, Cond.selects RX12 yX12_begins yX12_begins, Cond.code yX12_begins cX12_begins 1 none, Cond.fieldLink RX12 19 "TwiceAsRichModel" "mind" "[I", Cond.methodLink RX12 60 yX12_lays, Cond.static yX12_lays, Cond.code yX12_lays cX12_lays 3 none, Cond.methodLink RX12 205 yX12_parts, Cond.instanceMethod yX12_parts, Cond.selects RX12 yX12_parts yX12_parts, Cond.code yX12_parts cX12_parts 7 none, Cond.methodLink RX12 201 yX12_partsAre, Cond.instanceMethod yX12_partsAre, Cond.selects RX12 yX12_partsAre yX12_partsAre, Cond.code yX12_partsAre cX12_partsAre 9 none, Cond.methodLink RX12 183 yX12_isLawful, Cond.instanceMethod yX12_isLawful, Cond.selects RX12 yX12_isLawful yX12_isLawful, Cond.code yX12_isLawful cX12_isLawful 1 (some .boolean)]
def wsX12_partings_r3 : List Cond := [Cond.methodLink RX12 99 yX12_breachesAll, Cond.instanceMethod yX12_breachesAll, Cond.selects RX12 yX12_breachesAll yX12_breachesAll, Cond.code yX12_breachesAll cX12_breachesAll 3 (some .int), Cond.methodLink RX12 96 yX12_breachesOf, Cond.instanceMethod yX12_breachesOf, Cond.selects RX12 yX12_breachesOf yX12_breachesOf, Cond.code yX12_breachesOf cX12_breachesOf 2 (some .int), Cond.methodLink RX12 90 yX12_tooMuchBy, Cond.instanceMethod yX12_tooMuchBy, Cond.selects RX12 yX12_tooMuchBy yX12_tooMuchBy, Cond.code yX12_tooMuchBy cX12_tooMuchBy 6 (some .int), Cond.methodLink RX12 78 yX12_beside, Cond.instanceMethod yX12_beside, Cond.selects RX12 yX12_beside yX12_beside, Cond.code yX12_beside cX12_beside 5 (some .int), Cond.methodLink RX12 56 yX12_isHouse, Cond.instanceMethod yX12_isHouse, Cond.selects RX12 yX12_isHouse yX12_isHouse, Cond.code yX12_isHouse cX12_isHouse 2 (some .boolean), Cond.methodLink RX12 81 yX12_isLookedAt, Cond.instanceMethod yX12_isLookedAt, Cond.selects RX12 yX12_isLookedAt yX12_isLookedAt, Cond.code yX12_isLookedAt cX12_isLookedAt 2 (some .boolean)]
def wsX12_partings_r4 : List Cond := [Cond.methodLink RX12 72 yX12_kind, Cond.instanceMethod yX12_kind, Cond.selects RX12 yX12_kind yX12_kind, Cond.code yX12_kind cX12_kind 2 (some .int), Cond.methodLink RX12 84 yX12_shows, Cond.instanceMethod yX12_shows, Cond.selects RX12 yX12_shows yX12_shows, Cond.code yX12_shows cX12_shows 3 (some .int), Cond.methodLink RX12 75 yX12_figure, Cond.instanceMethod yX12_figure, Cond.selects RX12 yX12_figure yX12_figure, Cond.code yX12_figure cX12_figure 2 (some .int), Cond.methodLink RX12 87 yX12_mayHave, Cond.instanceMethod yX12_mayHave, Cond.selects RX12 yX12_mayHave yX12_mayHave, Cond.code yX12_mayHave cX12_mayHave 4 (some .int), Cond.methodLink RX12 93 yX12_bits, Cond.static yX12_bits, Cond.code yX12_bits cX12_bits 3 (some .int), Cond.methodLink RX12 125 yX12_puts, Cond.instanceMethod yX12_puts, Cond.selects RX12 yX12_puts yX12_puts, Cond.code yX12_puts cX12_puts 4 none, Cond.methodLink RX12 211 yX12_ends]
def wsX12_partings_r5 : List Cond := [Cond.instanceMethod yX12_ends, Cond.selects RX12 yX12_ends yX12_ends, Cond.code yX12_ends cX12_ends 1 none]
def wsX12_partings : List Cond := .code yX12_partings cX12_partings 3 (some .int) :: ((wsX12_partings_r1 ++ (wsX12_partings_r2 ++ (wsX12_partings_r3 ++ (wsX12_partings_r4 ++ wsX12_partings_r5)))) ++ wsX120)
def wsX12_uneven_r1 : List Cond := [Cond.fieldLink RX12 189 "TwiceAsRichModel" "uneven" "I", Cond.methodLink RX12 216 yX12_wrongParting, Cond.instanceMethod yX12_wrongParting, Cond.selects RX12 yX12_wrongParting yX12_wrongParting, Cond.initialized RX12, Cond.code yX12_wrongParting cX12_wrongParting 2 (some .int), Cond.constantLong RX12 214 (20), Cond.fieldLink RX12 9 "TwiceAsRichModel" "s" "[I", Cond.methodLink RX12 52 yX12_isIn, Cond.static yX12_isIn, Cond.code yX12_isIn cX12_isIn 6 (some .boolean), Cond.methodLink RX12 219 yX12_partsAll, Cond.instanceMethod yX12_partsAll, Cond.selects RX12 yX12_partsAll yX12_partsAll, Cond.code yX12_partsAll cX12_partsAll 4 none, Cond.fieldLink RX12 186 "TwiceAsRichModel" "ways" "I", Cond.fieldLink RX12 192 "TwiceAsRichModel" "most" "I", Cond.fieldLink RX12 195 "TwiceAsRichModel" "fewestHands" "I", Cond.fieldLink RX12 198 "TwiceAsRichModel" "fewestAny" "I", Cond.fieldLink RX12 43 "TwiceAsRichModel" "was" "[I", Cond.methodLink RX12 68 yX12_purse, Cond.instanceMethod yX12_purse, Cond.selects RX12 yX12_purse yX12_purse, Cond.code yX12_purse cX12_purse 2 (some .int)]
def wsX12_uneven_r2 : List Cond := [Cond.methodLink RX12 64 yX12_get, Cond.instanceMethod yX12_get, Cond.selects RX12 yX12_get yX12_get, Cond.code yX12_get cX12_get 3 (some .int), Cond.methodLink RX12 208 yX12_begins, Cond.instanceMethod yX12_begins, Cond.selects RX12 yX12_begins yX12_begins, Cond.code yX12_begins cX12_begins 1 none, Cond.fieldLink RX12 19 "TwiceAsRichModel" "mind" "[I", Cond.methodLink RX12 60 yX12_lays, Cond.static yX12_lays, Cond.code yX12_lays cX12_lays 3 none, Cond.methodLink RX12 205 yX12_parts, Cond.instanceMethod yX12_parts, Cond.selects RX12 yX12_parts yX12_parts, Cond.code yX12_parts cX12_parts 7 none, Cond.methodLink RX12 201 yX12_partsAre, Cond.instanceMethod yX12_partsAre, Cond.selects RX12 yX12_partsAre yX12_partsAre, Cond.code yX12_partsAre cX12_partsAre 9 none, Cond.methodLink RX12 183 yX12_isLawful, Cond.instanceMethod yX12_isLawful, Cond.selects RX12 yX12_isLawful yX12_isLawful, Cond.code yX12_isLawful cX12_isLawful 1 (some .boolean)]
def wsX12_uneven_r3 : List Cond := [Cond.methodLink RX12 99 yX12_breachesAll, Cond.instanceMethod yX12_breachesAll, Cond.selects RX12 yX12_breachesAll yX12_breachesAll, Cond.code yX12_breachesAll cX12_breachesAll 3 (some .int), Cond.methodLink RX12 96 yX12_breachesOf, Cond.instanceMethod yX12_breachesOf, Cond.selects RX12 yX12_breachesOf yX12_breachesOf, Cond.code yX12_breachesOf cX12_breachesOf 2 (some .int), Cond.methodLink RX12 90 yX12_tooMuchBy, Cond.instanceMethod yX12_tooMuchBy, Cond.selects RX12 yX12_tooMuchBy yX12_tooMuchBy, Cond.code yX12_tooMuchBy cX12_tooMuchBy 6 (some .int), Cond.methodLink RX12 78 yX12_beside, Cond.instanceMethod yX12_beside, Cond.selects RX12 yX12_beside yX12_beside, Cond.code yX12_beside cX12_beside 5 (some .int), Cond.methodLink RX12 56 yX12_isHouse, Cond.instanceMethod yX12_isHouse, Cond.selects RX12 yX12_isHouse yX12_isHouse, Cond.code yX12_isHouse cX12_isHouse 2 (some .boolean), Cond.methodLink RX12 81 yX12_isLookedAt, Cond.instanceMethod yX12_isLookedAt, Cond.selects RX12 yX12_isLookedAt yX12_isLookedAt, Cond.code yX12_isLookedAt cX12_isLookedAt 2 (some .boolean)]
def wsX12_uneven_r4 : List Cond := [Cond.methodLink RX12 72 yX12_kind, Cond.instanceMethod yX12_kind, Cond.selects RX12 yX12_kind yX12_kind, Cond.code yX12_kind cX12_kind 2 (some .int), Cond.methodLink RX12 84 yX12_shows, Cond.instanceMethod yX12_shows, Cond.selects RX12 yX12_shows yX12_shows, Cond.code yX12_shows cX12_shows 3 (some .int), Cond.methodLink RX12 75 yX12_figure, Cond.instanceMethod yX12_figure, Cond.selects RX12 yX12_figure yX12_figure, Cond.code yX12_figure cX12_figure 2 (some .int), Cond.methodLink RX12 87 yX12_mayHave, Cond.instanceMethod yX12_mayHave, Cond.selects RX12 yX12_mayHave yX12_mayHave, Cond.code yX12_mayHave cX12_mayHave 4 (some .int), Cond.methodLink RX12 93 yX12_bits, Cond.static yX12_bits, Cond.code yX12_bits cX12_bits 3 (some .int), Cond.methodLink RX12 125 yX12_puts, Cond.instanceMethod yX12_puts, Cond.selects RX12 yX12_puts yX12_puts, Cond.code yX12_puts cX12_puts 4 none, Cond.methodLink RX12 211 yX12_ends]
def wsX12_uneven_r5 : List Cond := [Cond.instanceMethod yX12_ends, Cond.selects RX12 yX12_ends yX12_ends, Cond.code yX12_ends cX12_ends 1 none]
def wsX12_uneven : List Cond := .code yX12_uneven cX12_uneven 3 (some .int) :: ((wsX12_uneven_r1 ++ (wsX12_uneven_r2 ++ (wsX12_uneven_r3 ++ (wsX12_uneven_r4 ++ wsX12_uneven_r5)))) ++ wsX120)
def wsX12_richest_r1 : List Cond := [Cond.fieldLink RX12 192 "TwiceAsRichModel" "most" "I", Cond.methodLink RX12 56 yX12_isHouse, Cond.instanceMethod yX12_isHouse, Cond.selects RX12 yX12_isHouse yX12_isHouse, Cond.initialized RX12, Cond.code yX12_isHouse cX12_isHouse 2 (some .boolean), Cond.fieldLink RX12 9 "TwiceAsRichModel" "s" "[I", Cond.methodLink RX12 52 yX12_isIn, Cond.static yX12_isIn, Cond.code yX12_isIn cX12_isIn 6 (some .boolean), Cond.methodLink RX12 216 yX12_wrongParting, Cond.instanceMethod yX12_wrongParting, Cond.selects RX12 yX12_wrongParting yX12_wrongParting, Cond.code yX12_wrongParting cX12_wrongParting 2 (some .int), Cond.constantLong RX12 214 (20), Cond.methodLink RX12 219 yX12_partsAll, Cond.instanceMethod yX12_partsAll, Cond.selects RX12 yX12_partsAll yX12_partsAll, Cond.code yX12_partsAll cX12_partsAll 4 none, Cond.fieldLink RX12 186 "TwiceAsRichModel" "ways" "I", Cond.fieldLink RX12 189 "TwiceAsRichModel" "uneven" "I", Cond.fieldLink RX12 195 "TwiceAsRichModel" "fewestHands" "I", Cond.fieldLink RX12 198 "TwiceAsRichModel" "fewestAny" "I", Cond.fieldLink RX12 43 "TwiceAsRichModel" "was" "[I"]
def wsX12_richest_r2 : List Cond := [Cond.methodLink RX12 68 yX12_purse, Cond.instanceMethod yX12_purse, Cond.selects RX12 yX12_purse yX12_purse, Cond.code yX12_purse cX12_purse 2 (some .int), Cond.methodLink RX12 64 yX12_get, Cond.instanceMethod yX12_get, Cond.selects RX12 yX12_get yX12_get, Cond.code yX12_get cX12_get 3 (some .int), Cond.methodLink RX12 208 yX12_begins, Cond.instanceMethod yX12_begins, Cond.selects RX12 yX12_begins yX12_begins, Cond.code yX12_begins cX12_begins 1 none, Cond.fieldLink RX12 19 "TwiceAsRichModel" "mind" "[I", Cond.methodLink RX12 60 yX12_lays, Cond.static yX12_lays, Cond.code yX12_lays cX12_lays 3 none, Cond.methodLink RX12 205 yX12_parts, Cond.instanceMethod yX12_parts, Cond.selects RX12 yX12_parts yX12_parts, Cond.code yX12_parts cX12_parts 7 none, Cond.methodLink RX12 201 yX12_partsAre, Cond.instanceMethod yX12_partsAre, Cond.selects RX12 yX12_partsAre yX12_partsAre, Cond.code yX12_partsAre cX12_partsAre 9 none]
def wsX12_richest_r3 : List Cond := [Cond.methodLink RX12 183 yX12_isLawful, Cond.instanceMethod yX12_isLawful, Cond.selects RX12 yX12_isLawful yX12_isLawful, Cond.code yX12_isLawful cX12_isLawful 1 (some .boolean), Cond.methodLink RX12 99 yX12_breachesAll, Cond.instanceMethod yX12_breachesAll, Cond.selects RX12 yX12_breachesAll yX12_breachesAll, Cond.code yX12_breachesAll cX12_breachesAll 3 (some .int), Cond.methodLink RX12 96 yX12_breachesOf, Cond.instanceMethod yX12_breachesOf, Cond.selects RX12 yX12_breachesOf yX12_breachesOf, Cond.code yX12_breachesOf cX12_breachesOf 2 (some .int), Cond.methodLink RX12 90 yX12_tooMuchBy, Cond.instanceMethod yX12_tooMuchBy, Cond.selects RX12 yX12_tooMuchBy yX12_tooMuchBy, Cond.code yX12_tooMuchBy cX12_tooMuchBy 6 (some .int), Cond.methodLink RX12 78 yX12_beside, Cond.instanceMethod yX12_beside, Cond.selects RX12 yX12_beside yX12_beside, Cond.code yX12_beside cX12_beside 5 (some .int), Cond.methodLink RX12 81 yX12_isLookedAt, Cond.instanceMethod yX12_isLookedAt, Cond.selects RX12 yX12_isLookedAt yX12_isLookedAt, Cond.code yX12_isLookedAt cX12_isLookedAt 2 (some .boolean)]
def wsX12_richest_r4 : List Cond := [Cond.methodLink RX12 72 yX12_kind, Cond.instanceMethod yX12_kind, Cond.selects RX12 yX12_kind yX12_kind, Cond.code yX12_kind cX12_kind 2 (some .int), Cond.methodLink RX12 84 yX12_shows, Cond.instanceMethod yX12_shows, Cond.selects RX12 yX12_shows yX12_shows, Cond.code yX12_shows cX12_shows 3 (some .int), Cond.methodLink RX12 75 yX12_figure, Cond.instanceMethod yX12_figure, Cond.selects RX12 yX12_figure yX12_figure, Cond.code yX12_figure cX12_figure 2 (some .int), Cond.methodLink RX12 87 yX12_mayHave, Cond.instanceMethod yX12_mayHave, Cond.selects RX12 yX12_mayHave yX12_mayHave, Cond.code yX12_mayHave cX12_mayHave 4 (some .int), Cond.methodLink RX12 93 yX12_bits, Cond.static yX12_bits, Cond.code yX12_bits cX12_bits 3 (some .int), Cond.methodLink RX12 125 yX12_puts, Cond.instanceMethod yX12_puts, Cond.selects RX12 yX12_puts yX12_puts, Cond.code yX12_puts cX12_puts 4 none, Cond.methodLink RX12 211 yX12_ends]
def wsX12_richest_r5 : List Cond := [Cond.instanceMethod yX12_ends, Cond.selects RX12 yX12_ends yX12_ends, Cond.code yX12_ends cX12_ends 1 none]
def wsX12_richest : List Cond := .code yX12_richest cX12_richest 4 (some .int) :: ((wsX12_richest_r1 ++ (wsX12_richest_r2 ++ (wsX12_richest_r3 ++ (wsX12_richest_r4 ++ wsX12_richest_r5)))) ++ wsX120)
def wsX12_tooMany : List Cond := .code yX12_tooMany cX12_tooMany 1 (some .boolean) :: ([.fieldLink RX12 9 "TwiceAsRichModel" "s" "[I", .methodLink RX12 180 yX12_coins, .instanceMethod yX12_coins, .selects RX12 yX12_coins yX12_coins, .initialized RX12, .code yX12_coins cX12_coins 3 (some .int), .methodLink RX12 68 yX12_purse, .instanceMethod yX12_purse, .selects RX12 yX12_purse yX12_purse, .code yX12_purse cX12_purse 2 (some .int), .methodLink RX12 64 yX12_get, .instanceMethod yX12_get, .selects RX12 yX12_get yX12_get, .code yX12_get cX12_get 3 (some .int)] ++ wsX120)
def wsX12_hands_r1 : List Cond := [Cond.fieldLink RX12 195 "TwiceAsRichModel" "fewestHands" "I", Cond.methodLink RX12 222 yX12_tooMany, Cond.instanceMethod yX12_tooMany, Cond.selects RX12 yX12_tooMany yX12_tooMany, Cond.initialized RX12, Cond.code yX12_tooMany cX12_tooMany 1 (some .boolean), Cond.fieldLink RX12 9 "TwiceAsRichModel" "s" "[I", Cond.methodLink RX12 180 yX12_coins, Cond.instanceMethod yX12_coins, Cond.selects RX12 yX12_coins yX12_coins, Cond.code yX12_coins cX12_coins 3 (some .int), Cond.methodLink RX12 68 yX12_purse, Cond.instanceMethod yX12_purse, Cond.selects RX12 yX12_purse yX12_purse, Cond.code yX12_purse cX12_purse 2 (some .int), Cond.methodLink RX12 64 yX12_get, Cond.instanceMethod yX12_get, Cond.selects RX12 yX12_get yX12_get, Cond.code yX12_get cX12_get 3 (some .int), Cond.methodLink RX12 219 yX12_partsAll, Cond.instanceMethod yX12_partsAll, Cond.selects RX12 yX12_partsAll yX12_partsAll, Cond.code yX12_partsAll cX12_partsAll 4 none, Cond.fieldLink RX12 186 "TwiceAsRichModel" "ways" "I"]
def wsX12_hands_r2 : List Cond := [Cond.fieldLink RX12 189 "TwiceAsRichModel" "uneven" "I", Cond.fieldLink RX12 192 "TwiceAsRichModel" "most" "I", Cond.fieldLink RX12 198 "TwiceAsRichModel" "fewestAny" "I", Cond.fieldLink RX12 43 "TwiceAsRichModel" "was" "[I", Cond.methodLink RX12 208 yX12_begins, Cond.instanceMethod yX12_begins, Cond.selects RX12 yX12_begins yX12_begins, Cond.code yX12_begins cX12_begins 1 none, Cond.fieldLink RX12 19 "TwiceAsRichModel" "mind" "[I", Cond.methodLink RX12 60 yX12_lays, Cond.static yX12_lays, Cond.code yX12_lays cX12_lays 3 none, Cond.methodLink RX12 205 yX12_parts, Cond.instanceMethod yX12_parts, Cond.selects RX12 yX12_parts yX12_parts, Cond.code yX12_parts cX12_parts 7 none, Cond.methodLink RX12 201 yX12_partsAre, Cond.instanceMethod yX12_partsAre, Cond.selects RX12 yX12_partsAre yX12_partsAre, Cond.code yX12_partsAre cX12_partsAre 9 none, Cond.methodLink RX12 183 yX12_isLawful, Cond.instanceMethod yX12_isLawful, Cond.selects RX12 yX12_isLawful yX12_isLawful, Cond.code yX12_isLawful cX12_isLawful 1 (some .boolean)]
def wsX12_hands_r3 : List Cond := [Cond.methodLink RX12 99 yX12_breachesAll, Cond.instanceMethod yX12_breachesAll, Cond.selects RX12 yX12_breachesAll yX12_breachesAll, Cond.code yX12_breachesAll cX12_breachesAll 3 (some .int), Cond.methodLink RX12 96 yX12_breachesOf, Cond.instanceMethod yX12_breachesOf, Cond.selects RX12 yX12_breachesOf yX12_breachesOf, Cond.code yX12_breachesOf cX12_breachesOf 2 (some .int), Cond.methodLink RX12 90 yX12_tooMuchBy, Cond.instanceMethod yX12_tooMuchBy, Cond.selects RX12 yX12_tooMuchBy yX12_tooMuchBy, Cond.code yX12_tooMuchBy cX12_tooMuchBy 6 (some .int), Cond.methodLink RX12 78 yX12_beside, Cond.instanceMethod yX12_beside, Cond.selects RX12 yX12_beside yX12_beside, Cond.code yX12_beside cX12_beside 5 (some .int), Cond.methodLink RX12 56 yX12_isHouse, Cond.instanceMethod yX12_isHouse, Cond.selects RX12 yX12_isHouse yX12_isHouse, Cond.code yX12_isHouse cX12_isHouse 2 (some .boolean), Cond.methodLink RX12 52 yX12_isIn, Cond.static yX12_isIn, Cond.code yX12_isIn cX12_isIn 6 (some .boolean), Cond.methodLink RX12 81 yX12_isLookedAt]
def wsX12_hands_r4 : List Cond := [Cond.instanceMethod yX12_isLookedAt, Cond.selects RX12 yX12_isLookedAt yX12_isLookedAt, Cond.code yX12_isLookedAt cX12_isLookedAt 2 (some .boolean), Cond.methodLink RX12 72 yX12_kind, Cond.instanceMethod yX12_kind, Cond.selects RX12 yX12_kind yX12_kind, Cond.code yX12_kind cX12_kind 2 (some .int), Cond.methodLink RX12 84 yX12_shows, Cond.instanceMethod yX12_shows, Cond.selects RX12 yX12_shows yX12_shows, Cond.code yX12_shows cX12_shows 3 (some .int), Cond.methodLink RX12 75 yX12_figure, Cond.instanceMethod yX12_figure, Cond.selects RX12 yX12_figure yX12_figure, Cond.code yX12_figure cX12_figure 2 (some .int), Cond.methodLink RX12 87 yX12_mayHave, Cond.instanceMethod yX12_mayHave, Cond.selects RX12 yX12_mayHave yX12_mayHave, Cond.code yX12_mayHave cX12_mayHave 4 (some .int), Cond.methodLink RX12 93 yX12_bits, Cond.static yX12_bits, Cond.code yX12_bits cX12_bits 3 (some .int), Cond.methodLink RX12 125 yX12_puts, Cond.instanceMethod yX12_puts]
def wsX12_hands_r5 : List Cond := [Cond.selects RX12 yX12_puts yX12_puts, Cond.code yX12_puts cX12_puts 4 none, Cond.methodLink RX12 211 yX12_ends, Cond.instanceMethod yX12_ends, Cond.selects RX12 yX12_ends yX12_ends, Cond.code yX12_ends cX12_ends 1 none]
def wsX12_hands : List Cond := .code yX12_hands cX12_hands 1 (some .int) :: ((wsX12_hands_r1 ++ (wsX12_hands_r2 ++ (wsX12_hands_r3 ++ (wsX12_hands_r4 ++ wsX12_hands_r5)))) ++ wsX120)
def wsX12_any_r1 : List Cond := [Cond.fieldLink RX12 198 "TwiceAsRichModel" "fewestAny" "I", Cond.methodLink RX12 222 yX12_tooMany, Cond.instanceMethod yX12_tooMany, Cond.selects RX12 yX12_tooMany yX12_tooMany, Cond.initialized RX12, Cond.code yX12_tooMany cX12_tooMany 1 (some .boolean), Cond.fieldLink RX12 9 "TwiceAsRichModel" "s" "[I", Cond.methodLink RX12 180 yX12_coins, Cond.instanceMethod yX12_coins, Cond.selects RX12 yX12_coins yX12_coins, Cond.code yX12_coins cX12_coins 3 (some .int), Cond.methodLink RX12 68 yX12_purse, Cond.instanceMethod yX12_purse, Cond.selects RX12 yX12_purse yX12_purse, Cond.code yX12_purse cX12_purse 2 (some .int), Cond.methodLink RX12 64 yX12_get, Cond.instanceMethod yX12_get, Cond.selects RX12 yX12_get yX12_get, Cond.code yX12_get cX12_get 3 (some .int), Cond.methodLink RX12 219 yX12_partsAll, Cond.instanceMethod yX12_partsAll, Cond.selects RX12 yX12_partsAll yX12_partsAll, Cond.code yX12_partsAll cX12_partsAll 4 none, Cond.fieldLink RX12 186 "TwiceAsRichModel" "ways" "I"]
def wsX12_any_r2 : List Cond := [Cond.fieldLink RX12 189 "TwiceAsRichModel" "uneven" "I", Cond.fieldLink RX12 192 "TwiceAsRichModel" "most" "I", Cond.fieldLink RX12 195 "TwiceAsRichModel" "fewestHands" "I", Cond.fieldLink RX12 43 "TwiceAsRichModel" "was" "[I", Cond.methodLink RX12 208 yX12_begins, Cond.instanceMethod yX12_begins, Cond.selects RX12 yX12_begins yX12_begins, Cond.code yX12_begins cX12_begins 1 none, Cond.fieldLink RX12 19 "TwiceAsRichModel" "mind" "[I", Cond.methodLink RX12 60 yX12_lays, Cond.static yX12_lays, Cond.code yX12_lays cX12_lays 3 none, Cond.methodLink RX12 205 yX12_parts, Cond.instanceMethod yX12_parts, Cond.selects RX12 yX12_parts yX12_parts, Cond.code yX12_parts cX12_parts 7 none, Cond.methodLink RX12 201 yX12_partsAre, Cond.instanceMethod yX12_partsAre, Cond.selects RX12 yX12_partsAre yX12_partsAre, Cond.code yX12_partsAre cX12_partsAre 9 none, Cond.methodLink RX12 183 yX12_isLawful, Cond.instanceMethod yX12_isLawful, Cond.selects RX12 yX12_isLawful yX12_isLawful, Cond.code yX12_isLawful cX12_isLawful 1 (some .boolean)]
def wsX12_any_r3 : List Cond := [Cond.methodLink RX12 99 yX12_breachesAll, Cond.instanceMethod yX12_breachesAll, Cond.selects RX12 yX12_breachesAll yX12_breachesAll, Cond.code yX12_breachesAll cX12_breachesAll 3 (some .int), Cond.methodLink RX12 96 yX12_breachesOf, Cond.instanceMethod yX12_breachesOf, Cond.selects RX12 yX12_breachesOf yX12_breachesOf, Cond.code yX12_breachesOf cX12_breachesOf 2 (some .int), Cond.methodLink RX12 90 yX12_tooMuchBy, Cond.instanceMethod yX12_tooMuchBy, Cond.selects RX12 yX12_tooMuchBy yX12_tooMuchBy, Cond.code yX12_tooMuchBy cX12_tooMuchBy 6 (some .int), Cond.methodLink RX12 78 yX12_beside, Cond.instanceMethod yX12_beside, Cond.selects RX12 yX12_beside yX12_beside, Cond.code yX12_beside cX12_beside 5 (some .int), Cond.methodLink RX12 56 yX12_isHouse, Cond.instanceMethod yX12_isHouse, Cond.selects RX12 yX12_isHouse yX12_isHouse, Cond.code yX12_isHouse cX12_isHouse 2 (some .boolean), Cond.methodLink RX12 52 yX12_isIn, Cond.static yX12_isIn, Cond.code yX12_isIn cX12_isIn 6 (some .boolean), Cond.methodLink RX12 81 yX12_isLookedAt]
def wsX12_any_r4 : List Cond := [Cond.instanceMethod yX12_isLookedAt, Cond.selects RX12 yX12_isLookedAt yX12_isLookedAt, Cond.code yX12_isLookedAt cX12_isLookedAt 2 (some .boolean), Cond.methodLink RX12 72 yX12_kind, Cond.instanceMethod yX12_kind, Cond.selects RX12 yX12_kind yX12_kind, Cond.code yX12_kind cX12_kind 2 (some .int), Cond.methodLink RX12 84 yX12_shows, Cond.instanceMethod yX12_shows, Cond.selects RX12 yX12_shows yX12_shows, Cond.code yX12_shows cX12_shows 3 (some .int), Cond.methodLink RX12 75 yX12_figure, Cond.instanceMethod yX12_figure, Cond.selects RX12 yX12_figure yX12_figure, Cond.code yX12_figure cX12_figure 2 (some .int), Cond.methodLink RX12 87 yX12_mayHave, Cond.instanceMethod yX12_mayHave, Cond.selects RX12 yX12_mayHave yX12_mayHave, Cond.code yX12_mayHave cX12_mayHave 4 (some .int), Cond.methodLink RX12 93 yX12_bits, Cond.static yX12_bits, Cond.code yX12_bits cX12_bits 3 (some .int), Cond.methodLink RX12 125 yX12_puts, Cond.instanceMethod yX12_puts]
def wsX12_any_r5 : List Cond := [Cond.selects RX12 yX12_puts yX12_puts, Cond.code yX12_puts cX12_puts 4 none, Cond.methodLink RX12 211 yX12_ends, Cond.instanceMethod yX12_ends, Cond.selects RX12 yX12_ends yX12_ends, Cond.code yX12_ends cX12_ends 1 none]
def wsX12_any : List Cond := .code yX12_any cX12_any 1 (some .int) :: ((wsX12_any_r1 ++ (wsX12_any_r2 ++ (wsX12_any_r3 ++ (wsX12_any_r4 ++ wsX12_any_r5)))) ++ wsX120)
def wsX12_change_r1 : List Cond := [Cond.fieldLink RX12 9 "TwiceAsRichModel" "s" "[I", Cond.methodLink RX12 52 yX12_isIn, Cond.static yX12_isIn, Cond.initialized RX12, Cond.code yX12_isIn cX12_isIn 6 (some .boolean), Cond.methodLink RX12 99 yX12_breachesAll, Cond.instanceMethod yX12_breachesAll, Cond.selects RX12 yX12_breachesAll yX12_breachesAll, Cond.code yX12_breachesAll cX12_breachesAll 3 (some .int), Cond.methodLink RX12 96 yX12_breachesOf, Cond.instanceMethod yX12_breachesOf, Cond.selects RX12 yX12_breachesOf yX12_breachesOf, Cond.code yX12_breachesOf cX12_breachesOf 2 (some .int), Cond.methodLink RX12 68 yX12_purse, Cond.instanceMethod yX12_purse, Cond.selects RX12 yX12_purse yX12_purse, Cond.code yX12_purse cX12_purse 2 (some .int), Cond.methodLink RX12 64 yX12_get, Cond.instanceMethod yX12_get, Cond.selects RX12 yX12_get yX12_get, Cond.code yX12_get cX12_get 3 (some .int), Cond.methodLink RX12 90 yX12_tooMuchBy, Cond.instanceMethod yX12_tooMuchBy, Cond.selects RX12 yX12_tooMuchBy yX12_tooMuchBy]
def wsX12_change_r2 : List Cond := [Cond.code yX12_tooMuchBy cX12_tooMuchBy 6 (some .int), Cond.methodLink RX12 78 yX12_beside, Cond.instanceMethod yX12_beside, Cond.selects RX12 yX12_beside yX12_beside, Cond.code yX12_beside cX12_beside 5 (some .int), Cond.methodLink RX12 56 yX12_isHouse, Cond.instanceMethod yX12_isHouse, Cond.selects RX12 yX12_isHouse yX12_isHouse, Cond.code yX12_isHouse cX12_isHouse 2 (some .boolean), Cond.methodLink RX12 81 yX12_isLookedAt, Cond.instanceMethod yX12_isLookedAt, Cond.selects RX12 yX12_isLookedAt yX12_isLookedAt, Cond.code yX12_isLookedAt cX12_isLookedAt 2 (some .boolean), Cond.methodLink RX12 72 yX12_kind, Cond.instanceMethod yX12_kind, Cond.selects RX12 yX12_kind yX12_kind, Cond.code yX12_kind cX12_kind 2 (some .int), Cond.methodLink RX12 84 yX12_shows, Cond.instanceMethod yX12_shows, Cond.selects RX12 yX12_shows yX12_shows, Cond.code yX12_shows cX12_shows 3 (some .int), Cond.methodLink RX12 75 yX12_figure, Cond.instanceMethod yX12_figure, Cond.selects RX12 yX12_figure yX12_figure]
def wsX12_change_r3 : List Cond := [Cond.code yX12_figure cX12_figure 2 (some .int), Cond.methodLink RX12 87 yX12_mayHave, Cond.instanceMethod yX12_mayHave, Cond.selects RX12 yX12_mayHave yX12_mayHave, Cond.code yX12_mayHave cX12_mayHave 4 (some .int), Cond.methodLink RX12 93 yX12_bits, Cond.static yX12_bits, Cond.code yX12_bits cX12_bits 3 (some .int), Cond.methodLink RX12 150 yX12_changes, Cond.instanceMethod yX12_changes, Cond.selects RX12 yX12_changes yX12_changes, Cond.code yX12_changes cX12_changes 5 none, Cond.methodLink RX12 125 yX12_puts, Cond.instanceMethod yX12_puts, Cond.selects RX12 yX12_puts yX12_puts, Cond.code yX12_puts cX12_puts 4 none]
def wsX12_change : List Cond := .code yX12_change cX12_change 7 (some .int) :: ((wsX12_change_r1 ++ (wsX12_change_r2 ++ wsX12_change_r3)) ++ wsX120)
def wsX12_wedding_r1 : List Cond := [Cond.fieldLink RX12 9 "TwiceAsRichModel" "s" "[I", Cond.methodLink RX12 56 yX12_isHouse, Cond.instanceMethod yX12_isHouse, Cond.selects RX12 yX12_isHouse yX12_isHouse, Cond.initialized RX12, Cond.code yX12_isHouse cX12_isHouse 2 (some .boolean), Cond.methodLink RX12 52 yX12_isIn, Cond.static yX12_isIn, Cond.code yX12_isIn cX12_isIn 6 (some .boolean), Cond.methodLink RX12 208 yX12_begins, Cond.instanceMethod yX12_begins, Cond.selects RX12 yX12_begins yX12_begins, Cond.code yX12_begins cX12_begins 1 none, Cond.fieldLink RX12 19 "TwiceAsRichModel" "mind" "[I", Cond.methodLink RX12 60 yX12_lays, Cond.static yX12_lays, Cond.code yX12_lays cX12_lays 3 none, Cond.methodLink RX12 68 yX12_purse, Cond.instanceMethod yX12_purse, Cond.selects RX12 yX12_purse yX12_purse, Cond.code yX12_purse cX12_purse 2 (some .int), Cond.methodLink RX12 64 yX12_get, Cond.instanceMethod yX12_get, Cond.selects RX12 yX12_get yX12_get]
def wsX12_wedding_r2 : List Cond := [Cond.code yX12_get cX12_get 3 (some .int), Cond.methodLink RX12 125 yX12_puts, Cond.instanceMethod yX12_puts, Cond.selects RX12 yX12_puts yX12_puts, Cond.code yX12_puts cX12_puts 4 none, Cond.methodLink RX12 99 yX12_breachesAll, Cond.instanceMethod yX12_breachesAll, Cond.selects RX12 yX12_breachesAll yX12_breachesAll, Cond.code yX12_breachesAll cX12_breachesAll 3 (some .int), Cond.methodLink RX12 96 yX12_breachesOf, Cond.instanceMethod yX12_breachesOf, Cond.selects RX12 yX12_breachesOf yX12_breachesOf, Cond.code yX12_breachesOf cX12_breachesOf 2 (some .int), Cond.methodLink RX12 90 yX12_tooMuchBy, Cond.instanceMethod yX12_tooMuchBy, Cond.selects RX12 yX12_tooMuchBy yX12_tooMuchBy, Cond.code yX12_tooMuchBy cX12_tooMuchBy 6 (some .int), Cond.methodLink RX12 78 yX12_beside, Cond.instanceMethod yX12_beside, Cond.selects RX12 yX12_beside yX12_beside, Cond.code yX12_beside cX12_beside 5 (some .int), Cond.methodLink RX12 81 yX12_isLookedAt, Cond.instanceMethod yX12_isLookedAt, Cond.selects RX12 yX12_isLookedAt yX12_isLookedAt]
def wsX12_wedding_r3 : List Cond := [Cond.code yX12_isLookedAt cX12_isLookedAt 2 (some .boolean), Cond.methodLink RX12 72 yX12_kind, Cond.instanceMethod yX12_kind, Cond.selects RX12 yX12_kind yX12_kind, Cond.code yX12_kind cX12_kind 2 (some .int), Cond.methodLink RX12 84 yX12_shows, Cond.instanceMethod yX12_shows, Cond.selects RX12 yX12_shows yX12_shows, Cond.code yX12_shows cX12_shows 3 (some .int), Cond.methodLink RX12 75 yX12_figure, Cond.instanceMethod yX12_figure, Cond.selects RX12 yX12_figure yX12_figure, Cond.code yX12_figure cX12_figure 2 (some .int), Cond.methodLink RX12 87 yX12_mayHave, Cond.instanceMethod yX12_mayHave, Cond.selects RX12 yX12_mayHave yX12_mayHave, Cond.code yX12_mayHave cX12_mayHave 4 (some .int), Cond.methodLink RX12 93 yX12_bits, Cond.static yX12_bits, Cond.code yX12_bits cX12_bits 3 (some .int), Cond.methodLink RX12 211 yX12_ends, Cond.instanceMethod yX12_ends, Cond.selects RX12 yX12_ends yX12_ends, Cond.code yX12_ends cX12_ends 1 none]
def wsX12_wedding : List Cond := .code yX12_wedding cX12_wedding 4 (some .int) :: ((wsX12_wedding_r1 ++ (wsX12_wedding_r2 ++ wsX12_wedding_r3)) ++ wsX120)
def wsX12_worth_r1 : List Cond := [Cond.constantLong RX12 173 (9999), Cond.constant RX12 225 (-1000000001), Cond.fieldLink RX12 9 "TwiceAsRichModel" "s" "[I", Cond.methodLink RX12 56 yX12_isHouse, Cond.instanceMethod yX12_isHouse, Cond.selects RX12 yX12_isHouse yX12_isHouse, Cond.initialized RX12, Cond.code yX12_isHouse cX12_isHouse 2 (some .boolean), Cond.methodLink RX12 52 yX12_isIn, Cond.static yX12_isIn, Cond.code yX12_isIn cX12_isIn 6 (some .boolean), Cond.methodLink RX12 167 yX12_mostOf, Cond.instanceMethod yX12_mostOf, Cond.selects RX12 yX12_mostOf yX12_mostOf, Cond.code yX12_mostOf cX12_mostOf 6 (some .int), Cond.methodLink RX12 78 yX12_beside, Cond.instanceMethod yX12_beside, Cond.selects RX12 yX12_beside yX12_beside, Cond.code yX12_beside cX12_beside 5 (some .int), Cond.methodLink RX12 81 yX12_isLookedAt, Cond.instanceMethod yX12_isLookedAt, Cond.selects RX12 yX12_isLookedAt yX12_isLookedAt, Cond.code yX12_isLookedAt cX12_isLookedAt 2 (some .boolean), Cond.methodLink RX12 72 yX12_kind]
def wsX12_worth_r2 : List Cond := [Cond.instanceMethod yX12_kind, Cond.selects RX12 yX12_kind yX12_kind, Cond.code yX12_kind cX12_kind 2 (some .int), Cond.methodLink RX12 64 yX12_get, Cond.instanceMethod yX12_get, Cond.selects RX12 yX12_get yX12_get, Cond.code yX12_get cX12_get 3 (some .int), Cond.methodLink RX12 84 yX12_shows, Cond.instanceMethod yX12_shows, Cond.selects RX12 yX12_shows yX12_shows, Cond.code yX12_shows cX12_shows 3 (some .int), Cond.methodLink RX12 68 yX12_purse, Cond.instanceMethod yX12_purse, Cond.selects RX12 yX12_purse yX12_purse, Cond.code yX12_purse cX12_purse 2 (some .int), Cond.methodLink RX12 75 yX12_figure, Cond.instanceMethod yX12_figure, Cond.selects RX12 yX12_figure yX12_figure, Cond.code yX12_figure cX12_figure 2 (some .int), Cond.methodLink RX12 87 yX12_mayHave, Cond.instanceMethod yX12_mayHave, Cond.selects RX12 yX12_mayHave yX12_mayHave, Cond.code yX12_mayHave cX12_mayHave 4 (some .int), Cond.methodLink RX12 208 yX12_begins]
def wsX12_worth_r3 : List Cond := [Cond.instanceMethod yX12_begins, Cond.selects RX12 yX12_begins yX12_begins, Cond.code yX12_begins cX12_begins 1 none, Cond.fieldLink RX12 19 "TwiceAsRichModel" "mind" "[I", Cond.methodLink RX12 60 yX12_lays, Cond.static yX12_lays, Cond.code yX12_lays cX12_lays 3 none, Cond.methodLink RX12 125 yX12_puts, Cond.instanceMethod yX12_puts, Cond.selects RX12 yX12_puts yX12_puts, Cond.code yX12_puts cX12_puts 4 none, Cond.methodLink RX12 211 yX12_ends, Cond.instanceMethod yX12_ends, Cond.selects RX12 yX12_ends yX12_ends, Cond.code yX12_ends cX12_ends 1 none]
def wsX12_worth : List Cond := .code yX12_worth cX12_worth 5 (some .int) :: ((wsX12_worth_r1 ++ (wsX12_worth_r2 ++ wsX12_worth_r3)) ++ wsX120)
def wsX12_fitting_r1 : List Cond := [Cond.constantLong RX12 226 (2), Cond.methodLink RX12 56 yX12_isHouse, Cond.instanceMethod yX12_isHouse, Cond.selects RX12 yX12_isHouse yX12_isHouse, Cond.initialized RX12, Cond.code yX12_isHouse cX12_isHouse 2 (some .boolean), Cond.fieldLink RX12 9 "TwiceAsRichModel" "s" "[I", Cond.methodLink RX12 52 yX12_isIn, Cond.static yX12_isIn, Cond.code yX12_isIn cX12_isIn 6 (some .boolean), Cond.methodLink RX12 208 yX12_begins, Cond.instanceMethod yX12_begins, Cond.selects RX12 yX12_begins yX12_begins, Cond.code yX12_begins cX12_begins 1 none, Cond.fieldLink RX12 19 "TwiceAsRichModel" "mind" "[I", Cond.methodLink RX12 60 yX12_lays, Cond.static yX12_lays, Cond.code yX12_lays cX12_lays 3 none, Cond.methodLink RX12 125 yX12_puts, Cond.instanceMethod yX12_puts, Cond.selects RX12 yX12_puts yX12_puts, Cond.code yX12_puts cX12_puts 4 none, Cond.methodLink RX12 183 yX12_isLawful, Cond.instanceMethod yX12_isLawful]
def wsX12_fitting_r2 : List Cond := [Cond.selects RX12 yX12_isLawful yX12_isLawful, Cond.code yX12_isLawful cX12_isLawful 1 (some .boolean), Cond.methodLink RX12 99 yX12_breachesAll, Cond.instanceMethod yX12_breachesAll, Cond.selects RX12 yX12_breachesAll yX12_breachesAll, Cond.code yX12_breachesAll cX12_breachesAll 3 (some .int), Cond.methodLink RX12 96 yX12_breachesOf, Cond.instanceMethod yX12_breachesOf, Cond.selects RX12 yX12_breachesOf yX12_breachesOf, Cond.code yX12_breachesOf cX12_breachesOf 2 (some .int), Cond.methodLink RX12 68 yX12_purse, Cond.instanceMethod yX12_purse, Cond.selects RX12 yX12_purse yX12_purse, Cond.code yX12_purse cX12_purse 2 (some .int), Cond.methodLink RX12 64 yX12_get, Cond.instanceMethod yX12_get, Cond.selects RX12 yX12_get yX12_get, Cond.code yX12_get cX12_get 3 (some .int), Cond.methodLink RX12 90 yX12_tooMuchBy, Cond.instanceMethod yX12_tooMuchBy, Cond.selects RX12 yX12_tooMuchBy yX12_tooMuchBy, Cond.code yX12_tooMuchBy cX12_tooMuchBy 6 (some .int), Cond.methodLink RX12 78 yX12_beside, Cond.instanceMethod yX12_beside]
def wsX12_fitting_r3 : List Cond := [Cond.selects RX12 yX12_beside yX12_beside, Cond.code yX12_beside cX12_beside 5 (some .int), Cond.methodLink RX12 81 yX12_isLookedAt, Cond.instanceMethod yX12_isLookedAt, Cond.selects RX12 yX12_isLookedAt yX12_isLookedAt, Cond.code yX12_isLookedAt cX12_isLookedAt 2 (some .boolean), Cond.methodLink RX12 72 yX12_kind, Cond.instanceMethod yX12_kind, Cond.selects RX12 yX12_kind yX12_kind, Cond.code yX12_kind cX12_kind 2 (some .int), Cond.methodLink RX12 84 yX12_shows, Cond.instanceMethod yX12_shows, Cond.selects RX12 yX12_shows yX12_shows, Cond.code yX12_shows cX12_shows 3 (some .int), Cond.methodLink RX12 75 yX12_figure, Cond.instanceMethod yX12_figure, Cond.selects RX12 yX12_figure yX12_figure, Cond.code yX12_figure cX12_figure 2 (some .int), Cond.methodLink RX12 87 yX12_mayHave, Cond.instanceMethod yX12_mayHave, Cond.selects RX12 yX12_mayHave yX12_mayHave, Cond.code yX12_mayHave cX12_mayHave 4 (some .int), Cond.methodLink RX12 93 yX12_bits, Cond.static yX12_bits]
def wsX12_fitting_r4 : List Cond := [Cond.code yX12_bits cX12_bits 3 (some .int), Cond.methodLink RX12 211 yX12_ends, Cond.instanceMethod yX12_ends, Cond.selects RX12 yX12_ends yX12_ends, Cond.code yX12_ends cX12_ends 1 none]
def wsX12_fitting : List Cond := .code yX12_fitting cX12_fitting 7 (some .int) :: ((wsX12_fitting_r1 ++ (wsX12_fitting_r2 ++ (wsX12_fitting_r3 ++ wsX12_fitting_r4))) ++ wsX120)
def wsX12_toldAt : List Cond := .code yX12_toldAt cX12_toldAt 3 (some .int) :: ([.fieldLink RX12 31 "TwiceAsRichModel" "element" "[I"] ++ wsX120)
def wsX12_given_r1 : List Cond := [Cond.fieldLink RX12 28 "TwiceAsRichModel" "size" "[I", Cond.constantLong RX12 173 (9999), Cond.methodLink RX12 154 yX12_isShelf, Cond.static yX12_isShelf, Cond.initialized RX12, Cond.code yX12_isShelf cX12_isShelf 1 (some .boolean), Cond.constantLong RX12 50 (7), Cond.methodLink RX12 52 yX12_isIn, Cond.static yX12_isIn, Cond.code yX12_isIn cX12_isIn 6 (some .boolean), Cond.methodLink RX12 157 yX12_wrongRow, Cond.instanceMethod yX12_wrongRow, Cond.selects RX12 yX12_wrongRow yX12_wrongRow, Cond.code yX12_wrongRow cX12_wrongRow 3 (some .int), Cond.fieldLink RX12 22 "TwiceAsRichModel" "kept" "[I", Cond.fieldLink RX12 25 "TwiceAsRichModel" "sort" "[I", Cond.methodLink RX12 228 yX12_toldAt, Cond.instanceMethod yX12_toldAt, Cond.selects RX12 yX12_toldAt yX12_toldAt, Cond.code yX12_toldAt cX12_toldAt 3 (some .int), Cond.fieldLink RX12 31 "TwiceAsRichModel" "element" "[I", Cond.methodLink RX12 132 yX12_areTwo, Cond.instanceMethod yX12_areTwo, Cond.selects RX12 yX12_areTwo yX12_areTwo]
def wsX12_given_r2 : List Cond := [Cond.code yX12_areTwo cX12_areTwo 3 (some .boolean), Cond.methodLink RX12 56 yX12_isHouse, Cond.instanceMethod yX12_isHouse, Cond.selects RX12 yX12_isHouse yX12_isHouse, Cond.code yX12_isHouse cX12_isHouse 2 (some .boolean), Cond.fieldLink RX12 9 "TwiceAsRichModel" "s" "[I", Cond.methodLink RX12 208 yX12_begins, Cond.instanceMethod yX12_begins, Cond.selects RX12 yX12_begins yX12_begins, Cond.code yX12_begins cX12_begins 1 none, Cond.fieldLink RX12 19 "TwiceAsRichModel" "mind" "[I", Cond.methodLink RX12 60 yX12_lays, Cond.static yX12_lays, Cond.code yX12_lays cX12_lays 3 none, Cond.methodLink RX12 147 yX12_givesIf, Cond.instanceMethod yX12_givesIf, Cond.selects RX12 yX12_givesIf yX12_givesIf, Cond.code yX12_givesIf cX12_givesIf 4 (some .boolean), Cond.methodLink RX12 136 yX12_wrongGift, Cond.instanceMethod yX12_wrongGift, Cond.selects RX12 yX12_wrongGift yX12_wrongGift, Cond.code yX12_wrongGift cX12_wrongGift 4 (some .int), Cond.methodLink RX12 68 yX12_purse, Cond.instanceMethod yX12_purse]
def wsX12_given_r3 : List Cond := [Cond.selects RX12 yX12_purse yX12_purse, Cond.code yX12_purse cX12_purse 2 (some .int), Cond.methodLink RX12 64 yX12_get, Cond.instanceMethod yX12_get, Cond.selects RX12 yX12_get yX12_get, Cond.code yX12_get cX12_get 3 (some .int), Cond.methodLink RX12 140 yX12_gives, Cond.instanceMethod yX12_gives, Cond.selects RX12 yX12_gives yX12_gives, Cond.code yX12_gives cX12_gives 4 none, Cond.methodLink RX12 125 yX12_puts, Cond.instanceMethod yX12_puts, Cond.selects RX12 yX12_puts yX12_puts, Cond.code yX12_puts cX12_puts 4 none, Cond.methodLink RX12 99 yX12_breachesAll, Cond.instanceMethod yX12_breachesAll, Cond.selects RX12 yX12_breachesAll yX12_breachesAll, Cond.code yX12_breachesAll cX12_breachesAll 3 (some .int), Cond.methodLink RX12 96 yX12_breachesOf, Cond.instanceMethod yX12_breachesOf, Cond.selects RX12 yX12_breachesOf yX12_breachesOf, Cond.code yX12_breachesOf cX12_breachesOf 2 (some .int), Cond.methodLink RX12 90 yX12_tooMuchBy, Cond.instanceMethod yX12_tooMuchBy]
def wsX12_given_r4 : List Cond := [Cond.selects RX12 yX12_tooMuchBy yX12_tooMuchBy, Cond.code yX12_tooMuchBy cX12_tooMuchBy 6 (some .int), Cond.methodLink RX12 78 yX12_beside, Cond.instanceMethod yX12_beside, Cond.selects RX12 yX12_beside yX12_beside, Cond.code yX12_beside cX12_beside 5 (some .int), Cond.methodLink RX12 81 yX12_isLookedAt, Cond.instanceMethod yX12_isLookedAt, Cond.selects RX12 yX12_isLookedAt yX12_isLookedAt, Cond.code yX12_isLookedAt cX12_isLookedAt 2 (some .boolean), Cond.methodLink RX12 72 yX12_kind, Cond.instanceMethod yX12_kind, Cond.selects RX12 yX12_kind yX12_kind, Cond.code yX12_kind cX12_kind 2 (some .int), Cond.methodLink RX12 84 yX12_shows, Cond.instanceMethod yX12_shows, Cond.selects RX12 yX12_shows yX12_shows, Cond.code yX12_shows cX12_shows 3 (some .int), Cond.methodLink RX12 75 yX12_figure, Cond.instanceMethod yX12_figure, Cond.selects RX12 yX12_figure yX12_figure, Cond.code yX12_figure cX12_figure 2 (some .int), Cond.methodLink RX12 87 yX12_mayHave, Cond.instanceMethod yX12_mayHave]
def wsX12_given_r5 : List Cond := [Cond.selects RX12 yX12_mayHave yX12_mayHave, Cond.code yX12_mayHave cX12_mayHave 4 (some .int), Cond.methodLink RX12 93 yX12_bits, Cond.static yX12_bits, Cond.code yX12_bits cX12_bits 3 (some .int), Cond.methodLink RX12 211 yX12_ends, Cond.instanceMethod yX12_ends, Cond.selects RX12 yX12_ends yX12_ends, Cond.code yX12_ends cX12_ends 1 none]
def wsX12_given : List Cond := .code yX12_given cX12_given 6 (some .int) :: ((wsX12_given_r1 ++ (wsX12_given_r2 ++ (wsX12_given_r3 ++ (wsX12_given_r4 ++ wsX12_given_r5)))) ++ wsX120)
def wsX12_tax : List Cond := .code yX12_tax cX12_tax 4 (some .int) :: ([.constantLong RX12 173 (9999), .fieldLink RX12 9 "TwiceAsRichModel" "s" "[I", .methodLink RX12 52 yX12_isIn, .static yX12_isIn, .initialized RX12, .code yX12_isIn cX12_isIn 6 (some .boolean), .methodLink RX12 68 yX12_purse, .instanceMethod yX12_purse, .selects RX12 yX12_purse yX12_purse, .code yX12_purse cX12_purse 2 (some .int), .methodLink RX12 64 yX12_get, .instanceMethod yX12_get, .selects RX12 yX12_get yX12_get, .code yX12_get cX12_get 3 (some .int)] ++ wsX120)
def wsX12_drawn : List Cond := .code yX12_drawn cX12_drawn 2 (some .int) :: ([.fieldLink RX12 231 "TwiceAsRichModel" "seed" "I", .constant RX12 234 (1103515245), .constant RX12 235 (2147483647), .constant RX12 236 (65536)] ++ wsX120)
def wsX12_seeded_r1 : List Cond := [Cond.constantLong RX12 237 (40), Cond.fieldLink RX12 9 "TwiceAsRichModel" "s" "[I", Cond.fieldLink RX12 231 "TwiceAsRichModel" "seed" "I", Cond.methodLink RX12 52 yX12_isIn, Cond.static yX12_isIn, Cond.initialized RX12, Cond.code yX12_isIn cX12_isIn 6 (some .boolean), Cond.methodLink RX12 208 yX12_begins, Cond.instanceMethod yX12_begins, Cond.selects RX12 yX12_begins yX12_begins, Cond.code yX12_begins cX12_begins 1 none, Cond.fieldLink RX12 19 "TwiceAsRichModel" "mind" "[I", Cond.methodLink RX12 60 yX12_lays, Cond.static yX12_lays, Cond.code yX12_lays cX12_lays 3 none, Cond.methodLink RX12 239 yX12_drawn, Cond.instanceMethod yX12_drawn, Cond.selects RX12 yX12_drawn yX12_drawn, Cond.code yX12_drawn cX12_drawn 2 (some .int), Cond.constant RX12 234 (1103515245), Cond.constant RX12 235 (2147483647), Cond.constant RX12 236 (65536), Cond.methodLink RX12 78 yX12_beside, Cond.instanceMethod yX12_beside]
def wsX12_seeded_r2 : List Cond := [Cond.selects RX12 yX12_beside yX12_beside, Cond.code yX12_beside cX12_beside 5 (some .int), Cond.methodLink RX12 56 yX12_isHouse, Cond.instanceMethod yX12_isHouse, Cond.selects RX12 yX12_isHouse yX12_isHouse, Cond.code yX12_isHouse cX12_isHouse 2 (some .boolean), Cond.methodLink RX12 147 yX12_givesIf, Cond.instanceMethod yX12_givesIf, Cond.selects RX12 yX12_givesIf yX12_givesIf, Cond.code yX12_givesIf cX12_givesIf 4 (some .boolean), Cond.methodLink RX12 136 yX12_wrongGift, Cond.instanceMethod yX12_wrongGift, Cond.selects RX12 yX12_wrongGift yX12_wrongGift, Cond.code yX12_wrongGift cX12_wrongGift 4 (some .int), Cond.methodLink RX12 132 yX12_areTwo, Cond.instanceMethod yX12_areTwo, Cond.selects RX12 yX12_areTwo yX12_areTwo, Cond.code yX12_areTwo cX12_areTwo 3 (some .boolean), Cond.methodLink RX12 68 yX12_purse, Cond.instanceMethod yX12_purse, Cond.selects RX12 yX12_purse yX12_purse, Cond.code yX12_purse cX12_purse 2 (some .int), Cond.methodLink RX12 64 yX12_get, Cond.instanceMethod yX12_get]
def wsX12_seeded_r3 : List Cond := [Cond.selects RX12 yX12_get yX12_get, Cond.code yX12_get cX12_get 3 (some .int), Cond.methodLink RX12 140 yX12_gives, Cond.instanceMethod yX12_gives, Cond.selects RX12 yX12_gives yX12_gives, Cond.code yX12_gives cX12_gives 4 none, Cond.methodLink RX12 125 yX12_puts, Cond.instanceMethod yX12_puts, Cond.selects RX12 yX12_puts yX12_puts, Cond.code yX12_puts cX12_puts 4 none, Cond.methodLink RX12 183 yX12_isLawful, Cond.instanceMethod yX12_isLawful, Cond.selects RX12 yX12_isLawful yX12_isLawful, Cond.code yX12_isLawful cX12_isLawful 1 (some .boolean), Cond.methodLink RX12 99 yX12_breachesAll, Cond.instanceMethod yX12_breachesAll, Cond.selects RX12 yX12_breachesAll yX12_breachesAll, Cond.code yX12_breachesAll cX12_breachesAll 3 (some .int), Cond.methodLink RX12 96 yX12_breachesOf, Cond.instanceMethod yX12_breachesOf, Cond.selects RX12 yX12_breachesOf yX12_breachesOf, Cond.code yX12_breachesOf cX12_breachesOf 2 (some .int), Cond.methodLink RX12 90 yX12_tooMuchBy, Cond.instanceMethod yX12_tooMuchBy]
def wsX12_seeded_r4 : List Cond := [Cond.selects RX12 yX12_tooMuchBy yX12_tooMuchBy, Cond.code yX12_tooMuchBy cX12_tooMuchBy 6 (some .int), Cond.methodLink RX12 81 yX12_isLookedAt, Cond.instanceMethod yX12_isLookedAt, Cond.selects RX12 yX12_isLookedAt yX12_isLookedAt, Cond.code yX12_isLookedAt cX12_isLookedAt 2 (some .boolean), Cond.methodLink RX12 72 yX12_kind, Cond.instanceMethod yX12_kind, Cond.selects RX12 yX12_kind yX12_kind, Cond.code yX12_kind cX12_kind 2 (some .int), Cond.methodLink RX12 84 yX12_shows, Cond.instanceMethod yX12_shows, Cond.selects RX12 yX12_shows yX12_shows, Cond.code yX12_shows cX12_shows 3 (some .int), Cond.methodLink RX12 75 yX12_figure, Cond.instanceMethod yX12_figure, Cond.selects RX12 yX12_figure yX12_figure, Cond.code yX12_figure cX12_figure 2 (some .int), Cond.methodLink RX12 87 yX12_mayHave, Cond.instanceMethod yX12_mayHave, Cond.selects RX12 yX12_mayHave yX12_mayHave, Cond.code yX12_mayHave cX12_mayHave 4 (some .int), Cond.methodLink RX12 93 yX12_bits, Cond.static yX12_bits]
def wsX12_seeded_r5 : List Cond := [Cond.code yX12_bits cX12_bits 3 (some .int), Cond.methodLink RX12 211 yX12_ends, Cond.instanceMethod yX12_ends, Cond.selects RX12 yX12_ends yX12_ends, Cond.code yX12_ends cX12_ends 1 none]
def wsX12_seeded : List Cond := .code yX12_seeded cX12_seeded 8 (some .int) :: ((wsX12_seeded_r1 ++ (wsX12_seeded_r2 ++ (wsX12_seeded_r3 ++ (wsX12_seeded_r4 ++ wsX12_seeded_r5)))) ++ wsX120)
def wsX12_judge_r1 : List Cond := [Cond.fieldLink RX12 25 "TwiceAsRichModel" "sort" "[I", Cond.constant RX12 242 (-2147483648), Cond.fieldLink RX12 28 "TwiceAsRichModel" "size" "[I", Cond.fieldLink RX12 9 "TwiceAsRichModel" "s" "[I", Cond.methodLink RX12 157 yX12_wrongRow, Cond.instanceMethod yX12_wrongRow, Cond.selects RX12 yX12_wrongRow yX12_wrongRow, Cond.initialized RX12, Cond.code yX12_wrongRow cX12_wrongRow 3 (some .int), Cond.fieldLink RX12 22 "TwiceAsRichModel" "kept" "[I", Cond.methodLink RX12 154 yX12_isShelf, Cond.static yX12_isShelf, Cond.code yX12_isShelf cX12_isShelf 1 (some .boolean), Cond.constantLong RX12 50 (7), Cond.methodLink RX12 52 yX12_isIn, Cond.static yX12_isIn, Cond.code yX12_isIn cX12_isIn 6 (some .boolean), Cond.methodLink RX12 228 yX12_toldAt, Cond.instanceMethod yX12_toldAt, Cond.selects RX12 yX12_toldAt yX12_toldAt, Cond.code yX12_toldAt cX12_toldAt 3 (some .int), Cond.fieldLink RX12 31 "TwiceAsRichModel" "element" "[I", Cond.methodLink RX12 68 yX12_purse, Cond.instanceMethod yX12_purse]
def wsX12_judge_r2 : List Cond := [Cond.selects RX12 yX12_purse yX12_purse, Cond.code yX12_purse cX12_purse 2 (some .int), Cond.methodLink RX12 64 yX12_get, Cond.instanceMethod yX12_get, Cond.selects RX12 yX12_get yX12_get, Cond.code yX12_get cX12_get 3 (some .int)]
def wsX12_judge : List Cond := .code yX12_judge cX12_judge 5 (some .int) :: ((wsX12_judge_r1 ++ wsX12_judge_r2) ++ wsX120)
def wsX12_image : List Cond := .code yX12_image cX12_image 1 (some .int) :: ([.fieldLink RX12 9 "TwiceAsRichModel" "s" "[I", .fieldLink RX12 13 "TwiceAsRichModel" "image" "[I", .fieldLink RX12 243 "TwiceAsRichModel" "hasImage" "Z", .methodLink RX12 60 yX12_lays, .static yX12_lays, .initialized RX12, .code yX12_lays cX12_lays 3 none, .methodLink RX12 180 yX12_coins, .instanceMethod yX12_coins, .selects RX12 yX12_coins yX12_coins, .code yX12_coins cX12_coins 3 (some .int), .methodLink RX12 68 yX12_purse, .instanceMethod yX12_purse, .selects RX12 yX12_purse yX12_purse, .code yX12_purse cX12_purse 2 (some .int), .methodLink RX12 64 yX12_get, .instanceMethod yX12_get, .selects RX12 yX12_get yX12_get, .code yX12_get cX12_get 3 (some .int)] ++ wsX120)
def wsX12_restore : List Cond := .code yX12_restore cX12_restore 1 (some .int) :: ([.fieldLink RX12 243 "TwiceAsRichModel" "hasImage" "Z", .fieldLink RX12 13 "TwiceAsRichModel" "image" "[I", .fieldLink RX12 9 "TwiceAsRichModel" "s" "[I", .methodLink RX12 60 yX12_lays, .static yX12_lays, .initialized RX12, .code yX12_lays cX12_lays 3 none, .methodLink RX12 180 yX12_coins, .instanceMethod yX12_coins, .selects RX12 yX12_coins yX12_coins, .code yX12_coins cX12_coins 3 (some .int), .methodLink RX12 68 yX12_purse, .instanceMethod yX12_purse, .selects RX12 yX12_purse yX12_purse, .code yX12_purse cX12_purse 2 (some .int), .methodLink RX12 64 yX12_get, .instanceMethod yX12_get, .selects RX12 yX12_get yX12_get, .code yX12_get cX12_get 3 (some .int)] ++ wsX120)
def wsX12_count_r1 : List Cond := [Cond.fieldLink RX12 9 "TwiceAsRichModel" "s" "[I", Cond.methodLink RX12 180 yX12_coins, Cond.instanceMethod yX12_coins, Cond.selects RX12 yX12_coins yX12_coins, Cond.initialized RX12, Cond.code yX12_coins cX12_coins 3 (some .int), Cond.methodLink RX12 68 yX12_purse, Cond.instanceMethod yX12_purse, Cond.selects RX12 yX12_purse yX12_purse, Cond.code yX12_purse cX12_purse 2 (some .int), Cond.methodLink RX12 64 yX12_get, Cond.instanceMethod yX12_get, Cond.selects RX12 yX12_get yX12_get, Cond.code yX12_get cX12_get 3 (some .int), Cond.methodLink RX12 96 yX12_breachesOf, Cond.instanceMethod yX12_breachesOf, Cond.selects RX12 yX12_breachesOf yX12_breachesOf, Cond.code yX12_breachesOf cX12_breachesOf 2 (some .int), Cond.methodLink RX12 90 yX12_tooMuchBy, Cond.instanceMethod yX12_tooMuchBy, Cond.selects RX12 yX12_tooMuchBy yX12_tooMuchBy, Cond.code yX12_tooMuchBy cX12_tooMuchBy 6 (some .int), Cond.methodLink RX12 78 yX12_beside, Cond.instanceMethod yX12_beside]
def wsX12_count_r2 : List Cond := [Cond.selects RX12 yX12_beside yX12_beside, Cond.code yX12_beside cX12_beside 5 (some .int), Cond.methodLink RX12 56 yX12_isHouse, Cond.instanceMethod yX12_isHouse, Cond.selects RX12 yX12_isHouse yX12_isHouse, Cond.code yX12_isHouse cX12_isHouse 2 (some .boolean), Cond.methodLink RX12 52 yX12_isIn, Cond.static yX12_isIn, Cond.code yX12_isIn cX12_isIn 6 (some .boolean), Cond.methodLink RX12 81 yX12_isLookedAt, Cond.instanceMethod yX12_isLookedAt, Cond.selects RX12 yX12_isLookedAt yX12_isLookedAt, Cond.code yX12_isLookedAt cX12_isLookedAt 2 (some .boolean), Cond.methodLink RX12 72 yX12_kind, Cond.instanceMethod yX12_kind, Cond.selects RX12 yX12_kind yX12_kind, Cond.code yX12_kind cX12_kind 2 (some .int), Cond.methodLink RX12 84 yX12_shows, Cond.instanceMethod yX12_shows, Cond.selects RX12 yX12_shows yX12_shows, Cond.code yX12_shows cX12_shows 3 (some .int), Cond.methodLink RX12 75 yX12_figure, Cond.instanceMethod yX12_figure, Cond.selects RX12 yX12_figure yX12_figure]
def wsX12_count_r3 : List Cond := [Cond.code yX12_figure cX12_figure 2 (some .int), Cond.methodLink RX12 87 yX12_mayHave, Cond.instanceMethod yX12_mayHave, Cond.selects RX12 yX12_mayHave yX12_mayHave, Cond.code yX12_mayHave cX12_mayHave 4 (some .int), Cond.methodLink RX12 93 yX12_bits, Cond.static yX12_bits, Cond.code yX12_bits cX12_bits 3 (some .int)]
def wsX12_count : List Cond := .code yX12_count cX12_count 4 (some .int) :: ((wsX12_count_r1 ++ (wsX12_count_r2 ++ wsX12_count_r3)) ++ wsX120)
def wsX12_feeBy : List Cond := .code yX12_feeBy cX12_feeBy 2 (some .int) :: ([])
def wsX12_keep : List Cond := .code yX12_keep cX12_keep 5 (some .int) :: ([.constantLong RX12 50 (7), .constantLong RX12 247 (9), .fieldLink RX12 22 "TwiceAsRichModel" "kept" "[I", .fieldLink RX12 34 "TwiceAsRichModel" "keptKind" "[I", .fieldLink RX12 37 "TwiceAsRichModel" "keptFigure" "[I", .methodLink RX12 154 yX12_isShelf, .static yX12_isShelf, .initialized RX12, .code yX12_isShelf cX12_isShelf 1 (some .boolean), .methodLink RX12 52 yX12_isIn, .static yX12_isIn, .code yX12_isIn cX12_isIn 6 (some .boolean)] ++ wsX120)
def wsX12_row : List Cond := .code yX12_row cX12_row 5 (some .int) :: ([.constantLong RX12 226 (2), .fieldLink RX12 22 "TwiceAsRichModel" "kept" "[I", .fieldLink RX12 25 "TwiceAsRichModel" "sort" "[I", .fieldLink RX12 28 "TwiceAsRichModel" "size" "[I", .fieldLink RX12 31 "TwiceAsRichModel" "element" "[I", .methodLink RX12 154 yX12_isShelf, .static yX12_isShelf, .initialized RX12, .code yX12_isShelf cX12_isShelf 1 (some .boolean), .constantLong RX12 50 (7), .methodLink RX12 52 yX12_isIn, .static yX12_isIn, .code yX12_isIn cX12_isIn 6 (some .boolean)] ++ wsX120)
def wsX12_put : List Cond := .code yX12_put cX12_put 5 (some .int) :: ([.fieldLink RX12 28 "TwiceAsRichModel" "size" "[I", .fieldLink RX12 31 "TwiceAsRichModel" "element" "[I", .fieldLink RX12 25 "TwiceAsRichModel" "sort" "[I", .methodLink RX12 157 yX12_wrongRow, .instanceMethod yX12_wrongRow, .selects RX12 yX12_wrongRow yX12_wrongRow, .initialized RX12, .code yX12_wrongRow cX12_wrongRow 3 (some .int), .fieldLink RX12 22 "TwiceAsRichModel" "kept" "[I", .methodLink RX12 154 yX12_isShelf, .static yX12_isShelf, .code yX12_isShelf cX12_isShelf 1 (some .boolean), .constantLong RX12 50 (7), .methodLink RX12 52 yX12_isIn, .static yX12_isIn, .code yX12_isIn cX12_isIn 6 (some .boolean)] ++ wsX120)
def wsX12_element : List Cond := .code yX12_element cX12_element 3 (some .long) :: ([.fieldLink RX12 22 "TwiceAsRichModel" "kept" "[I", .fieldLink RX12 28 "TwiceAsRichModel" "size" "[I", .fieldLink RX12 46 "TwiceAsRichModel" "thrown" "I", .fieldLink RX12 31 "TwiceAsRichModel" "element" "[I", .methodLink RX12 154 yX12_isShelf, .static yX12_isShelf, .initialized RX12, .code yX12_isShelf cX12_isShelf 1 (some .boolean), .constantLong RX12 50 (7), .methodLink RX12 52 yX12_isIn, .static yX12_isIn, .code yX12_isIn cX12_isIn 6 (some .boolean)] ++ wsX120)
def wsX12_copy : List Cond := .code yX12_copy cX12_copy 8 (some .int) :: ([.fieldLink RX12 22 "TwiceAsRichModel" "kept" "[I", .fieldLink RX12 25 "TwiceAsRichModel" "sort" "[I", .fieldLink RX12 28 "TwiceAsRichModel" "size" "[I", .fieldLink RX12 31 "TwiceAsRichModel" "element" "[I", .methodLink RX12 154 yX12_isShelf, .static yX12_isShelf, .initialized RX12, .code yX12_isShelf cX12_isShelf 1 (some .boolean), .constantLong RX12 50 (7), .methodLink RX12 52 yX12_isIn, .static yX12_isIn, .code yX12_isIn cX12_isIn 6 (some .boolean)] ++ wsX120)
def wsX12_fee : List Cond := .code yX12_fee cX12_fee 3 (some .int) :: ([.fieldLink RX12 34 "TwiceAsRichModel" "keptKind" "[I", .fieldLink RX12 37 "TwiceAsRichModel" "keptFigure" "[I", .methodLink RX12 175 yX12_wrongKept, .instanceMethod yX12_wrongKept, .selects RX12 yX12_wrongKept yX12_wrongKept, .initialized RX12, .code yX12_wrongKept cX12_wrongKept 2 (some .int), .fieldLink RX12 22 "TwiceAsRichModel" "kept" "[I", .methodLink RX12 154 yX12_isShelf, .static yX12_isShelf, .code yX12_isShelf cX12_isShelf 1 (some .boolean), .constantLong RX12 50 (7), .methodLink RX12 52 yX12_isIn, .static yX12_isIn, .code yX12_isIn cX12_isIn 6 (some .boolean), .methodLink RX12 249 yX12_feeBy, .static yX12_feeBy, .code yX12_feeBy cX12_feeBy 2 (some .int)] ++ wsX120)
def wsX12_toss : List Cond := .code yX12_toss cX12_toss 5 (some .int) :: ([.fieldLink RX12 34 "TwiceAsRichModel" "keptKind" "[I", .fieldLink RX12 37 "TwiceAsRichModel" "keptFigure" "[I", .methodLink RX12 175 yX12_wrongKept, .instanceMethod yX12_wrongKept, .selects RX12 yX12_wrongKept yX12_wrongKept, .initialized RX12, .code yX12_wrongKept cX12_wrongKept 2 (some .int), .fieldLink RX12 22 "TwiceAsRichModel" "kept" "[I", .methodLink RX12 154 yX12_isShelf, .static yX12_isShelf, .code yX12_isShelf cX12_isShelf 1 (some .boolean), .constantLong RX12 50 (7), .methodLink RX12 52 yX12_isIn, .static yX12_isIn, .code yX12_isIn cX12_isIn 6 (some .boolean), .methodLink RX12 249 yX12_feeBy, .static yX12_feeBy, .code yX12_feeBy cX12_feeBy 2 (some .int)] ++ wsX120)
def wsJ9_abs_0f7a4 : List Cond := .code yJ9_abs_0f7a4 cJ9_abs_0f7a4 1 (some .int) :: ([])
def wsJ9_max_7cf53 : List Cond := .code yJ9_max_7cf53 cJ9_max_7cf53 2 (some .int) :: ([])
def wsJ9_min_7cf53 : List Cond := .code yJ9_min_7cf53 cJ9_min_7cf53 2 (some .int) :: ([])
set_option maxRecDepth 20000 in
theorem ggX0_init_X6_init : GoodIn wsX0_init wsX6_init := goodIn_r _ [4, 5, 6, 7, 8, 9, 10, 11, 12, 13, 14, 15, 16, 17, 18, 19, 20] (by decide +kernel) (by decide +kernel)
set_option maxRecDepth 20000 in
theorem gX0_init_X6_init : GoodIn wsX0_init (wsX6_init) := ggX0_init_X6_init
theorem dX0_init_0 : decode cX0_init 0 = .ok (.aload_n 0, 1) := by decide +kernel
theorem dX0_init_1 : decode cX0_init 1 = .ok (.iload_n 1, 1) := by decide +kernel
theorem dX0_init_2 : decode cX0_init 2 = .ok (.invokespecial 1, 3) := by decide +kernel
theorem dX0_init_5 : decode cX0_init 5 = .ok (.return_, 1) := by decide +kernel
theorem dX0_kind_0 : decode cX0_kind 0 = .ok (.iconst 5, 1) := by decide +kernel
theorem dX0_kind_1 : decode cX0_kind 1 = .ok (.ireturn, 1) := by decide +kernel
set_option maxRecDepth 20000 in
theorem ggX0_shownOf_X6_shownOf : GoodIn wsX0_shownOf wsX6_shownOf := goodIn_r _ [8, 9, 10, 11, 12, 13, 14] (by decide +kernel) (by decide +kernel)
set_option maxRecDepth 20000 in
theorem gX0_shownOf_X6_shownOf_s7 : GoodIn wsX0_shownOf (va_wsSU RX0 7 yX6_shownOf wsX6_shownOf) := goodIn_app (goodIn_of _ (by decide +kernel)) ggX0_shownOf_X6_shownOf
theorem dX0_shownOf_0 : decode cX0_shownOf 0 = .ok (.aload_n 0, 1) := by decide +kernel
theorem dX0_shownOf_1 : decode cX0_shownOf 1 = .ok (.iload_n 1, 1) := by decide +kernel
theorem dX0_shownOf_2 : decode cX0_shownOf 2 = .ok (.invokespecial 7, 3) := by decide +kernel
theorem dX0_shownOf_5 : decode cX0_shownOf 5 = .ok (.aload_n 0, 1) := by decide +kernel
theorem dX0_shownOf_6 : decode cX0_shownOf 6 = .ok (.getfield 11, 3) := by decide +kernel
theorem dX0_shownOf_9 : decode cX0_shownOf 9 = .ok (.iadd, 1) := by decide +kernel
theorem dX0_shownOf_10 : decode cX0_shownOf 10 = .ok (.ireturn, 1) := by decide +kernel
set_option maxRecDepth 20000 in
theorem ggX0_weekly_X6_weekly : GoodIn wsX0_weekly wsX6_weekly := goodIn_r _ [6, 7, 8, 9, 10, 11, 12] (by decide +kernel) (by decide +kernel)
set_option maxRecDepth 20000 in
theorem gX0_weekly_X6_weekly_s17 : GoodIn wsX0_weekly (va_wsSU RX0 17 yX6_weekly wsX6_weekly) := goodIn_app (goodIn_of _ (by decide +kernel)) ggX0_weekly_X6_weekly
theorem dX0_weekly_0 : decode cX0_weekly 0 = .ok (.aload_n 0, 1) := by decide +kernel
theorem dX0_weekly_1 : decode cX0_weekly 1 = .ok (.invokespecial 17, 3) := by decide +kernel
theorem dX0_weekly_4 : decode cX0_weekly 4 = .ok (.iconst 1, 1) := by decide +kernel
theorem dX0_weekly_5 : decode cX0_weekly 5 = .ok (.isub, 1) := by decide +kernel
theorem dX0_weekly_6 : decode cX0_weekly 6 = .ok (.ireturn, 1) := by decide +kernel
set_option maxRecDepth 20000 in
theorem ggX0_price_X6_price : GoodIn wsX0_price wsX6_price := goodIn_r _ [8, 9, 10, 11, 12, 13, 14] (by decide +kernel) (by decide +kernel)
set_option maxRecDepth 20000 in
theorem gX0_price_X6_price_s21 : GoodIn wsX0_price (va_wsSU RX0 21 yX6_price wsX6_price) := goodIn_app (goodIn_of _ (by decide +kernel)) ggX0_price_X6_price
theorem dX0_price_0 : decode cX0_price 0 = .ok (.aload_n 0, 1) := by decide +kernel
theorem dX0_price_1 : decode cX0_price 1 = .ok (.invokespecial 21, 3) := by decide +kernel
theorem dX0_price_4 : decode cX0_price 4 = .ok (.aload_n 0, 1) := by decide +kernel
theorem dX0_price_5 : decode cX0_price 5 = .ok (.getfield 11, 3) := by decide +kernel
theorem dX0_price_8 : decode cX0_price 8 = .ok (.iadd, 1) := by decide +kernel
theorem dX0_price_9 : decode cX0_price 9 = .ok (.ireturn, 1) := by decide +kernel
theorem dX0_fail_0 : decode cX0_fail 0 = .ok (.new 24, 3) := by decide +kernel
theorem dX0_fail_3 : decode cX0_fail 3 = .ok (.dup, 1) := by decide +kernel
theorem dX0_fail_4 : decode cX0_fail 4 = .ok (.invokespecial 26, 3) := by decide +kernel
theorem dX0_fail_7 : decode cX0_fail 7 = .ok (.athrow, 1) := by decide +kernel
set_option maxRecDepth 20000 in
theorem ggX1_init_X10_init : GoodIn wsX1_init wsX10_init := goodIn_r _ [4, 5, 6, 7, 8, 9, 10, 11, 12, 13, 14, 15, 16, 17, 18, 19, 20] (by decide +kernel) (by decide +kernel)
set_option maxRecDepth 20000 in
theorem gX1_init_X10_init : GoodIn wsX1_init (wsX10_init) := ggX1_init_X10_init
theorem dX1_init_0 : decode cX1_init 0 = .ok (.aload_n 0, 1) := by decide +kernel
theorem dX1_init_1 : decode cX1_init 1 = .ok (.iload_n 1, 1) := by decide +kernel
theorem dX1_init_2 : decode cX1_init 2 = .ok (.invokespecial 1, 3) := by decide +kernel
theorem dX1_init_5 : decode cX1_init 5 = .ok (.return_, 1) := by decide +kernel
theorem dX1_kind_0 : decode cX1_kind 0 = .ok (.bipush 7, 2) := by decide +kernel
theorem dX1_kind_2 : decode cX1_kind 2 = .ok (.ireturn, 1) := by decide +kernel
theorem dX1_isLookedAt_0 : decode cX1_isLookedAt 0 = .ok (.iconst 1, 1) := by decide +kernel
theorem dX1_isLookedAt_1 : decode cX1_isLookedAt 1 = .ok (.ireturn, 1) := by decide +kernel
set_option maxRecDepth 20000 in
theorem ggX1_weekly_X10_weekly : GoodIn wsX1_weekly wsX10_weekly := goodIn_r _ [8] (by decide +kernel) (by decide +kernel)
set_option maxRecDepth 20000 in
theorem gX1_weekly_X10_weekly_s7 : GoodIn wsX1_weekly (va_wsSU RX1 7 yX10_weekly wsX10_weekly) := goodIn_app (goodIn_of _ (by decide +kernel)) ggX1_weekly_X10_weekly
theorem dX1_weekly_0 : decode cX1_weekly 0 = .ok (.aload_n 0, 1) := by decide +kernel
theorem dX1_weekly_1 : decode cX1_weekly 1 = .ok (.invokespecial 7, 3) := by decide +kernel
theorem dX1_weekly_4 : decode cX1_weekly 4 = .ok (.aload_n 0, 1) := by decide +kernel
theorem dX1_weekly_5 : decode cX1_weekly 5 = .ok (.getfield 11, 3) := by decide +kernel
theorem dX1_weekly_8 : decode cX1_weekly 8 = .ok (.iadd, 1) := by decide +kernel
theorem dX1_weekly_9 : decode cX1_weekly 9 = .ok (.ireturn, 1) := by decide +kernel
set_option maxRecDepth 20000 in
theorem ggX1_price_X10_price : GoodIn wsX1_price wsX10_price := goodIn_r _ [6, 7, 8, 9, 10, 11, 12] (by decide +kernel) (by decide +kernel)
set_option maxRecDepth 20000 in
theorem gX1_price_X10_price_s17 : GoodIn wsX1_price (va_wsSU RX1 17 yX10_price wsX10_price) := goodIn_app (goodIn_of _ (by decide +kernel)) ggX1_price_X10_price
theorem dX1_price_0 : decode cX1_price 0 = .ok (.iconst 2, 1) := by decide +kernel
theorem dX1_price_1 : decode cX1_price 1 = .ok (.aload_n 0, 1) := by decide +kernel
theorem dX1_price_2 : decode cX1_price 2 = .ok (.invokespecial 17, 3) := by decide +kernel
theorem dX1_price_5 : decode cX1_price 5 = .ok (.imul, 1) := by decide +kernel
theorem dX1_price_6 : decode cX1_price 6 = .ok (.ireturn, 1) := by decide +kernel
theorem dX1_hasFailure_0 : decode cX1_hasFailure 0 = .ok (.aload_n 0, 1) := by decide +kernel
theorem dX1_hasFailure_1 : decode cX1_hasFailure 1 = .ok (.getfield 11, 3) := by decide +kernel
theorem dX1_hasFailure_4 : decode cX1_hasFailure 4 = .ok (.ifCond .eq 7, 3) := by decide +kernel
theorem dX1_hasFailure_7 : decode cX1_hasFailure 7 = .ok (.iconst 1, 1) := by decide +kernel
theorem dX1_hasFailure_8 : decode cX1_hasFailure 8 = .ok (.goto 4, 3) := by decide +kernel
theorem dX1_hasFailure_11 : decode cX1_hasFailure 11 = .ok (.iconst 0, 1) := by decide +kernel
theorem dX1_hasFailure_12 : decode cX1_hasFailure 12 = .ok (.ireturn, 1) := by decide +kernel
set_option maxRecDepth 20000 in
theorem ggX2_init_X3_init : GoodIn wsX2_init wsX3_init := goodIn_r _ [4, 5, 6, 7, 8, 9, 10, 11, 12, 13, 14, 15, 16] (by decide +kernel) (by decide +kernel)
set_option maxRecDepth 20000 in
theorem gX2_init_X3_init : GoodIn wsX2_init (wsX3_init) := ggX2_init_X3_init
theorem dX2_init_0 : decode cX2_init 0 = .ok (.aload_n 0, 1) := by decide +kernel
theorem dX2_init_1 : decode cX2_init 1 = .ok (.iload_n 1, 1) := by decide +kernel
theorem dX2_init_2 : decode cX2_init 2 = .ok (.invokespecial 1, 3) := by decide +kernel
theorem dX2_init_5 : decode cX2_init 5 = .ok (.return_, 1) := by decide +kernel
theorem dX2_kind_0 : decode cX2_kind 0 = .ok (.iconst 1, 1) := by decide +kernel
theorem dX2_kind_1 : decode cX2_kind 1 = .ok (.ireturn, 1) := by decide +kernel
set_option maxRecDepth 20000 in
theorem ggX2_allowedBy_X3_allowedBy : GoodIn wsX2_allowedBy wsX3_allowedBy := goodIn_r _ [8] (by decide +kernel) (by decide +kernel)
set_option maxRecDepth 20000 in
theorem gX2_allowedBy_X3_allowedBy_s7 : GoodIn wsX2_allowedBy (va_wsSU RX2 7 yX3_allowedBy wsX3_allowedBy) := goodIn_app (goodIn_of _ (by decide +kernel)) ggX2_allowedBy_X3_allowedBy
theorem dX2_allowedBy_0 : decode cX2_allowedBy 0 = .ok (.aload_n 0, 1) := by decide +kernel
theorem dX2_allowedBy_1 : decode cX2_allowedBy 1 = .ok (.iload_n 1, 1) := by decide +kernel
theorem dX2_allowedBy_2 : decode cX2_allowedBy 2 = .ok (.invokespecial 7, 3) := by decide +kernel
theorem dX2_allowedBy_5 : decode cX2_allowedBy 5 = .ok (.aload_n 0, 1) := by decide +kernel
theorem dX2_allowedBy_6 : decode cX2_allowedBy 6 = .ok (.getfield 11, 3) := by decide +kernel
theorem dX2_allowedBy_9 : decode cX2_allowedBy 9 = .ok (.iadd, 1) := by decide +kernel
theorem dX2_allowedBy_10 : decode cX2_allowedBy 10 = .ok (.ireturn, 1) := by decide +kernel
set_option maxRecDepth 20000 in
theorem ggX2_weekly_X3_weekly : GoodIn wsX2_weekly wsX3_weekly := goodIn_r _ [8] (by decide +kernel) (by decide +kernel)
set_option maxRecDepth 20000 in
theorem gX2_weekly_X3_weekly_s17 : GoodIn wsX2_weekly (va_wsSU RX2 17 yX3_weekly wsX3_weekly) := goodIn_app (goodIn_of _ (by decide +kernel)) ggX2_weekly_X3_weekly
theorem dX2_weekly_0 : decode cX2_weekly 0 = .ok (.aload_n 0, 1) := by decide +kernel
theorem dX2_weekly_1 : decode cX2_weekly 1 = .ok (.invokespecial 17, 3) := by decide +kernel
theorem dX2_weekly_4 : decode cX2_weekly 4 = .ok (.aload_n 0, 1) := by decide +kernel
theorem dX2_weekly_5 : decode cX2_weekly 5 = .ok (.getfield 11, 3) := by decide +kernel
theorem dX2_weekly_8 : decode cX2_weekly 8 = .ok (.iadd, 1) := by decide +kernel
theorem dX2_weekly_9 : decode cX2_weekly 9 = .ok (.ireturn, 1) := by decide +kernel
set_option maxRecDepth 20000 in
theorem ggX2_price_X3_price : GoodIn wsX2_price wsX3_price := goodIn_r _ [8] (by decide +kernel) (by decide +kernel)
set_option maxRecDepth 20000 in
theorem gX2_price_X3_price_s21 : GoodIn wsX2_price (va_wsSU RX2 21 yX3_price wsX3_price) := goodIn_app (goodIn_of _ (by decide +kernel)) ggX2_price_X3_price
theorem dX2_price_0 : decode cX2_price 0 = .ok (.aload_n 0, 1) := by decide +kernel
theorem dX2_price_1 : decode cX2_price 1 = .ok (.invokespecial 21, 3) := by decide +kernel
theorem dX2_price_4 : decode cX2_price 4 = .ok (.aload_n 0, 1) := by decide +kernel
theorem dX2_price_5 : decode cX2_price 5 = .ok (.getfield 11, 3) := by decide +kernel
theorem dX2_price_8 : decode cX2_price 8 = .ok (.iconst 1, 1) := by decide +kernel
theorem dX2_price_9 : decode cX2_price 9 = .ok (.iadd, 1) := by decide +kernel
theorem dX2_price_10 : decode cX2_price 10 = .ok (.imul, 1) := by decide +kernel
theorem dX2_price_11 : decode cX2_price 11 = .ok (.ireturn, 1) := by decide +kernel
theorem dX3_init_0 : decode cX3_init 0 = .ok (.aload_n 0, 1) := by decide +kernel
theorem dX3_init_1 : decode cX3_init 1 = .ok (.invokespecial 1, 3) := by decide +kernel
theorem dX3_init_4 : decode cX3_init 4 = .ok (.aload_n 0, 1) := by decide +kernel
theorem dX3_init_5 : decode cX3_init 5 = .ok (.iload_n 1, 1) := by decide +kernel
theorem dX3_init_6 : decode cX3_init 6 = .ok (.putfield 7, 3) := by decide +kernel
theorem dX3_init_9 : decode cX3_init 9 = .ok (.return_, 1) := by decide +kernel
theorem dX3_kind_0 : decode cX3_kind 0 = .ok (.iconst 0, 1) := by decide +kernel
theorem dX3_kind_1 : decode cX3_kind 1 = .ok (.ireturn, 1) := by decide +kernel
theorem dX3_isLookedAt_0 : decode cX3_isLookedAt 0 = .ok (.iconst 1, 1) := by decide +kernel
theorem dX3_isLookedAt_1 : decode cX3_isLookedAt 1 = .ok (.ireturn, 1) := by decide +kernel
theorem dX3_shownOf_0 : decode cX3_shownOf 0 = .ok (.iload_n 1, 1) := by decide +kernel
theorem dX3_shownOf_1 : decode cX3_shownOf 1 = .ok (.ireturn, 1) := by decide +kernel
theorem dX3_allowedBy_0 : decode cX3_allowedBy 0 = .ok (.iconst 2, 1) := by decide +kernel
theorem dX3_allowedBy_1 : decode cX3_allowedBy 1 = .ok (.iload_n 1, 1) := by decide +kernel
theorem dX3_allowedBy_2 : decode cX3_allowedBy 2 = .ok (.imul, 1) := by decide +kernel
theorem dX3_allowedBy_3 : decode cX3_allowedBy 3 = .ok (.ireturn, 1) := by decide +kernel
theorem dX3_weekly_0 : decode cX3_weekly 0 = .ok (.iconst 2, 1) := by decide +kernel
theorem dX3_weekly_1 : decode cX3_weekly 1 = .ok (.ireturn, 1) := by decide +kernel
theorem dX3_price_0 : decode cX3_price 0 = .ok (.iconst 5, 1) := by decide +kernel
theorem dX3_price_1 : decode cX3_price 1 = .ok (.ireturn, 1) := by decide +kernel
theorem dX3_hasFailure_0 : decode cX3_hasFailure 0 = .ok (.aload_n 0, 1) := by decide +kernel
theorem dX3_hasFailure_1 : decode cX3_hasFailure 1 = .ok (.getfield 7, 3) := by decide +kernel
theorem dX3_hasFailure_4 : decode cX3_hasFailure 4 = .ok (.ifCond .eq 7, 3) := by decide +kernel
theorem dX3_hasFailure_7 : decode cX3_hasFailure 7 = .ok (.iconst 1, 1) := by decide +kernel
theorem dX3_hasFailure_8 : decode cX3_hasFailure 8 = .ok (.goto 4, 3) := by decide +kernel
theorem dX3_hasFailure_11 : decode cX3_hasFailure 11 = .ok (.iconst 0, 1) := by decide +kernel
theorem dX3_hasFailure_12 : decode cX3_hasFailure 12 = .ok (.ireturn, 1) := by decide +kernel
theorem dX3_fail_0 : decode cX3_fail 0 = .ok (.new 13, 3) := by decide +kernel
theorem dX3_fail_3 : decode cX3_fail 3 = .ok (.dup, 1) := by decide +kernel
theorem dX3_fail_4 : decode cX3_fail 4 = .ok (.invokespecial 15, 3) := by decide +kernel
theorem dX3_fail_7 : decode cX3_fail 7 = .ok (.athrow, 1) := by decide +kernel
set_option maxRecDepth 20000 in
theorem ggX4_init_X2_init : GoodIn wsX4_init wsX2_init := goodIn_r _ [4, 5, 6, 7, 8, 9, 10, 11, 12, 13, 14, 15, 16, 17, 18, 19, 20] (by decide +kernel) (by decide +kernel)
set_option maxRecDepth 20000 in
theorem gX4_init_X2_init : GoodIn wsX4_init (wsX2_init) := ggX4_init_X2_init
theorem dX4_init_0 : decode cX4_init 0 = .ok (.aload_n 0, 1) := by decide +kernel
theorem dX4_init_1 : decode cX4_init 1 = .ok (.iload_n 1, 1) := by decide +kernel
theorem dX4_init_2 : decode cX4_init 2 = .ok (.invokespecial 1, 3) := by decide +kernel
theorem dX4_init_5 : decode cX4_init 5 = .ok (.return_, 1) := by decide +kernel
theorem dX4_kind_0 : decode cX4_kind 0 = .ok (.iconst 4, 1) := by decide +kernel
theorem dX4_kind_1 : decode cX4_kind 1 = .ok (.ireturn, 1) := by decide +kernel
theorem dX4_shownOf_0 : decode cX4_shownOf 0 = .ok (.aload_n 0, 1) := by decide +kernel
theorem dX4_shownOf_1 : decode cX4_shownOf 1 = .ok (.iload_n 1, 1) := by decide +kernel
theorem dX4_shownOf_2 : decode cX4_shownOf 2 = .ok (.invokespecial 7, 3) := by decide +kernel
theorem dX4_shownOf_5 : decode cX4_shownOf 5 = .ok (.iconst 2, 1) := by decide +kernel
theorem dX4_shownOf_6 : decode cX4_shownOf 6 = .ok (.idiv, 1) := by decide +kernel
theorem dX4_shownOf_7 : decode cX4_shownOf 7 = .ok (.ireturn, 1) := by decide +kernel
set_option maxRecDepth 20000 in
theorem ggX4_allowedBy_X2_allowedBy : GoodIn wsX4_allowedBy wsX2_allowedBy := goodIn_r _ [10, 11, 12, 13, 14, 15, 16, 17, 18, 19, 20, 21, 22, 23, 24, 25, 26] (by decide +kernel) (by decide +kernel)
set_option maxRecDepth 20000 in
theorem gX4_allowedBy_X2_allowedBy_s11 : GoodIn wsX4_allowedBy (va_wsSU RX4 11 yX2_allowedBy wsX2_allowedBy) := goodIn_app (goodIn_of _ (by decide +kernel)) ggX4_allowedBy_X2_allowedBy
theorem dX4_allowedBy_0 : decode cX4_allowedBy 0 = .ok (.iconst 0, 1) := by decide +kernel
theorem dX4_allowedBy_1 : decode cX4_allowedBy 1 = .ok (.aload_n 0, 1) := by decide +kernel
theorem dX4_allowedBy_2 : decode cX4_allowedBy 2 = .ok (.iload_n 1, 1) := by decide +kernel
theorem dX4_allowedBy_3 : decode cX4_allowedBy 3 = .ok (.invokespecial 11, 3) := by decide +kernel
theorem dX4_allowedBy_6 : decode cX4_allowedBy 6 = .ok (.iconst 1, 1) := by decide +kernel
theorem dX4_allowedBy_7 : decode cX4_allowedBy 7 = .ok (.isub, 1) := by decide +kernel
theorem dX4_allowedBy_8 : decode cX4_allowedBy 8 = .ok (.invokestatic 14, 3) := by decide +kernel
theorem dX4_allowedBy_11 : decode cX4_allowedBy 11 = .ok (.ireturn, 1) := by decide +kernel
set_option maxRecDepth 20000 in
theorem ggX4_weekly_X2_weekly : GoodIn wsX4_weekly wsX2_weekly := goodIn_r _ [6, 7, 8, 9, 10, 11, 12, 13, 14, 15, 16, 17, 18, 19, 20, 21, 22] (by decide +kernel) (by decide +kernel)
set_option maxRecDepth 20000 in
theorem gX4_weekly_X2_weekly_s20 : GoodIn wsX4_weekly (va_wsSU RX4 20 yX2_weekly wsX2_weekly) := goodIn_app (goodIn_of _ (by decide +kernel)) ggX4_weekly_X2_weekly
theorem dX4_weekly_0 : decode cX4_weekly 0 = .ok (.aload_n 0, 1) := by decide +kernel
theorem dX4_weekly_1 : decode cX4_weekly 1 = .ok (.invokespecial 20, 3) := by decide +kernel
theorem dX4_weekly_4 : decode cX4_weekly 4 = .ok (.iconst 1, 1) := by decide +kernel
theorem dX4_weekly_5 : decode cX4_weekly 5 = .ok (.isub, 1) := by decide +kernel
theorem dX4_weekly_6 : decode cX4_weekly 6 = .ok (.ireturn, 1) := by decide +kernel
set_option maxRecDepth 20000 in
theorem ggX4_price_X2_price : GoodIn wsX4_price wsX2_price := goodIn_r _ [6, 7, 8, 9, 10, 11, 12, 13, 14, 15, 16, 17, 18, 19, 20, 21, 22] (by decide +kernel) (by decide +kernel)
set_option maxRecDepth 20000 in
theorem gX4_price_X2_price_s24 : GoodIn wsX4_price (va_wsSU RX4 24 yX2_price wsX2_price) := goodIn_app (goodIn_of _ (by decide +kernel)) ggX4_price_X2_price
theorem dX4_price_0 : decode cX4_price 0 = .ok (.aload_n 0, 1) := by decide +kernel
theorem dX4_price_1 : decode cX4_price 1 = .ok (.invokespecial 24, 3) := by decide +kernel
theorem dX4_price_4 : decode cX4_price 4 = .ok (.iconst 1, 1) := by decide +kernel
theorem dX4_price_5 : decode cX4_price 5 = .ok (.iadd, 1) := by decide +kernel
theorem dX4_price_6 : decode cX4_price 6 = .ok (.ireturn, 1) := by decide +kernel
set_option maxRecDepth 20000 in
theorem ggX5_init_X7_init : GoodIn wsX5_init wsX7_init := goodIn_r _ [15, 16, 2, 3, 17, 18, 4, 19, 28, 29, 30, 31] (by decide +kernel) (by decide +kernel)
set_option maxRecDepth 20000 in
theorem gX5_init_X7_init : GoodIn wsX5_init (wsX7_init) := ggX5_init_X7_init
theorem dX5_init_0 : decode cX5_init 0 = .ok (.aload_n 0, 1) := by decide +kernel
theorem dX5_init_1 : decode cX5_init 1 = .ok (.invokespecial 3, 3) := by decide +kernel
theorem dX5_init_4 : decode cX5_init 4 = .ok (.aload_n 0, 1) := by decide +kernel
theorem dX5_init_5 : decode cX5_init 5 = .ok (.bipush 6, 2) := by decide +kernel
theorem dX5_init_7 : decode cX5_init 7 = .ok (.newarray .int, 2) := by decide +kernel
theorem dX5_init_9 : decode cX5_init 9 = .ok (.putfield 9, 3) := by decide +kernel
theorem dX5_init_12 : decode cX5_init 12 = .ok (.aload_n 0, 1) := by decide +kernel
theorem dX5_init_13 : decode cX5_init 13 = .ok (.new 15, 3) := by decide +kernel
theorem dX5_init_16 : decode cX5_init 16 = .ok (.dup, 1) := by decide +kernel
theorem dX5_init_17 : decode cX5_init 17 = .ok (.invokespecial 17, 3) := by decide +kernel
theorem dX5_init_20 : decode cX5_init 20 = .ok (.putfield 18, 3) := by decide +kernel
theorem dX5_init_23 : decode cX5_init 23 = .ok (.aload_n 0, 1) := by decide +kernel
theorem dX5_init_24 : decode cX5_init 24 = .ok (.bipush 6, 2) := by decide +kernel
theorem dX5_init_26 : decode cX5_init 26 = .ok (.newarray .int, 2) := by decide +kernel
theorem dX5_init_28 : decode cX5_init 28 = .ok (.putfield 22, 3) := by decide +kernel
theorem dX5_init_31 : decode cX5_init 31 = .ok (.aload_n 0, 1) := by decide +kernel
theorem dX5_init_32 : decode cX5_init 32 = .ok (.bipush 6, 2) := by decide +kernel
theorem dX5_init_34 : decode cX5_init 34 = .ok (.bipush 21, 2) := by decide +kernel
theorem dX5_init_36 : decode cX5_init 36 = .ok (.multianewarray 25 2, 4) := by decide +kernel
theorem dX5_init_40 : decode cX5_init 40 = .ok (.putfield 27, 3) := by decide +kernel
theorem dX5_init_43 : decode cX5_init 43 = .ok (.return_, 1) := by decide +kernel
set_option maxRecDepth 20000 in
theorem ggX5_search_J7_fill_53178 : GoodIn wsX5_search wsJ7_fill_53178 := goodIn_r _ [17] (by decide +kernel) (by decide +kernel)
set_option maxRecDepth 20000 in
theorem gX5_search_J7_fill_53178 : GoodIn wsX5_search (va_wsS RX5 43 yJ7_fill_53178 wsJ7_fill_53178) := goodIn_app (goodIn_of _ (by decide +kernel)) ggX5_search_J7_fill_53178
set_option maxRecDepth 20000 in
theorem ggX5_search_X7_become : GoodIn wsX5_search wsX7_become := goodIn_r _ [22, 23, 24, 25, 26, 178, 179, 180, 181] (by decide +kernel) (by decide +kernel)
set_option maxRecDepth 20000 in
theorem gX5_search_X7_become : GoodIn wsX5_search (wsV RX5 52 RX7 yX7_become wsX7_become) := goodIn_app (goodIn_of _ (by decide +kernel)) ggX5_search_X7_become
set_option maxRecDepth 20000 in
theorem ggX5_search_X7_behind : GoodIn wsX5_search wsX7_behind := goodIn_r _ [30, 25, 31, 32, 33, 21, 34, 26, 178, 179, 180, 181] (by decide +kernel) (by decide +kernel)
set_option maxRecDepth 20000 in
theorem gX5_search_X7_behind : GoodIn wsX5_search (wsV RX5 65 RX7 yX7_behind wsX7_behind) := goodIn_app (goodIn_of _ (by decide +kernel)) ggX5_search_X7_behind
set_option maxRecDepth 20000 in
theorem ggX5_search_X5_noteWhatSuits : GoodIn wsX5_search wsX5_noteWhatSuits := goodIn_r _ [39, 40, 7, 8, 14, 15, 16, 17, 41, 42, 43, 21, 44, 23, 45, 24, 46, 47, 48, 49, 50, 51, 52, 53, 54, 55, 56, 57, 58, 59, 60, 61, 62, 63, 64, 65, 66, 67, 68, 69, 70, 71, 72, 73, 74, 75, 76, 77, 78, 79, 80, 81, 82, 83, 84, 85, 86, 87, 88, 89, 90, 91, 92, 93, 94, 95, 96, 97, 98, 99, 100, 101, 102, 103, 104, 105, 106, 107, 108, 109, 110, 111, 112, 113, 114, 115, 116, 117, 118, 119, 120, 121, 122, 123, 124, 125, 126, 127, 128, 129, 130, 131, 132, 133, 170, 171, 172, 173, 174, 175, 176, 177, 178, 179, 180, 181, 182, 183, 184, 185, 186, 187, 188, 189] (by decide +kernel) (by decide +kernel)
set_option maxRecDepth 20000 in
theorem gX5_search_X5_noteWhatSuits : GoodIn wsX5_search (wsV RX5 69 RX5 yX5_noteWhatSuits wsX5_noteWhatSuits) := goodIn_app (goodIn_of _ (by decide +kernel)) ggX5_search_X5_noteWhatSuits
set_option maxRecDepth 20000 in
theorem ggX5_search_X5_part : GoodIn wsX5_search wsX5_part := goodIn_r _ [137, 7, 6, 138, 120, 121, 122, 8, 139, 140, 141, 38, 142, 143, 32, 33, 21, 34, 26, 25, 144, 145, 146, 147, 40, 148, 149, 150, 151, 2, 1, 3, 152, 153, 154, 4, 5, 155, 156, 157, 158, 159, 160, 161, 162, 9, 163, 164, 165, 166, 167, 168, 169, 134, 135, 136, 170, 171, 172, 173, 174, 175, 176, 177, 178, 179, 180, 181] (by decide +kernel) (by decide +kernel)
set_option maxRecDepth 20000 in
theorem gX5_search_X5_part : GoodIn wsX5_search (wsV RX5 73 RX5 yX5_part wsX5_part) := goodIn_app (goodIn_of _ (by decide +kernel)) ggX5_search_X5_part
theorem dX5_search_0 : decode cX5_search 0 = .ok (.aload_n 0, 1) := by decide +kernel
theorem dX5_search_1 : decode cX5_search 1 = .ok (.iconst 0, 1) := by decide +kernel
theorem dX5_search_2 : decode cX5_search 2 = .ok (.putfield 30, 3) := by decide +kernel
theorem dX5_search_5 : decode cX5_search 5 = .ok (.aload_n 0, 1) := by decide +kernel
theorem dX5_search_6 : decode cX5_search 6 = .ok (.iconst 0, 1) := by decide +kernel
theorem dX5_search_7 : decode cX5_search 7 = .ok (.putfield 34, 3) := by decide +kernel
theorem dX5_search_10 : decode cX5_search 10 = .ok (.aload_n 0, 1) := by decide +kernel
theorem dX5_search_11 : decode cX5_search 11 = .ok (.iconst 0, 1) := by decide +kernel
theorem dX5_search_12 : decode cX5_search 12 = .ok (.putfield 37, 3) := by decide +kernel
theorem dX5_search_15 : decode cX5_search 15 = .ok (.aload_n 0, 1) := by decide +kernel
theorem dX5_search_16 : decode cX5_search 16 = .ok (.iconst 0, 1) := by decide +kernel
theorem dX5_search_17 : decode cX5_search 17 = .ok (.putfield 40, 3) := by decide +kernel
theorem dX5_search_20 : decode cX5_search 20 = .ok (.aload_n 0, 1) := by decide +kernel
theorem dX5_search_21 : decode cX5_search 21 = .ok (.getfield 9, 3) := by decide +kernel
theorem dX5_search_24 : decode cX5_search 24 = .ok (.iconst 0, 1) := by decide +kernel
theorem dX5_search_25 : decode cX5_search 25 = .ok (.invokestatic 43, 3) := by decide +kernel
theorem dX5_search_28 : decode cX5_search 28 = .ok (.aload_n 1, 1) := by decide +kernel
theorem dX5_search_29 : decode cX5_search 29 = .ok (.getfield 49, 3) := by decide +kernel
theorem dX5_search_32 : decode cX5_search 32 = .ok (.bipush 6, 2) := by decide +kernel
theorem dX5_search_34 : decode cX5_search 34 = .ok (.if_icmp .gt 13, 3) := by decide +kernel
theorem dX5_search_37 : decode cX5_search 37 = .ok (.iload_n 2, 1) := by decide +kernel
theorem dX5_search_38 : decode cX5_search 38 = .ok (.ifCond .lt 9, 3) := by decide +kernel
theorem dX5_search_41 : decode cX5_search 41 = .ok (.iload_n 2, 1) := by decide +kernel
theorem dX5_search_42 : decode cX5_search 42 = .ok (.bipush 20, 2) := by decide +kernel
theorem dX5_search_44 : decode cX5_search 44 = .ok (.if_icmp .le 4, 3) := by decide +kernel
theorem dX5_search_47 : decode cX5_search 47 = .ok (.return_, 1) := by decide +kernel
theorem dX5_search_48 : decode cX5_search 48 = .ok (.aload_n 0, 1) := by decide +kernel
theorem dX5_search_49 : decode cX5_search 49 = .ok (.getfield 18, 3) := by decide +kernel
theorem dX5_search_52 : decode cX5_search 52 = .ok (.aload_n 1, 1) := by decide +kernel
theorem dX5_search_53 : decode cX5_search 53 = .ok (.invokevirtual 52, 3) := by decide +kernel
theorem dX5_search_56 : decode cX5_search 56 = .ok (.aload_n 1, 1) := by decide +kernel
theorem dX5_search_57 : decode cX5_search 57 = .ok (.getfield 56, 3) := by decide +kernel
theorem dX5_search_60 : decode cX5_search 60 = .ok (.iconst 0, 1) := by decide +kernel
theorem dX5_search_61 : decode cX5_search 61 = .ok (.aload_n 0, 1) := by decide +kernel
theorem dX5_search_62 : decode cX5_search 62 = .ok (.getfield 22, 3) := by decide +kernel
theorem dX5_search_65 : decode cX5_search 65 = .ok (.iconst 0, 1) := by decide +kernel
theorem dX5_search_66 : decode cX5_search 66 = .ok (.aload_n 1, 1) := by decide +kernel
theorem dX5_search_67 : decode cX5_search 67 = .ok (.getfield 49, 3) := by decide +kernel
theorem dX5_search_70 : decode cX5_search 70 = .ok (.invokestatic 59, 3) := by decide +kernel
theorem dX5_search_73 : decode cX5_search 73 = .ok (.iconst 0, 1) := by decide +kernel
theorem dX5_search_74 : decode cX5_search 74 = .ok (.istore_n 3, 1) := by decide +kernel
theorem dX5_search_75 : decode cX5_search 75 = .ok (.iload_n 3, 1) := by decide +kernel
theorem dX5_search_76 : decode cX5_search 76 = .ok (.aload_n 1, 1) := by decide +kernel
theorem dX5_search_77 : decode cX5_search 77 = .ok (.getfield 49, 3) := by decide +kernel
theorem dX5_search_80 : decode cX5_search 80 = .ok (.if_icmp .ge 35, 3) := by decide +kernel
theorem dX5_search_83 : decode cX5_search 83 = .ok (.aload_n 0, 1) := by decide +kernel
theorem dX5_search_84 : decode cX5_search 84 = .ok (.getfield 18, 3) := by decide +kernel
theorem dX5_search_87 : decode cX5_search 87 = .ok (.iload_n 3, 1) := by decide +kernel
theorem dX5_search_88 : decode cX5_search 88 = .ok (.invokevirtual 65, 3) := by decide +kernel
theorem dX5_search_91 : decode cX5_search 91 = .ok (.iconst (-1), 1) := by decide +kernel
theorem dX5_search_92 : decode cX5_search 92 = .ok (.if_icmp .eq 17, 3) := by decide +kernel
theorem dX5_search_95 : decode cX5_search 95 = .ok (.aload_n 0, 1) := by decide +kernel
theorem dX5_search_96 : decode cX5_search 96 = .ok (.iload_n 3, 1) := by decide +kernel
theorem dX5_search_97 : decode cX5_search 97 = .ok (.aload_n 0, 1) := by decide +kernel
theorem dX5_search_98 : decode cX5_search 98 = .ok (.getfield 18, 3) := by decide +kernel
theorem dX5_search_101 : decode cX5_search 101 = .ok (.iload_n 3, 1) := by decide +kernel
theorem dX5_search_102 : decode cX5_search 102 = .ok (.invokevirtual 65, 3) := by decide +kernel
theorem dX5_search_105 : decode cX5_search 105 = .ok (.iload_n 2, 1) := by decide +kernel
theorem dX5_search_106 : decode cX5_search 106 = .ok (.invokevirtual 69, 3) := by decide +kernel
theorem dX5_search_109 : decode cX5_search 109 = .ok (.iinc 3 1, 3) := by decide +kernel
theorem dX5_search_112 : decode cX5_search 112 = .ok (.goto (-37), 3) := by decide +kernel
theorem dX5_search_115 : decode cX5_search 115 = .ok (.aload_n 0, 1) := by decide +kernel
theorem dX5_search_116 : decode cX5_search 116 = .ok (.iconst 0, 1) := by decide +kernel
theorem dX5_search_117 : decode cX5_search 117 = .ok (.iload_n 2, 1) := by decide +kernel
theorem dX5_search_118 : decode cX5_search 118 = .ok (.invokevirtual 73, 3) := by decide +kernel
theorem dX5_search_121 : decode cX5_search 121 = .ok (.return_, 1) := by decide +kernel
set_option maxRecDepth 20000 in
theorem ggX5_noteWhatSuits_J7_fill_53178 : GoodIn wsX5_noteWhatSuits wsJ7_fill_53178 := goodIn_r _ [7] (by decide +kernel) (by decide +kernel)
set_option maxRecDepth 20000 in
theorem gX5_noteWhatSuits_J7_fill_53178 : GoodIn wsX5_noteWhatSuits (va_wsS RX5 43 yJ7_fill_53178 wsJ7_fill_53178) := goodIn_app (goodIn_of _ (by decide +kernel)) ggX5_noteWhatSuits_J7_fill_53178
set_option maxRecDepth 20000 in
theorem ggX5_noteWhatSuits_X7_limitBy : GoodIn wsX5_noteWhatSuits wsX7_limitBy := goodIn_r _ [12, 13, 14, 15, 16, 17, 18, 19, 20, 21, 22, 23, 24, 25, 26, 27, 28, 29, 30, 31, 32, 33, 34, 35, 36, 37, 38, 39, 40, 41, 42, 43, 44, 45, 46, 47, 48, 49, 50, 51, 52, 53, 54, 55, 56, 57, 58, 59, 60, 61, 62, 63, 64, 65, 66, 67, 68, 69, 70, 71, 72, 73, 74, 75, 76, 77, 78, 79, 80, 81, 82, 83, 84, 85, 86, 87, 88, 89, 90, 91, 92, 93, 94, 95, 96, 97, 98, 99, 100, 101, 102, 103, 112, 113, 114, 115, 116, 117, 118, 119, 120, 121, 122, 123] (by decide +kernel) (by decide +kernel)
set_option maxRecDepth 20000 in
theorem gX5_noteWhatSuits_X7_limitBy : GoodIn wsX5_noteWhatSuits (wsV RX5 77 RX7 yX7_limitBy wsX7_limitBy) := goodIn_app (goodIn_of _ (by decide +kernel)) ggX5_noteWhatSuits_X7_limitBy
theorem dX5_noteWhatSuits_0 : decode cX5_noteWhatSuits 0 = .ok (.aload_n 0, 1) := by decide +kernel
theorem dX5_noteWhatSuits_1 : decode cX5_noteWhatSuits 1 = .ok (.getfield 27, 3) := by decide +kernel
theorem dX5_noteWhatSuits_4 : decode cX5_noteWhatSuits 4 = .ok (.iload_n 1, 1) := by decide +kernel
theorem dX5_noteWhatSuits_5 : decode cX5_noteWhatSuits 5 = .ok (.aaload, 1) := by decide +kernel
theorem dX5_noteWhatSuits_6 : decode cX5_noteWhatSuits 6 = .ok (.iconst 0, 1) := by decide +kernel
theorem dX5_noteWhatSuits_7 : decode cX5_noteWhatSuits 7 = .ok (.invokestatic 43, 3) := by decide +kernel
theorem dX5_noteWhatSuits_10 : decode cX5_noteWhatSuits 10 = .ok (.iconst 1, 1) := by decide +kernel
theorem dX5_noteWhatSuits_11 : decode cX5_noteWhatSuits 11 = .ok (.istore 4, 2) := by decide +kernel
theorem dX5_noteWhatSuits_13 : decode cX5_noteWhatSuits 13 = .ok (.iload 4, 2) := by decide +kernel
theorem dX5_noteWhatSuits_15 : decode cX5_noteWhatSuits 15 = .ok (.iload_n 3, 1) := by decide +kernel
theorem dX5_noteWhatSuits_16 : decode cX5_noteWhatSuits 16 = .ok (.if_icmp .ge 93, 3) := by decide +kernel
theorem dX5_noteWhatSuits_19 : decode cX5_noteWhatSuits 19 = .ok (.aload_n 0, 1) := by decide +kernel
theorem dX5_noteWhatSuits_20 : decode cX5_noteWhatSuits 20 = .ok (.getfield 18, 3) := by decide +kernel
theorem dX5_noteWhatSuits_23 : decode cX5_noteWhatSuits 23 = .ok (.getfield 56, 3) := by decide +kernel
theorem dX5_noteWhatSuits_26 : decode cX5_noteWhatSuits 26 = .ok (.iload_n 1, 1) := by decide +kernel
theorem dX5_noteWhatSuits_27 : decode cX5_noteWhatSuits 27 = .ok (.iload 4, 2) := by decide +kernel
theorem dX5_noteWhatSuits_29 : decode cX5_noteWhatSuits 29 = .ok (.iastore, 1) := by decide +kernel
theorem dX5_noteWhatSuits_30 : decode cX5_noteWhatSuits 30 = .ok (.iconst 1, 1) := by decide +kernel
theorem dX5_noteWhatSuits_31 : decode cX5_noteWhatSuits 31 = .ok (.istore 5, 2) := by decide +kernel
theorem dX5_noteWhatSuits_33 : decode cX5_noteWhatSuits 33 = .ok (.iload 4, 2) := by decide +kernel
theorem dX5_noteWhatSuits_35 : decode cX5_noteWhatSuits 35 = .ok (.iload 5, 2) := by decide +kernel
theorem dX5_noteWhatSuits_37 : decode cX5_noteWhatSuits 37 = .ok (.iadd, 1) := by decide +kernel
theorem dX5_noteWhatSuits_38 : decode cX5_noteWhatSuits 38 = .ok (.iload_n 3, 1) := by decide +kernel
theorem dX5_noteWhatSuits_39 : decode cX5_noteWhatSuits 39 = .ok (.if_icmp .gt 64, 3) := by decide +kernel
theorem dX5_noteWhatSuits_42 : decode cX5_noteWhatSuits 42 = .ok (.aload_n 0, 1) := by decide +kernel
theorem dX5_noteWhatSuits_43 : decode cX5_noteWhatSuits 43 = .ok (.getfield 18, 3) := by decide +kernel
theorem dX5_noteWhatSuits_46 : decode cX5_noteWhatSuits 46 = .ok (.getfield 56, 3) := by decide +kernel
theorem dX5_noteWhatSuits_49 : decode cX5_noteWhatSuits 49 = .ok (.iload_n 2, 1) := by decide +kernel
theorem dX5_noteWhatSuits_50 : decode cX5_noteWhatSuits 50 = .ok (.iload 5, 2) := by decide +kernel
theorem dX5_noteWhatSuits_52 : decode cX5_noteWhatSuits 52 = .ok (.iastore, 1) := by decide +kernel
theorem dX5_noteWhatSuits_53 : decode cX5_noteWhatSuits 53 = .ok (.iload 4, 2) := by decide +kernel
theorem dX5_noteWhatSuits_55 : decode cX5_noteWhatSuits 55 = .ok (.aload_n 0, 1) := by decide +kernel
theorem dX5_noteWhatSuits_56 : decode cX5_noteWhatSuits 56 = .ok (.getfield 18, 3) := by decide +kernel
theorem dX5_noteWhatSuits_59 : decode cX5_noteWhatSuits 59 = .ok (.iload_n 1, 1) := by decide +kernel
theorem dX5_noteWhatSuits_60 : decode cX5_noteWhatSuits 60 = .ok (.iload_n 2, 1) := by decide +kernel
theorem dX5_noteWhatSuits_61 : decode cX5_noteWhatSuits 61 = .ok (.invokevirtual 77, 3) := by decide +kernel
theorem dX5_noteWhatSuits_64 : decode cX5_noteWhatSuits 64 = .ok (.if_icmp .gt 33, 3) := by decide +kernel
theorem dX5_noteWhatSuits_67 : decode cX5_noteWhatSuits 67 = .ok (.iload 5, 2) := by decide +kernel
theorem dX5_noteWhatSuits_69 : decode cX5_noteWhatSuits 69 = .ok (.aload_n 0, 1) := by decide +kernel
theorem dX5_noteWhatSuits_70 : decode cX5_noteWhatSuits 70 = .ok (.getfield 18, 3) := by decide +kernel
theorem dX5_noteWhatSuits_73 : decode cX5_noteWhatSuits 73 = .ok (.iload_n 2, 1) := by decide +kernel
theorem dX5_noteWhatSuits_74 : decode cX5_noteWhatSuits 74 = .ok (.iload_n 1, 1) := by decide +kernel
theorem dX5_noteWhatSuits_75 : decode cX5_noteWhatSuits 75 = .ok (.invokevirtual 77, 3) := by decide +kernel
theorem dX5_noteWhatSuits_78 : decode cX5_noteWhatSuits 78 = .ok (.if_icmp .gt 19, 3) := by decide +kernel
theorem dX5_noteWhatSuits_81 : decode cX5_noteWhatSuits 81 = .ok (.aload_n 0, 1) := by decide +kernel
theorem dX5_noteWhatSuits_82 : decode cX5_noteWhatSuits 82 = .ok (.getfield 27, 3) := by decide +kernel
theorem dX5_noteWhatSuits_85 : decode cX5_noteWhatSuits 85 = .ok (.iload_n 1, 1) := by decide +kernel
theorem dX5_noteWhatSuits_86 : decode cX5_noteWhatSuits 86 = .ok (.aaload, 1) := by decide +kernel
theorem dX5_noteWhatSuits_87 : decode cX5_noteWhatSuits 87 = .ok (.iload 4, 2) := by decide +kernel
theorem dX5_noteWhatSuits_89 : decode cX5_noteWhatSuits 89 = .ok (.dup2, 1) := by decide +kernel
theorem dX5_noteWhatSuits_90 : decode cX5_noteWhatSuits 90 = .ok (.iaload, 1) := by decide +kernel
theorem dX5_noteWhatSuits_91 : decode cX5_noteWhatSuits 91 = .ok (.iconst 1, 1) := by decide +kernel
theorem dX5_noteWhatSuits_92 : decode cX5_noteWhatSuits 92 = .ok (.iload 5, 2) := by decide +kernel
theorem dX5_noteWhatSuits_94 : decode cX5_noteWhatSuits 94 = .ok (.ishl, 1) := by decide +kernel
theorem dX5_noteWhatSuits_95 : decode cX5_noteWhatSuits 95 = .ok (.ior, 1) := by decide +kernel
theorem dX5_noteWhatSuits_96 : decode cX5_noteWhatSuits 96 = .ok (.iastore, 1) := by decide +kernel
theorem dX5_noteWhatSuits_97 : decode cX5_noteWhatSuits 97 = .ok (.iinc 5 1, 3) := by decide +kernel
theorem dX5_noteWhatSuits_100 : decode cX5_noteWhatSuits 100 = .ok (.goto (-67), 3) := by decide +kernel
theorem dX5_noteWhatSuits_103 : decode cX5_noteWhatSuits 103 = .ok (.iinc 4 1, 3) := by decide +kernel
theorem dX5_noteWhatSuits_106 : decode cX5_noteWhatSuits 106 = .ok (.goto (-93), 3) := by decide +kernel
theorem dX5_noteWhatSuits_109 : decode cX5_noteWhatSuits 109 = .ok (.return_, 1) := by decide +kernel
set_option maxRecDepth 20000 in
theorem ggX5_part_X5_isClosedWell : GoodIn wsX5_part wsX5_isClosedWell := goodIn_r _ [12, 1, 2, 13, 14, 15, 16, 17, 18, 19, 20, 21, 22, 11, 23, 24, 7, 56, 57, 58, 59, 60, 61, 62, 63, 64, 65, 66, 67] (by decide +kernel) (by decide +kernel)
set_option maxRecDepth 20000 in
theorem gX5_part_X5_isClosedWell : GoodIn wsX5_part (wsV RX5 81 RX5 yX5_isClosedWell wsX5_isClosedWell) := goodIn_app (goodIn_of _ (by decide +kernel)) ggX5_part_X5_isClosedWell
set_option maxRecDepth 20000 in
theorem ggX5_part_X5_note : GoodIn wsX5_part wsX5_note := goodIn_r _ [28, 29, 3, 4, 5, 6, 30, 31, 32, 33, 34, 35, 1, 2, 36, 7, 37, 38, 39, 11, 40, 41, 42, 43, 44, 45, 46, 47, 48, 49, 50, 51, 52, 56, 57, 58, 59, 60, 61, 62, 63, 64, 65, 66, 67] (by decide +kernel) (by decide +kernel)
set_option maxRecDepth 20000 in
theorem gX5_part_X5_note : GoodIn wsX5_part (wsV RX5 85 RX5 yX5_note wsX5_note) := goodIn_app (goodIn_of _ (by decide +kernel)) ggX5_part_X5_note
set_option maxRecDepth 20000 in
theorem ggX5_part_X5_suit : GoodIn wsX5_part wsX5_suit := goodIn_r _ [23, 24, 1, 7, 56, 57, 58, 59, 60, 61, 62, 63, 64, 65, 66, 67] (by decide +kernel) (by decide +kernel)
set_option maxRecDepth 20000 in
theorem gX5_part_X5_suit : GoodIn wsX5_part (wsV RX5 93 RX5 yX5_suit wsX5_suit) := goodIn_app (goodIn_of _ (by decide +kernel)) ggX5_part_X5_suit
set_option maxRecDepth 20000 in
theorem ggX5_part_X5_part : GoodIn wsX5_part wsX5_part := goodIn_r _ [0, 1, 2, 3, 4, 5, 6, 7, 8, 9, 10, 11, 12, 13, 14, 15, 16, 17, 18, 19, 20, 21, 22, 23, 24, 25, 26, 27, 28, 29, 30, 31, 32, 33, 34, 35, 36, 37, 38, 39, 40, 41, 42, 43, 44, 45, 46, 47, 48, 49, 50, 51, 52, 53, 54, 55, 56, 57, 58, 59, 60, 61, 62, 63, 64, 65, 66, 67] (by decide +kernel) (by decide +kernel)
set_option maxRecDepth 20000 in
theorem gX5_part_X5_part : GoodIn wsX5_part (wsV RX5 73 RX5 yX5_part wsX5_part) := goodIn_app (goodIn_of _ (by decide +kernel)) ggX5_part_X5_part
theorem dX5_part_0 : decode cX5_part 0 = .ok (.iload_n 1, 1) := by decide +kernel
theorem dX5_part_1 : decode cX5_part 1 = .ok (.aload_n 0, 1) := by decide +kernel
theorem dX5_part_2 : decode cX5_part 2 = .ok (.getfield 18, 3) := by decide +kernel
theorem dX5_part_5 : decode cX5_part 5 = .ok (.getfield 49, 3) := by decide +kernel
theorem dX5_part_8 : decode cX5_part 8 = .ok (.if_icmp .lt 19, 3) := by decide +kernel
theorem dX5_part_11 : decode cX5_part 11 = .ok (.iload_n 2, 1) := by decide +kernel
theorem dX5_part_12 : decode cX5_part 12 = .ok (.ifCond .ne 14, 3) := by decide +kernel
theorem dX5_part_15 : decode cX5_part 15 = .ok (.aload_n 0, 1) := by decide +kernel
theorem dX5_part_16 : decode cX5_part 16 = .ok (.invokevirtual 81, 3) := by decide +kernel
theorem dX5_part_19 : decode cX5_part 19 = .ok (.ifCond .eq 7, 3) := by decide +kernel
theorem dX5_part_22 : decode cX5_part 22 = .ok (.aload_n 0, 1) := by decide +kernel
theorem dX5_part_23 : decode cX5_part 23 = .ok (.invokevirtual 85, 3) := by decide +kernel
theorem dX5_part_26 : decode cX5_part 26 = .ok (.return_, 1) := by decide +kernel
theorem dX5_part_27 : decode cX5_part 27 = .ok (.iload_n 2, 1) := by decide +kernel
theorem dX5_part_28 : decode cX5_part 28 = .ok (.aload_n 0, 1) := by decide +kernel
theorem dX5_part_29 : decode cX5_part 29 = .ok (.getfield 18, 3) := by decide +kernel
theorem dX5_part_32 : decode cX5_part 32 = .ok (.getfield 49, 3) := by decide +kernel
theorem dX5_part_35 : decode cX5_part 35 = .ok (.iconst 1, 1) := by decide +kernel
theorem dX5_part_36 : decode cX5_part 36 = .ok (.isub, 1) := by decide +kernel
theorem dX5_part_37 : decode cX5_part 37 = .ok (.iload_n 1, 1) := by decide +kernel
theorem dX5_part_38 : decode cX5_part 38 = .ok (.isub, 1) := by decide +kernel
theorem dX5_part_39 : decode cX5_part 39 = .ok (.isub, 1) := by decide +kernel
theorem dX5_part_40 : decode cX5_part 40 = .ok (.istore_n 3, 1) := by decide +kernel
theorem dX5_part_41 : decode cX5_part 41 = .ok (.iload_n 1, 1) := by decide +kernel
theorem dX5_part_42 : decode cX5_part 42 = .ok (.aload_n 0, 1) := by decide +kernel
theorem dX5_part_43 : decode cX5_part 43 = .ok (.getfield 18, 3) := by decide +kernel
theorem dX5_part_46 : decode cX5_part 46 = .ok (.getfield 49, 3) := by decide +kernel
theorem dX5_part_49 : decode cX5_part 49 = .ok (.iconst 1, 1) := by decide +kernel
theorem dX5_part_50 : decode cX5_part 50 = .ok (.isub, 1) := by decide +kernel
theorem dX5_part_51 : decode cX5_part 51 = .ok (.if_icmp .ne 7, 3) := by decide +kernel
theorem dX5_part_54 : decode cX5_part 54 = .ok (.iload_n 2, 1) := by decide +kernel
theorem dX5_part_55 : decode cX5_part 55 = .ok (.goto 4, 3) := by decide +kernel
theorem dX5_part_58 : decode cX5_part 58 = .ok (.iconst 1, 1) := by decide +kernel
theorem dX5_part_59 : decode cX5_part 59 = .ok (.istore 4, 2) := by decide +kernel
theorem dX5_part_61 : decode cX5_part 61 = .ok (.iconst 1, 1) := by decide +kernel
theorem dX5_part_62 : decode cX5_part 62 = .ok (.iload 4, 2) := by decide +kernel
theorem dX5_part_64 : decode cX5_part 64 = .ok (.invokestatic 88, 3) := by decide +kernel
theorem dX5_part_67 : decode cX5_part 67 = .ok (.istore 5, 2) := by decide +kernel
theorem dX5_part_69 : decode cX5_part 69 = .ok (.iload 5, 2) := by decide +kernel
theorem dX5_part_71 : decode cX5_part 71 = .ok (.iload_n 3, 1) := by decide +kernel
theorem dX5_part_72 : decode cX5_part 72 = .ok (.if_icmp .gt 46, 3) := by decide +kernel
theorem dX5_part_75 : decode cX5_part 75 = .ok (.aload_n 0, 1) := by decide +kernel
theorem dX5_part_76 : decode cX5_part 76 = .ok (.getfield 18, 3) := by decide +kernel
theorem dX5_part_79 : decode cX5_part 79 = .ok (.getfield 56, 3) := by decide +kernel
theorem dX5_part_82 : decode cX5_part 82 = .ok (.iload_n 1, 1) := by decide +kernel
theorem dX5_part_83 : decode cX5_part 83 = .ok (.iload 5, 2) := by decide +kernel
theorem dX5_part_85 : decode cX5_part 85 = .ok (.iastore, 1) := by decide +kernel
theorem dX5_part_86 : decode cX5_part 86 = .ok (.iload_n 1, 1) := by decide +kernel
theorem dX5_part_87 : decode cX5_part 87 = .ok (.ifCond .eq 14, 3) := by decide +kernel
theorem dX5_part_90 : decode cX5_part 90 = .ok (.aload_n 0, 1) := by decide +kernel
theorem dX5_part_91 : decode cX5_part 91 = .ok (.iload_n 1, 1) := by decide +kernel
theorem dX5_part_92 : decode cX5_part 92 = .ok (.iconst 1, 1) := by decide +kernel
theorem dX5_part_93 : decode cX5_part 93 = .ok (.isub, 1) := by decide +kernel
theorem dX5_part_94 : decode cX5_part 94 = .ok (.iload_n 1, 1) := by decide +kernel
theorem dX5_part_95 : decode cX5_part 95 = .ok (.invokevirtual 93, 3) := by decide +kernel
theorem dX5_part_98 : decode cX5_part 98 = .ok (.ifCond .eq 14, 3) := by decide +kernel
theorem dX5_part_101 : decode cX5_part 101 = .ok (.aload_n 0, 1) := by decide +kernel
theorem dX5_part_102 : decode cX5_part 102 = .ok (.iload_n 1, 1) := by decide +kernel
theorem dX5_part_103 : decode cX5_part 103 = .ok (.iconst 1, 1) := by decide +kernel
theorem dX5_part_104 : decode cX5_part 104 = .ok (.iadd, 1) := by decide +kernel
theorem dX5_part_105 : decode cX5_part 105 = .ok (.iload_n 2, 1) := by decide +kernel
theorem dX5_part_106 : decode cX5_part 106 = .ok (.iload 5, 2) := by decide +kernel
theorem dX5_part_108 : decode cX5_part 108 = .ok (.isub, 1) := by decide +kernel
theorem dX5_part_109 : decode cX5_part 109 = .ok (.invokevirtual 73, 3) := by decide +kernel
theorem dX5_part_112 : decode cX5_part 112 = .ok (.iinc 5 1, 3) := by decide +kernel
theorem dX5_part_115 : decode cX5_part 115 = .ok (.goto (-46), 3) := by decide +kernel
theorem dX5_part_118 : decode cX5_part 118 = .ok (.return_, 1) := by decide +kernel
theorem dX5_suit_0 : decode cX5_suit 0 = .ok (.aload_n 0, 1) := by decide +kernel
theorem dX5_suit_1 : decode cX5_suit 1 = .ok (.getfield 27, 3) := by decide +kernel
theorem dX5_suit_4 : decode cX5_suit 4 = .ok (.iload_n 1, 1) := by decide +kernel
theorem dX5_suit_5 : decode cX5_suit 5 = .ok (.aaload, 1) := by decide +kernel
theorem dX5_suit_6 : decode cX5_suit 6 = .ok (.aload_n 0, 1) := by decide +kernel
theorem dX5_suit_7 : decode cX5_suit 7 = .ok (.getfield 18, 3) := by decide +kernel
theorem dX5_suit_10 : decode cX5_suit 10 = .ok (.getfield 56, 3) := by decide +kernel
theorem dX5_suit_13 : decode cX5_suit 13 = .ok (.iload_n 1, 1) := by decide +kernel
theorem dX5_suit_14 : decode cX5_suit 14 = .ok (.iaload, 1) := by decide +kernel
theorem dX5_suit_15 : decode cX5_suit 15 = .ok (.iaload, 1) := by decide +kernel
theorem dX5_suit_16 : decode cX5_suit 16 = .ok (.aload_n 0, 1) := by decide +kernel
theorem dX5_suit_17 : decode cX5_suit 17 = .ok (.getfield 18, 3) := by decide +kernel
theorem dX5_suit_20 : decode cX5_suit 20 = .ok (.getfield 56, 3) := by decide +kernel
theorem dX5_suit_23 : decode cX5_suit 23 = .ok (.iload_n 2, 1) := by decide +kernel
theorem dX5_suit_24 : decode cX5_suit 24 = .ok (.iaload, 1) := by decide +kernel
theorem dX5_suit_25 : decode cX5_suit 25 = .ok (.ishr, 1) := by decide +kernel
theorem dX5_suit_26 : decode cX5_suit 26 = .ok (.iconst 1, 1) := by decide +kernel
theorem dX5_suit_27 : decode cX5_suit 27 = .ok (.iand, 1) := by decide +kernel
theorem dX5_suit_28 : decode cX5_suit 28 = .ok (.iconst 1, 1) := by decide +kernel
theorem dX5_suit_29 : decode cX5_suit 29 = .ok (.if_icmp .ne 7, 3) := by decide +kernel
theorem dX5_suit_32 : decode cX5_suit 32 = .ok (.iconst 1, 1) := by decide +kernel
theorem dX5_suit_33 : decode cX5_suit 33 = .ok (.goto 4, 3) := by decide +kernel
theorem dX5_suit_36 : decode cX5_suit 36 = .ok (.iconst 0, 1) := by decide +kernel
theorem dX5_suit_37 : decode cX5_suit 37 = .ok (.ireturn, 1) := by decide +kernel
set_option maxRecDepth 20000 in
theorem ggX5_isClosedWell_X7_isClosed : GoodIn wsX5_isClosedWell wsX7_isClosed := goodIn_r _ [7, 8, 9, 25, 26, 27, 28] (by decide +kernel) (by decide +kernel)
set_option maxRecDepth 20000 in
theorem gX5_isClosedWell_X7_isClosed : GoodIn wsX5_isClosedWell (wsV RX5 97 RX7 yX7_isClosed wsX7_isClosed) := goodIn_app (goodIn_of _ (by decide +kernel)) ggX5_isClosedWell_X7_isClosed
set_option maxRecDepth 20000 in
theorem ggX5_isClosedWell_X5_suit : GoodIn wsX5_isClosedWell wsX5_suit := goodIn_r _ [14, 15, 1, 16, 17, 18, 19, 20, 21, 22, 23, 24, 25, 26, 27, 28] (by decide +kernel) (by decide +kernel)
set_option maxRecDepth 20000 in
theorem gX5_isClosedWell_X5_suit : GoodIn wsX5_isClosedWell (wsV RX5 93 RX5 yX5_suit wsX5_suit) := goodIn_app (goodIn_of _ (by decide +kernel)) ggX5_isClosedWell_X5_suit
theorem dX5_isClosedWell_0 : decode cX5_isClosedWell 0 = .ok (.aload_n 0, 1) := by decide +kernel
theorem dX5_isClosedWell_1 : decode cX5_isClosedWell 1 = .ok (.getfield 18, 3) := by decide +kernel
theorem dX5_isClosedWell_4 : decode cX5_isClosedWell 4 = .ok (.invokevirtual 97, 3) := by decide +kernel
theorem dX5_isClosedWell_7 : decode cX5_isClosedWell 7 = .ok (.ifCond .eq 20, 3) := by decide +kernel
theorem dX5_isClosedWell_10 : decode cX5_isClosedWell 10 = .ok (.aload_n 0, 1) := by decide +kernel
theorem dX5_isClosedWell_11 : decode cX5_isClosedWell 11 = .ok (.aload_n 0, 1) := by decide +kernel
theorem dX5_isClosedWell_12 : decode cX5_isClosedWell 12 = .ok (.getfield 18, 3) := by decide +kernel
theorem dX5_isClosedWell_15 : decode cX5_isClosedWell 15 = .ok (.getfield 49, 3) := by decide +kernel
theorem dX5_isClosedWell_18 : decode cX5_isClosedWell 18 = .ok (.iconst 1, 1) := by decide +kernel
theorem dX5_isClosedWell_19 : decode cX5_isClosedWell 19 = .ok (.isub, 1) := by decide +kernel
theorem dX5_isClosedWell_20 : decode cX5_isClosedWell 20 = .ok (.iconst 0, 1) := by decide +kernel
theorem dX5_isClosedWell_21 : decode cX5_isClosedWell 21 = .ok (.invokevirtual 93, 3) := by decide +kernel
theorem dX5_isClosedWell_24 : decode cX5_isClosedWell 24 = .ok (.ifCond .eq 7, 3) := by decide +kernel
theorem dX5_isClosedWell_27 : decode cX5_isClosedWell 27 = .ok (.iconst 1, 1) := by decide +kernel
theorem dX5_isClosedWell_28 : decode cX5_isClosedWell 28 = .ok (.goto 4, 3) := by decide +kernel
theorem dX5_isClosedWell_31 : decode cX5_isClosedWell 31 = .ok (.iconst 0, 1) := by decide +kernel
theorem dX5_isClosedWell_32 : decode cX5_isClosedWell 32 = .ok (.ireturn, 1) := by decide +kernel
set_option maxRecDepth 20000 in
theorem ggX5_note_X5_difference : GoodIn wsX5_note wsX5_difference := goodIn_r _ [20, 12, 13, 15, 8, 9, 4, 10, 2, 3, 5, 33, 34, 35, 36, 37, 38, 39, 40, 41, 42, 43, 44] (by decide +kernel) (by decide +kernel)
set_option maxRecDepth 20000 in
theorem gX5_note_X5_difference : GoodIn wsX5_note (wsV RX5 100 RX5 yX5_difference wsX5_difference) := goodIn_app (goodIn_of _ (by decide +kernel)) ggX5_note_X5_difference
set_option maxRecDepth 20000 in
theorem ggX5_note_X5_handed : GoodIn wsX5_note wsX5_handed := goodIn_r _ [24, 12, 13, 25, 15, 26, 27, 4, 28, 33, 34, 35, 36, 37, 38, 39, 40, 41, 42, 43, 44] (by decide +kernel) (by decide +kernel)
set_option maxRecDepth 20000 in
theorem gX5_note_X5_handed : GoodIn wsX5_note (wsV RX5 104 RX5 yX5_handed wsX5_handed) := goodIn_app (goodIn_of _ (by decide +kernel)) ggX5_note_X5_handed
set_option maxRecDepth 20000 in
theorem ggX5_note_X5_moving : GoodIn wsX5_note wsX5_moving := goodIn_r _ [32, 12, 13, 25, 15, 2, 3, 4, 5, 33, 34, 35, 36, 37, 38, 39, 40, 41, 42, 43, 44] (by decide +kernel) (by decide +kernel)
set_option maxRecDepth 20000 in
theorem gX5_note_X5_moving : GoodIn wsX5_note (wsV RX5 110 RX5 yX5_moving wsX5_moving) := goodIn_app (goodIn_of _ (by decide +kernel)) ggX5_note_X5_moving
theorem dX5_note_0 : decode cX5_note 0 = .ok (.aload_n 0, 1) := by decide +kernel
theorem dX5_note_1 : decode cX5_note 1 = .ok (.aload_n 0, 1) := by decide +kernel
theorem dX5_note_2 : decode cX5_note 2 = .ok (.getfield 34, 3) := by decide +kernel
theorem dX5_note_5 : decode cX5_note 5 = .ok (.aload_n 0, 1) := by decide +kernel
theorem dX5_note_6 : decode cX5_note 6 = .ok (.invokevirtual 100, 3) := by decide +kernel
theorem dX5_note_9 : decode cX5_note 9 = .ok (.invokestatic 88, 3) := by decide +kernel
theorem dX5_note_12 : decode cX5_note 12 = .ok (.putfield 34, 3) := by decide +kernel
theorem dX5_note_15 : decode cX5_note 15 = .ok (.aload_n 0, 1) := by decide +kernel
theorem dX5_note_16 : decode cX5_note 16 = .ok (.aload_n 0, 1) := by decide +kernel
theorem dX5_note_17 : decode cX5_note 17 = .ok (.getfield 30, 3) := by decide +kernel
theorem dX5_note_20 : decode cX5_note 20 = .ok (.ifCond .ne 10, 3) := by decide +kernel
theorem dX5_note_23 : decode cX5_note 23 = .ok (.aload_n 0, 1) := by decide +kernel
theorem dX5_note_24 : decode cX5_note 24 = .ok (.invokevirtual 104, 3) := by decide +kernel
theorem dX5_note_27 : decode cX5_note 27 = .ok (.goto 14, 3) := by decide +kernel
theorem dX5_note_30 : decode cX5_note 30 = .ok (.aload_n 0, 1) := by decide +kernel
theorem dX5_note_31 : decode cX5_note 31 = .ok (.getfield 37, 3) := by decide +kernel
theorem dX5_note_34 : decode cX5_note 34 = .ok (.aload_n 0, 1) := by decide +kernel
theorem dX5_note_35 : decode cX5_note 35 = .ok (.invokevirtual 104, 3) := by decide +kernel
theorem dX5_note_38 : decode cX5_note 38 = .ok (.invokestatic 107, 3) := by decide +kernel
theorem dX5_note_41 : decode cX5_note 41 = .ok (.putfield 37, 3) := by decide +kernel
theorem dX5_note_44 : decode cX5_note 44 = .ok (.aload_n 0, 1) := by decide +kernel
theorem dX5_note_45 : decode cX5_note 45 = .ok (.aload_n 0, 1) := by decide +kernel
theorem dX5_note_46 : decode cX5_note 46 = .ok (.getfield 30, 3) := by decide +kernel
theorem dX5_note_49 : decode cX5_note 49 = .ok (.ifCond .ne 10, 3) := by decide +kernel
theorem dX5_note_52 : decode cX5_note 52 = .ok (.aload_n 0, 1) := by decide +kernel
theorem dX5_note_53 : decode cX5_note 53 = .ok (.invokevirtual 110, 3) := by decide +kernel
theorem dX5_note_56 : decode cX5_note 56 = .ok (.goto 14, 3) := by decide +kernel
theorem dX5_note_59 : decode cX5_note 59 = .ok (.aload_n 0, 1) := by decide +kernel
theorem dX5_note_60 : decode cX5_note 60 = .ok (.getfield 40, 3) := by decide +kernel
theorem dX5_note_63 : decode cX5_note 63 = .ok (.aload_n 0, 1) := by decide +kernel
theorem dX5_note_64 : decode cX5_note 64 = .ok (.invokevirtual 110, 3) := by decide +kernel
theorem dX5_note_67 : decode cX5_note 67 = .ok (.invokestatic 107, 3) := by decide +kernel
theorem dX5_note_70 : decode cX5_note 70 = .ok (.putfield 40, 3) := by decide +kernel
theorem dX5_note_73 : decode cX5_note 73 = .ok (.iconst 0, 1) := by decide +kernel
theorem dX5_note_74 : decode cX5_note 74 = .ok (.istore_n 1, 1) := by decide +kernel
theorem dX5_note_75 : decode cX5_note 75 = .ok (.iload_n 1, 1) := by decide +kernel
theorem dX5_note_76 : decode cX5_note 76 = .ok (.aload_n 0, 1) := by decide +kernel
theorem dX5_note_77 : decode cX5_note 77 = .ok (.getfield 18, 3) := by decide +kernel
theorem dX5_note_80 : decode cX5_note 80 = .ok (.getfield 49, 3) := by decide +kernel
theorem dX5_note_83 : decode cX5_note 83 = .ok (.if_icmp .ge 33, 3) := by decide +kernel
theorem dX5_note_86 : decode cX5_note 86 = .ok (.aload_n 0, 1) := by decide +kernel
theorem dX5_note_87 : decode cX5_note 87 = .ok (.getfield 9, 3) := by decide +kernel
theorem dX5_note_90 : decode cX5_note 90 = .ok (.iload_n 1, 1) := by decide +kernel
theorem dX5_note_91 : decode cX5_note 91 = .ok (.aload_n 0, 1) := by decide +kernel
theorem dX5_note_92 : decode cX5_note 92 = .ok (.getfield 9, 3) := by decide +kernel
theorem dX5_note_95 : decode cX5_note 95 = .ok (.iload_n 1, 1) := by decide +kernel
theorem dX5_note_96 : decode cX5_note 96 = .ok (.iaload, 1) := by decide +kernel
theorem dX5_note_97 : decode cX5_note 97 = .ok (.aload_n 0, 1) := by decide +kernel
theorem dX5_note_98 : decode cX5_note 98 = .ok (.getfield 18, 3) := by decide +kernel
theorem dX5_note_101 : decode cX5_note 101 = .ok (.getfield 56, 3) := by decide +kernel
theorem dX5_note_104 : decode cX5_note 104 = .ok (.iload_n 1, 1) := by decide +kernel
theorem dX5_note_105 : decode cX5_note 105 = .ok (.iaload, 1) := by decide +kernel
theorem dX5_note_106 : decode cX5_note 106 = .ok (.invokestatic 88, 3) := by decide +kernel
theorem dX5_note_109 : decode cX5_note 109 = .ok (.iastore, 1) := by decide +kernel
theorem dX5_note_110 : decode cX5_note 110 = .ok (.iinc 1 1, 3) := by decide +kernel
theorem dX5_note_113 : decode cX5_note 113 = .ok (.goto (-38), 3) := by decide +kernel
theorem dX5_note_116 : decode cX5_note 116 = .ok (.aload_n 0, 1) := by decide +kernel
theorem dX5_note_117 : decode cX5_note 117 = .ok (.dup, 1) := by decide +kernel
theorem dX5_note_118 : decode cX5_note 118 = .ok (.getfield 30, 3) := by decide +kernel
theorem dX5_note_121 : decode cX5_note 121 = .ok (.iconst 1, 1) := by decide +kernel
theorem dX5_note_122 : decode cX5_note 122 = .ok (.iadd, 1) := by decide +kernel
theorem dX5_note_123 : decode cX5_note 123 = .ok (.putfield 30, 3) := by decide +kernel
theorem dX5_note_126 : decode cX5_note 126 = .ok (.return_, 1) := by decide +kernel
theorem dX5_difference_0 : decode cX5_difference 0 = .ok (.sipush 9999, 3) := by decide +kernel
theorem dX5_difference_3 : decode cX5_difference 3 = .ok (.istore_n 1, 1) := by decide +kernel
theorem dX5_difference_4 : decode cX5_difference 4 = .ok (.iconst 0, 1) := by decide +kernel
theorem dX5_difference_5 : decode cX5_difference 5 = .ok (.istore_n 2, 1) := by decide +kernel
theorem dX5_difference_6 : decode cX5_difference 6 = .ok (.iconst 0, 1) := by decide +kernel
theorem dX5_difference_7 : decode cX5_difference 7 = .ok (.istore_n 3, 1) := by decide +kernel
theorem dX5_difference_8 : decode cX5_difference 8 = .ok (.iload_n 3, 1) := by decide +kernel
theorem dX5_difference_9 : decode cX5_difference 9 = .ok (.aload_n 0, 1) := by decide +kernel
theorem dX5_difference_10 : decode cX5_difference 10 = .ok (.getfield 18, 3) := by decide +kernel
theorem dX5_difference_13 : decode cX5_difference 13 = .ok (.getfield 49, 3) := by decide +kernel
theorem dX5_difference_16 : decode cX5_difference 16 = .ok (.if_icmp .ge 37, 3) := by decide +kernel
theorem dX5_difference_19 : decode cX5_difference 19 = .ok (.iload_n 1, 1) := by decide +kernel
theorem dX5_difference_20 : decode cX5_difference 20 = .ok (.aload_n 0, 1) := by decide +kernel
theorem dX5_difference_21 : decode cX5_difference 21 = .ok (.getfield 18, 3) := by decide +kernel
theorem dX5_difference_24 : decode cX5_difference 24 = .ok (.getfield 56, 3) := by decide +kernel
theorem dX5_difference_27 : decode cX5_difference 27 = .ok (.iload_n 3, 1) := by decide +kernel
theorem dX5_difference_28 : decode cX5_difference 28 = .ok (.iaload, 1) := by decide +kernel
theorem dX5_difference_29 : decode cX5_difference 29 = .ok (.invokestatic 107, 3) := by decide +kernel
theorem dX5_difference_32 : decode cX5_difference 32 = .ok (.istore_n 1, 1) := by decide +kernel
theorem dX5_difference_33 : decode cX5_difference 33 = .ok (.iload_n 2, 1) := by decide +kernel
theorem dX5_difference_34 : decode cX5_difference 34 = .ok (.aload_n 0, 1) := by decide +kernel
theorem dX5_difference_35 : decode cX5_difference 35 = .ok (.getfield 18, 3) := by decide +kernel
theorem dX5_difference_38 : decode cX5_difference 38 = .ok (.getfield 56, 3) := by decide +kernel
theorem dX5_difference_41 : decode cX5_difference 41 = .ok (.iload_n 3, 1) := by decide +kernel
theorem dX5_difference_42 : decode cX5_difference 42 = .ok (.iaload, 1) := by decide +kernel
theorem dX5_difference_43 : decode cX5_difference 43 = .ok (.invokestatic 88, 3) := by decide +kernel
theorem dX5_difference_46 : decode cX5_difference 46 = .ok (.istore_n 2, 1) := by decide +kernel
theorem dX5_difference_47 : decode cX5_difference 47 = .ok (.iinc 3 1, 3) := by decide +kernel
theorem dX5_difference_50 : decode cX5_difference 50 = .ok (.goto (-42), 3) := by decide +kernel
theorem dX5_difference_53 : decode cX5_difference 53 = .ok (.iconst 0, 1) := by decide +kernel
theorem dX5_difference_54 : decode cX5_difference 54 = .ok (.iload_n 2, 1) := by decide +kernel
theorem dX5_difference_55 : decode cX5_difference 55 = .ok (.iload_n 1, 1) := by decide +kernel
theorem dX5_difference_56 : decode cX5_difference 56 = .ok (.isub, 1) := by decide +kernel
theorem dX5_difference_57 : decode cX5_difference 57 = .ok (.invokestatic 88, 3) := by decide +kernel
theorem dX5_difference_60 : decode cX5_difference 60 = .ok (.ireturn, 1) := by decide +kernel
theorem dX5_handed_0 : decode cX5_handed 0 = .ok (.iconst 0, 1) := by decide +kernel
theorem dX5_handed_1 : decode cX5_handed 1 = .ok (.istore_n 1, 1) := by decide +kernel
theorem dX5_handed_2 : decode cX5_handed 2 = .ok (.iconst 0, 1) := by decide +kernel
theorem dX5_handed_3 : decode cX5_handed 3 = .ok (.istore_n 2, 1) := by decide +kernel
theorem dX5_handed_4 : decode cX5_handed 4 = .ok (.iconst 0, 1) := by decide +kernel
theorem dX5_handed_5 : decode cX5_handed 5 = .ok (.istore_n 3, 1) := by decide +kernel
theorem dX5_handed_6 : decode cX5_handed 6 = .ok (.iload_n 3, 1) := by decide +kernel
theorem dX5_handed_7 : decode cX5_handed 7 = .ok (.aload_n 0, 1) := by decide +kernel
theorem dX5_handed_8 : decode cX5_handed 8 = .ok (.getfield 18, 3) := by decide +kernel
theorem dX5_handed_11 : decode cX5_handed 11 = .ok (.getfield 49, 3) := by decide +kernel
theorem dX5_handed_14 : decode cX5_handed 14 = .ok (.if_icmp .ge 35, 3) := by decide +kernel
theorem dX5_handed_17 : decode cX5_handed 17 = .ok (.iload_n 1, 1) := by decide +kernel
theorem dX5_handed_18 : decode cX5_handed 18 = .ok (.aload_n 0, 1) := by decide +kernel
theorem dX5_handed_19 : decode cX5_handed 19 = .ok (.getfield 22, 3) := by decide +kernel
theorem dX5_handed_22 : decode cX5_handed 22 = .ok (.iload_n 3, 1) := by decide +kernel
theorem dX5_handed_23 : decode cX5_handed 23 = .ok (.iaload, 1) := by decide +kernel
theorem dX5_handed_24 : decode cX5_handed 24 = .ok (.aload_n 0, 1) := by decide +kernel
theorem dX5_handed_25 : decode cX5_handed 25 = .ok (.getfield 18, 3) := by decide +kernel
theorem dX5_handed_28 : decode cX5_handed 28 = .ok (.getfield 56, 3) := by decide +kernel
theorem dX5_handed_31 : decode cX5_handed 31 = .ok (.iload_n 3, 1) := by decide +kernel
theorem dX5_handed_32 : decode cX5_handed 32 = .ok (.iaload, 1) := by decide +kernel
theorem dX5_handed_33 : decode cX5_handed 33 = .ok (.isub, 1) := by decide +kernel
theorem dX5_handed_34 : decode cX5_handed 34 = .ok (.iadd, 1) := by decide +kernel
theorem dX5_handed_35 : decode cX5_handed 35 = .ok (.istore_n 1, 1) := by decide +kernel
theorem dX5_handed_36 : decode cX5_handed 36 = .ok (.iload_n 2, 1) := by decide +kernel
theorem dX5_handed_37 : decode cX5_handed 37 = .ok (.iload_n 1, 1) := by decide +kernel
theorem dX5_handed_38 : decode cX5_handed 38 = .ok (.invokestatic 113, 3) := by decide +kernel
theorem dX5_handed_41 : decode cX5_handed 41 = .ok (.iadd, 1) := by decide +kernel
theorem dX5_handed_42 : decode cX5_handed 42 = .ok (.istore_n 2, 1) := by decide +kernel
theorem dX5_handed_43 : decode cX5_handed 43 = .ok (.iinc 3 1, 3) := by decide +kernel
theorem dX5_handed_46 : decode cX5_handed 46 = .ok (.goto (-40), 3) := by decide +kernel
theorem dX5_handed_49 : decode cX5_handed 49 = .ok (.iload_n 2, 1) := by decide +kernel
theorem dX5_handed_50 : decode cX5_handed 50 = .ok (.ireturn, 1) := by decide +kernel
theorem dX5_moving_0 : decode cX5_moving 0 = .ok (.iconst 0, 1) := by decide +kernel
theorem dX5_moving_1 : decode cX5_moving 1 = .ok (.istore_n 1, 1) := by decide +kernel
theorem dX5_moving_2 : decode cX5_moving 2 = .ok (.iconst 0, 1) := by decide +kernel
theorem dX5_moving_3 : decode cX5_moving 3 = .ok (.istore_n 2, 1) := by decide +kernel
theorem dX5_moving_4 : decode cX5_moving 4 = .ok (.iload_n 2, 1) := by decide +kernel
theorem dX5_moving_5 : decode cX5_moving 5 = .ok (.aload_n 0, 1) := by decide +kernel
theorem dX5_moving_6 : decode cX5_moving 6 = .ok (.getfield 18, 3) := by decide +kernel
theorem dX5_moving_9 : decode cX5_moving 9 = .ok (.getfield 49, 3) := by decide +kernel
theorem dX5_moving_12 : decode cX5_moving 12 = .ok (.if_icmp .ge 32, 3) := by decide +kernel
theorem dX5_moving_15 : decode cX5_moving 15 = .ok (.iload_n 1, 1) := by decide +kernel
theorem dX5_moving_16 : decode cX5_moving 16 = .ok (.iconst 0, 1) := by decide +kernel
theorem dX5_moving_17 : decode cX5_moving 17 = .ok (.aload_n 0, 1) := by decide +kernel
theorem dX5_moving_18 : decode cX5_moving 18 = .ok (.getfield 22, 3) := by decide +kernel
theorem dX5_moving_21 : decode cX5_moving 21 = .ok (.iload_n 2, 1) := by decide +kernel
theorem dX5_moving_22 : decode cX5_moving 22 = .ok (.iaload, 1) := by decide +kernel
theorem dX5_moving_23 : decode cX5_moving 23 = .ok (.aload_n 0, 1) := by decide +kernel
theorem dX5_moving_24 : decode cX5_moving 24 = .ok (.getfield 18, 3) := by decide +kernel
theorem dX5_moving_27 : decode cX5_moving 27 = .ok (.getfield 56, 3) := by decide +kernel
theorem dX5_moving_30 : decode cX5_moving 30 = .ok (.iload_n 2, 1) := by decide +kernel
theorem dX5_moving_31 : decode cX5_moving 31 = .ok (.iaload, 1) := by decide +kernel
theorem dX5_moving_32 : decode cX5_moving 32 = .ok (.isub, 1) := by decide +kernel
theorem dX5_moving_33 : decode cX5_moving 33 = .ok (.invokestatic 88, 3) := by decide +kernel
theorem dX5_moving_36 : decode cX5_moving 36 = .ok (.iadd, 1) := by decide +kernel
theorem dX5_moving_37 : decode cX5_moving 37 = .ok (.istore_n 1, 1) := by decide +kernel
theorem dX5_moving_38 : decode cX5_moving 38 = .ok (.iinc 2 1, 3) := by decide +kernel
theorem dX5_moving_41 : decode cX5_moving 41 = .ok (.goto (-37), 3) := by decide +kernel
theorem dX5_moving_44 : decode cX5_moving 44 = .ok (.iload_n 1, 1) := by decide +kernel
theorem dX5_moving_45 : decode cX5_moving 45 = .ok (.ireturn, 1) := by decide +kernel
set_option maxRecDepth 20000 in
theorem ggX6_init_X3_init : GoodIn wsX6_init wsX3_init := goodIn_r _ [4, 5, 6, 7, 8, 9, 10, 11, 12, 13, 14, 15, 16] (by decide +kernel) (by decide +kernel)
set_option maxRecDepth 20000 in
theorem gX6_init_X3_init : GoodIn wsX6_init (wsX3_init) := ggX6_init_X3_init
theorem dX6_init_0 : decode cX6_init 0 = .ok (.aload_n 0, 1) := by decide +kernel
theorem dX6_init_1 : decode cX6_init 1 = .ok (.iload_n 1, 1) := by decide +kernel
theorem dX6_init_2 : decode cX6_init 2 = .ok (.invokespecial 1, 3) := by decide +kernel
theorem dX6_init_5 : decode cX6_init 5 = .ok (.return_, 1) := by decide +kernel
theorem dX6_kind_0 : decode cX6_kind 0 = .ok (.iconst 2, 1) := by decide +kernel
theorem dX6_kind_1 : decode cX6_kind 1 = .ok (.ireturn, 1) := by decide +kernel
set_option maxRecDepth 20000 in
theorem ggX6_shownOf_X3_shownOf : GoodIn wsX6_shownOf wsX3_shownOf := goodIn_r _ [6] (by decide +kernel) (by decide +kernel)
set_option maxRecDepth 20000 in
theorem gX6_shownOf_X3_shownOf_s7 : GoodIn wsX6_shownOf (va_wsSU RX6 7 yX3_shownOf wsX3_shownOf) := goodIn_app (goodIn_of _ (by decide +kernel)) ggX6_shownOf_X3_shownOf
theorem dX6_shownOf_0 : decode cX6_shownOf 0 = .ok (.aload_n 0, 1) := by decide +kernel
theorem dX6_shownOf_1 : decode cX6_shownOf 1 = .ok (.iload_n 1, 1) := by decide +kernel
theorem dX6_shownOf_2 : decode cX6_shownOf 2 = .ok (.invokespecial 7, 3) := by decide +kernel
theorem dX6_shownOf_5 : decode cX6_shownOf 5 = .ok (.bipush 9, 2) := by decide +kernel
theorem dX6_shownOf_7 : decode cX6_shownOf 7 = .ok (.imul, 1) := by decide +kernel
theorem dX6_shownOf_8 : decode cX6_shownOf 8 = .ok (.bipush 10, 2) := by decide +kernel
theorem dX6_shownOf_10 : decode cX6_shownOf 10 = .ok (.idiv, 1) := by decide +kernel
theorem dX6_shownOf_11 : decode cX6_shownOf 11 = .ok (.ireturn, 1) := by decide +kernel
set_option maxRecDepth 20000 in
theorem ggX6_weekly_X3_weekly : GoodIn wsX6_weekly wsX3_weekly := goodIn_r _ [6] (by decide +kernel) (by decide +kernel)
set_option maxRecDepth 20000 in
theorem gX6_weekly_X3_weekly_s11 : GoodIn wsX6_weekly (va_wsSU RX6 11 yX3_weekly wsX3_weekly) := goodIn_app (goodIn_of _ (by decide +kernel)) ggX6_weekly_X3_weekly
theorem dX6_weekly_0 : decode cX6_weekly 0 = .ok (.aload_n 0, 1) := by decide +kernel
theorem dX6_weekly_1 : decode cX6_weekly 1 = .ok (.invokespecial 11, 3) := by decide +kernel
theorem dX6_weekly_4 : decode cX6_weekly 4 = .ok (.iconst 1, 1) := by decide +kernel
theorem dX6_weekly_5 : decode cX6_weekly 5 = .ok (.isub, 1) := by decide +kernel
theorem dX6_weekly_6 : decode cX6_weekly 6 = .ok (.ireturn, 1) := by decide +kernel
set_option maxRecDepth 20000 in
theorem ggX6_price_X3_price : GoodIn wsX6_price wsX3_price := goodIn_r _ [6] (by decide +kernel) (by decide +kernel)
set_option maxRecDepth 20000 in
theorem gX6_price_X3_price_s15 : GoodIn wsX6_price (va_wsSU RX6 15 yX3_price wsX3_price) := goodIn_app (goodIn_of _ (by decide +kernel)) ggX6_price_X3_price
theorem dX6_price_0 : decode cX6_price 0 = .ok (.aload_n 0, 1) := by decide +kernel
theorem dX6_price_1 : decode cX6_price 1 = .ok (.invokespecial 15, 3) := by decide +kernel
theorem dX6_price_4 : decode cX6_price 4 = .ok (.iconst 2, 1) := by decide +kernel
theorem dX6_price_5 : decode cX6_price 5 = .ok (.isub, 1) := by decide +kernel
theorem dX6_price_6 : decode cX6_price 6 = .ok (.ireturn, 1) := by decide +kernel
theorem dX7_init_0 : decode cX7_init 0 = .ok (.aload_n 0, 1) := by decide +kernel
theorem dX7_init_1 : decode cX7_init 1 = .ok (.invokespecial 3, 3) := by decide +kernel
theorem dX7_init_4 : decode cX7_init 4 = .ok (.aload_n 0, 1) := by decide +kernel
theorem dX7_init_5 : decode cX7_init 5 = .ok (.bipush 9, 2) := by decide +kernel
theorem dX7_init_7 : decode cX7_init 7 = .ok (.anewarray 9, 3) := by decide +kernel
theorem dX7_init_10 : decode cX7_init 10 = .ok (.putfield 11, 3) := by decide +kernel
theorem dX7_init_13 : decode cX7_init 13 = .ok (.aload_n 0, 1) := by decide +kernel
theorem dX7_init_14 : decode cX7_init 14 = .ok (.bipush 9, 2) := by decide +kernel
theorem dX7_init_16 : decode cX7_init 16 = .ok (.newarray .int, 2) := by decide +kernel
theorem dX7_init_18 : decode cX7_init 18 = .ok (.putfield 17, 3) := by decide +kernel
theorem dX7_init_21 : decode cX7_init 21 = .ok (.return_, 1) := by decide +kernel
theorem dX7_become_0 : decode cX7_become 0 = .ok (.iconst 0, 1) := by decide +kernel
theorem dX7_become_1 : decode cX7_become 1 = .ok (.istore_n 2, 1) := by decide +kernel
theorem dX7_become_2 : decode cX7_become 2 = .ok (.iload_n 2, 1) := by decide +kernel
theorem dX7_become_3 : decode cX7_become 3 = .ok (.aload_n 0, 1) := by decide +kernel
theorem dX7_become_4 : decode cX7_become 4 = .ok (.getfield 11, 3) := by decide +kernel
theorem dX7_become_7 : decode cX7_become 7 = .ok (.arraylength, 1) := by decide +kernel
theorem dX7_become_8 : decode cX7_become 8 = .ok (.if_icmp .ge 33, 3) := by decide +kernel
theorem dX7_become_11 : decode cX7_become 11 = .ok (.aload_n 0, 1) := by decide +kernel
theorem dX7_become_12 : decode cX7_become 12 = .ok (.getfield 11, 3) := by decide +kernel
theorem dX7_become_15 : decode cX7_become 15 = .ok (.iload_n 2, 1) := by decide +kernel
theorem dX7_become_16 : decode cX7_become 16 = .ok (.aload_n 1, 1) := by decide +kernel
theorem dX7_become_17 : decode cX7_become 17 = .ok (.getfield 11, 3) := by decide +kernel
theorem dX7_become_20 : decode cX7_become 20 = .ok (.iload_n 2, 1) := by decide +kernel
theorem dX7_become_21 : decode cX7_become 21 = .ok (.aaload, 1) := by decide +kernel
theorem dX7_become_22 : decode cX7_become 22 = .ok (.aastore, 1) := by decide +kernel
theorem dX7_become_23 : decode cX7_become 23 = .ok (.aload_n 0, 1) := by decide +kernel
theorem dX7_become_24 : decode cX7_become 24 = .ok (.getfield 17, 3) := by decide +kernel
theorem dX7_become_27 : decode cX7_become 27 = .ok (.iload_n 2, 1) := by decide +kernel
theorem dX7_become_28 : decode cX7_become 28 = .ok (.aload_n 1, 1) := by decide +kernel
theorem dX7_become_29 : decode cX7_become 29 = .ok (.getfield 17, 3) := by decide +kernel
theorem dX7_become_32 : decode cX7_become 32 = .ok (.iload_n 2, 1) := by decide +kernel
theorem dX7_become_33 : decode cX7_become 33 = .ok (.iaload, 1) := by decide +kernel
theorem dX7_become_34 : decode cX7_become 34 = .ok (.iastore, 1) := by decide +kernel
theorem dX7_become_35 : decode cX7_become 35 = .ok (.iinc 2 1, 3) := by decide +kernel
theorem dX7_become_38 : decode cX7_become 38 = .ok (.goto (-36), 3) := by decide +kernel
theorem dX7_become_41 : decode cX7_become 41 = .ok (.aload_n 0, 1) := by decide +kernel
theorem dX7_become_42 : decode cX7_become 42 = .ok (.aload_n 1, 1) := by decide +kernel
theorem dX7_become_43 : decode cX7_become 43 = .ok (.getfield 21, 3) := by decide +kernel
theorem dX7_become_46 : decode cX7_become 46 = .ok (.putfield 21, 3) := by decide +kernel
theorem dX7_become_49 : decode cX7_become 49 = .ok (.aload_n 0, 1) := by decide +kernel
theorem dX7_become_50 : decode cX7_become 50 = .ok (.aload_n 1, 1) := by decide +kernel
theorem dX7_become_51 : decode cX7_become 51 = .ok (.getfield 25, 3) := by decide +kernel
theorem dX7_become_54 : decode cX7_become 54 = .ok (.putfield 25, 3) := by decide +kernel
theorem dX7_become_57 : decode cX7_become 57 = .ok (.return_, 1) := by decide +kernel
theorem dX7_has_0 : decode cX7_has 0 = .ok (.iload_n 1, 1) := by decide +kernel
theorem dX7_has_1 : decode cX7_has 1 = .ok (.ifCond .lt 15, 3) := by decide +kernel
theorem dX7_has_4 : decode cX7_has 4 = .ok (.iload_n 1, 1) := by decide +kernel
theorem dX7_has_5 : decode cX7_has 5 = .ok (.aload_n 0, 1) := by decide +kernel
theorem dX7_has_6 : decode cX7_has 6 = .ok (.getfield 21, 3) := by decide +kernel
theorem dX7_has_9 : decode cX7_has 9 = .ok (.if_icmp .ge 7, 3) := by decide +kernel
theorem dX7_has_12 : decode cX7_has 12 = .ok (.iconst 1, 1) := by decide +kernel
theorem dX7_has_13 : decode cX7_has 13 = .ok (.goto 4, 3) := by decide +kernel
theorem dX7_has_16 : decode cX7_has 16 = .ok (.iconst 0, 1) := by decide +kernel
theorem dX7_has_17 : decode cX7_has 17 = .ok (.ireturn, 1) := by decide +kernel
set_option maxRecDepth 20000 in
theorem ggX7_hasTwo_X7_has : GoodIn wsX7_hasTwo wsX7_has := goodIn_r _ [5, 6, 7, 8, 9, 10] (by decide +kernel) (by decide +kernel)
set_option maxRecDepth 20000 in
theorem gX7_hasTwo_X7_has : GoodIn wsX7_hasTwo (wsV RX7 28 RX7 yX7_has wsX7_has) := goodIn_app (goodIn_of _ (by decide +kernel)) ggX7_hasTwo_X7_has
theorem dX7_hasTwo_0 : decode cX7_hasTwo 0 = .ok (.aload_n 0, 1) := by decide +kernel
theorem dX7_hasTwo_1 : decode cX7_hasTwo 1 = .ok (.iload_n 1, 1) := by decide +kernel
theorem dX7_hasTwo_2 : decode cX7_hasTwo 2 = .ok (.invokevirtual 28, 3) := by decide +kernel
theorem dX7_hasTwo_5 : decode cX7_hasTwo 5 = .ok (.ifCond .eq 20, 3) := by decide +kernel
theorem dX7_hasTwo_8 : decode cX7_hasTwo 8 = .ok (.aload_n 0, 1) := by decide +kernel
theorem dX7_hasTwo_9 : decode cX7_hasTwo 9 = .ok (.iload_n 2, 1) := by decide +kernel
theorem dX7_hasTwo_10 : decode cX7_hasTwo 10 = .ok (.invokevirtual 28, 3) := by decide +kernel
theorem dX7_hasTwo_13 : decode cX7_hasTwo 13 = .ok (.ifCond .eq 12, 3) := by decide +kernel
theorem dX7_hasTwo_16 : decode cX7_hasTwo 16 = .ok (.iload_n 1, 1) := by decide +kernel
theorem dX7_hasTwo_17 : decode cX7_hasTwo 17 = .ok (.iload_n 2, 1) := by decide +kernel
theorem dX7_hasTwo_18 : decode cX7_hasTwo 18 = .ok (.if_icmp .eq 7, 3) := by decide +kernel
theorem dX7_hasTwo_21 : decode cX7_hasTwo 21 = .ok (.iconst 1, 1) := by decide +kernel
theorem dX7_hasTwo_22 : decode cX7_hasTwo 22 = .ok (.goto 4, 3) := by decide +kernel
theorem dX7_hasTwo_25 : decode cX7_hasTwo 25 = .ok (.iconst 0, 1) := by decide +kernel
theorem dX7_hasTwo_26 : decode cX7_hasTwo 26 = .ok (.ireturn, 1) := by decide +kernel
theorem dX7_isClosed_0 : decode cX7_isClosed 0 = .ok (.aload_n 0, 1) := by decide +kernel
theorem dX7_isClosed_1 : decode cX7_isClosed 1 = .ok (.getfield 25, 3) := by decide +kernel
theorem dX7_isClosed_4 : decode cX7_isClosed 4 = .ok (.iconst 1, 1) := by decide +kernel
theorem dX7_isClosed_5 : decode cX7_isClosed 5 = .ok (.if_icmp .ne 15, 3) := by decide +kernel
theorem dX7_isClosed_8 : decode cX7_isClosed 8 = .ok (.aload_n 0, 1) := by decide +kernel
theorem dX7_isClosed_9 : decode cX7_isClosed 9 = .ok (.getfield 21, 3) := by decide +kernel
theorem dX7_isClosed_12 : decode cX7_isClosed 12 = .ok (.iconst 3, 1) := by decide +kernel
theorem dX7_isClosed_13 : decode cX7_isClosed 13 = .ok (.if_icmp .lt 7, 3) := by decide +kernel
theorem dX7_isClosed_16 : decode cX7_isClosed 16 = .ok (.iconst 1, 1) := by decide +kernel
theorem dX7_isClosed_17 : decode cX7_isClosed 17 = .ok (.goto 4, 3) := by decide +kernel
theorem dX7_isClosed_20 : decode cX7_isClosed 20 = .ok (.iconst 0, 1) := by decide +kernel
theorem dX7_isClosed_21 : decode cX7_isClosed 21 = .ok (.ireturn, 1) := by decide +kernel
set_option maxRecDepth 20000 in
theorem ggX7_ahead_X7_isClosed : GoodIn wsX7_ahead wsX7_isClosed := goodIn_r _ [6, 7, 1, 8, 9, 10, 11] (by decide +kernel) (by decide +kernel)
set_option maxRecDepth 20000 in
theorem gX7_ahead_X7_isClosed : GoodIn wsX7_ahead (wsV RX7 32 RX7 yX7_isClosed wsX7_isClosed) := goodIn_app (goodIn_of _ (by decide +kernel)) ggX7_ahead_X7_isClosed
theorem dX7_ahead_0 : decode cX7_ahead 0 = .ok (.iload_n 1, 1) := by decide +kernel
theorem dX7_ahead_1 : decode cX7_ahead 1 = .ok (.ifCond .le 7, 3) := by decide +kernel
theorem dX7_ahead_4 : decode cX7_ahead 4 = .ok (.iload_n 1, 1) := by decide +kernel
theorem dX7_ahead_5 : decode cX7_ahead 5 = .ok (.iconst 1, 1) := by decide +kernel
theorem dX7_ahead_6 : decode cX7_ahead 6 = .ok (.isub, 1) := by decide +kernel
theorem dX7_ahead_7 : decode cX7_ahead 7 = .ok (.ireturn, 1) := by decide +kernel
theorem dX7_ahead_8 : decode cX7_ahead 8 = .ok (.aload_n 0, 1) := by decide +kernel
theorem dX7_ahead_9 : decode cX7_ahead 9 = .ok (.invokevirtual 32, 3) := by decide +kernel
theorem dX7_ahead_12 : decode cX7_ahead 12 = .ok (.ifCond .eq 12, 3) := by decide +kernel
theorem dX7_ahead_15 : decode cX7_ahead 15 = .ok (.aload_n 0, 1) := by decide +kernel
theorem dX7_ahead_16 : decode cX7_ahead 16 = .ok (.getfield 21, 3) := by decide +kernel
theorem dX7_ahead_19 : decode cX7_ahead 19 = .ok (.iconst 1, 1) := by decide +kernel
theorem dX7_ahead_20 : decode cX7_ahead 20 = .ok (.isub, 1) := by decide +kernel
theorem dX7_ahead_21 : decode cX7_ahead 21 = .ok (.goto 4, 3) := by decide +kernel
theorem dX7_ahead_24 : decode cX7_ahead 24 = .ok (.iconst (-1), 1) := by decide +kernel
theorem dX7_ahead_25 : decode cX7_ahead 25 = .ok (.ireturn, 1) := by decide +kernel
set_option maxRecDepth 20000 in
theorem ggX7_behind_X7_isClosed : GoodIn wsX7_behind wsX7_isClosed := goodIn_r _ [6, 7, 1, 8, 9, 10, 11] (by decide +kernel) (by decide +kernel)
set_option maxRecDepth 20000 in
theorem gX7_behind_X7_isClosed : GoodIn wsX7_behind (wsV RX7 32 RX7 yX7_isClosed wsX7_isClosed) := goodIn_app (goodIn_of _ (by decide +kernel)) ggX7_behind_X7_isClosed
theorem dX7_behind_0 : decode cX7_behind 0 = .ok (.iload_n 1, 1) := by decide +kernel
theorem dX7_behind_1 : decode cX7_behind 1 = .ok (.aload_n 0, 1) := by decide +kernel
theorem dX7_behind_2 : decode cX7_behind 2 = .ok (.getfield 21, 3) := by decide +kernel
theorem dX7_behind_5 : decode cX7_behind 5 = .ok (.iconst 1, 1) := by decide +kernel
theorem dX7_behind_6 : decode cX7_behind 6 = .ok (.isub, 1) := by decide +kernel
theorem dX7_behind_7 : decode cX7_behind 7 = .ok (.if_icmp .ge 7, 3) := by decide +kernel
theorem dX7_behind_10 : decode cX7_behind 10 = .ok (.iload_n 1, 1) := by decide +kernel
theorem dX7_behind_11 : decode cX7_behind 11 = .ok (.iconst 1, 1) := by decide +kernel
theorem dX7_behind_12 : decode cX7_behind 12 = .ok (.iadd, 1) := by decide +kernel
theorem dX7_behind_13 : decode cX7_behind 13 = .ok (.ireturn, 1) := by decide +kernel
theorem dX7_behind_14 : decode cX7_behind 14 = .ok (.aload_n 0, 1) := by decide +kernel
theorem dX7_behind_15 : decode cX7_behind 15 = .ok (.invokevirtual 32, 3) := by decide +kernel
theorem dX7_behind_18 : decode cX7_behind 18 = .ok (.ifCond .eq 7, 3) := by decide +kernel
theorem dX7_behind_21 : decode cX7_behind 21 = .ok (.iconst 0, 1) := by decide +kernel
theorem dX7_behind_22 : decode cX7_behind 22 = .ok (.goto 4, 3) := by decide +kernel
theorem dX7_behind_25 : decode cX7_behind 25 = .ok (.iconst (-1), 1) := by decide +kernel
theorem dX7_behind_26 : decode cX7_behind 26 = .ok (.ireturn, 1) := by decide +kernel
set_option maxRecDepth 20000 in
theorem ggX7_limitBy_X3_isLookedAt : GoodIn wsX7_limitBy wsX3_isLookedAt := goodIn_r _ [9] (by decide +kernel) (by decide +kernel)
set_option maxRecDepth 20000 in
theorem gX7_limitBy_X3_isLookedAt_u36X0 : GoodIn wsX7_limitBy (va_wsU RX7 36 RX0 "TwiceAsRich$House" ⟨"TwiceAsRich$House", "isLookedAt", "()Z"⟩ yX3_isLookedAt wsX3_isLookedAt) := goodIn_app (goodIn_of _ (by decide +kernel)) ggX7_limitBy_X3_isLookedAt
set_option maxRecDepth 20000 in
theorem ggX7_limitBy_X1_isLookedAt : GoodIn wsX7_limitBy wsX1_isLookedAt := goodIn_r _ [14] (by decide +kernel) (by decide +kernel)
set_option maxRecDepth 20000 in
theorem gX7_limitBy_X1_isLookedAt_u36X1 : GoodIn wsX7_limitBy (va_wsO RX7 36 RX1 "TwiceAsRich$House" ⟨"TwiceAsRich$House", "isLookedAt", "()Z"⟩ yX1_isLookedAt wsX1_isLookedAt) := goodIn_app (goodIn_of _ (by decide +kernel)) ggX7_limitBy_X1_isLookedAt
set_option maxRecDepth 20000 in
theorem gX7_limitBy_X3_isLookedAt_u36X2 : GoodIn wsX7_limitBy (va_wsU RX7 36 RX2 "TwiceAsRich$House" ⟨"TwiceAsRich$House", "isLookedAt", "()Z"⟩ yX3_isLookedAt wsX3_isLookedAt) := goodIn_app (goodIn_of _ (by decide +kernel)) ggX7_limitBy_X3_isLookedAt
set_option maxRecDepth 20000 in
theorem gX7_limitBy_X3_isLookedAt : GoodIn wsX7_limitBy (wsV RX7 36 RX3 yX3_isLookedAt wsX3_isLookedAt) := goodIn_app (goodIn_of _ (by decide +kernel)) ggX7_limitBy_X3_isLookedAt
set_option maxRecDepth 20000 in
theorem gX7_limitBy_X3_isLookedAt_u36X4 : GoodIn wsX7_limitBy (va_wsU RX7 36 RX4 "TwiceAsRich$House" ⟨"TwiceAsRich$House", "isLookedAt", "()Z"⟩ yX3_isLookedAt wsX3_isLookedAt) := goodIn_app (goodIn_of _ (by decide +kernel)) ggX7_limitBy_X3_isLookedAt
set_option maxRecDepth 20000 in
theorem gX7_limitBy_X3_isLookedAt_u36X6 : GoodIn wsX7_limitBy (va_wsU RX7 36 RX6 "TwiceAsRich$House" ⟨"TwiceAsRich$House", "isLookedAt", "()Z"⟩ yX3_isLookedAt wsX3_isLookedAt) := goodIn_app (goodIn_of _ (by decide +kernel)) ggX7_limitBy_X3_isLookedAt
set_option maxRecDepth 20000 in
theorem gX7_limitBy_X3_isLookedAt_u36X9 : GoodIn wsX7_limitBy (va_wsU RX7 36 RX9 "TwiceAsRich$House" ⟨"TwiceAsRich$House", "isLookedAt", "()Z"⟩ yX3_isLookedAt wsX3_isLookedAt) := goodIn_app (goodIn_of _ (by decide +kernel)) ggX7_limitBy_X3_isLookedAt
set_option maxRecDepth 20000 in
theorem ggX7_limitBy_X10_isLookedAt : GoodIn wsX7_limitBy wsX10_isLookedAt := goodIn_r _ [24] (by decide +kernel) (by decide +kernel)
set_option maxRecDepth 20000 in
theorem gX7_limitBy_X10_isLookedAt_u36X10 : GoodIn wsX7_limitBy (va_wsO RX7 36 RX10 "TwiceAsRich$House" ⟨"TwiceAsRich$House", "isLookedAt", "()Z"⟩ yX10_isLookedAt wsX10_isLookedAt) := goodIn_app (goodIn_of _ (by decide +kernel)) ggX7_limitBy_X10_isLookedAt
set_option maxRecDepth 20000 in
theorem ggX7_limitBy_X0_shownOf : GoodIn wsX7_limitBy wsX0_shownOf := goodIn_r _ [31, 32, 33, 34, 35, 36, 37, 38, 39, 40, 26, 41, 42, 8, 43, 96, 97, 98, 99, 100, 101, 102, 103] (by decide +kernel) (by decide +kernel)
set_option maxRecDepth 20000 in
theorem gX7_limitBy_X0_shownOf_u40X0 : GoodIn wsX7_limitBy (va_wsO RX7 40 RX0 "TwiceAsRich$House" ⟨"TwiceAsRich$House", "shownOf", "(I)I"⟩ yX0_shownOf wsX0_shownOf) := goodIn_app (goodIn_of _ (by decide +kernel)) ggX7_limitBy_X0_shownOf
set_option maxRecDepth 20000 in
theorem ggX7_limitBy_X3_shownOf : GoodIn wsX7_limitBy wsX3_shownOf := goodIn_r _ [43] (by decide +kernel) (by decide +kernel)
set_option maxRecDepth 20000 in
theorem gX7_limitBy_X3_shownOf_u40X1 : GoodIn wsX7_limitBy (va_wsU RX7 40 RX1 "TwiceAsRich$House" ⟨"TwiceAsRich$House", "shownOf", "(I)I"⟩ yX3_shownOf wsX3_shownOf) := goodIn_app (goodIn_of _ (by decide +kernel)) ggX7_limitBy_X3_shownOf
set_option maxRecDepth 20000 in
theorem gX7_limitBy_X3_shownOf_u40X2 : GoodIn wsX7_limitBy (va_wsU RX7 40 RX2 "TwiceAsRich$House" ⟨"TwiceAsRich$House", "shownOf", "(I)I"⟩ yX3_shownOf wsX3_shownOf) := goodIn_app (goodIn_of _ (by decide +kernel)) ggX7_limitBy_X3_shownOf
set_option maxRecDepth 20000 in
theorem gX7_limitBy_X3_shownOf : GoodIn wsX7_limitBy (wsV RX7 40 RX3 yX3_shownOf wsX3_shownOf) := goodIn_app (goodIn_of _ (by decide +kernel)) ggX7_limitBy_X3_shownOf
set_option maxRecDepth 20000 in
theorem ggX7_limitBy_X4_shownOf : GoodIn wsX7_limitBy wsX4_shownOf := goodIn_r _ [51] (by decide +kernel) (by decide +kernel)
set_option maxRecDepth 20000 in
theorem gX7_limitBy_X4_shownOf_u40X4 : GoodIn wsX7_limitBy (va_wsO RX7 40 RX4 "TwiceAsRich$House" ⟨"TwiceAsRich$House", "shownOf", "(I)I"⟩ yX4_shownOf wsX4_shownOf) := goodIn_app (goodIn_of _ (by decide +kernel)) ggX7_limitBy_X4_shownOf
set_option maxRecDepth 20000 in
theorem ggX7_limitBy_X6_shownOf : GoodIn wsX7_limitBy wsX6_shownOf := goodIn_r _ [39, 40, 26, 41, 42, 8, 43] (by decide +kernel) (by decide +kernel)
set_option maxRecDepth 20000 in
theorem gX7_limitBy_X6_shownOf_u40X6 : GoodIn wsX7_limitBy (va_wsO RX7 40 RX6 "TwiceAsRich$House" ⟨"TwiceAsRich$House", "shownOf", "(I)I"⟩ yX6_shownOf wsX6_shownOf) := goodIn_app (goodIn_of _ (by decide +kernel)) ggX7_limitBy_X6_shownOf
set_option maxRecDepth 20000 in
theorem gX7_limitBy_X3_shownOf_u40X9 : GoodIn wsX7_limitBy (va_wsU RX7 40 RX9 "TwiceAsRich$House" ⟨"TwiceAsRich$House", "shownOf", "(I)I"⟩ yX3_shownOf wsX3_shownOf) := goodIn_app (goodIn_of _ (by decide +kernel)) ggX7_limitBy_X3_shownOf
set_option maxRecDepth 20000 in
theorem gX7_limitBy_X3_shownOf_u40X10 : GoodIn wsX7_limitBy (va_wsU RX7 40 RX10 "TwiceAsRich$House" ⟨"TwiceAsRich$House", "shownOf", "(I)I"⟩ yX3_shownOf wsX3_shownOf) := goodIn_app (goodIn_of _ (by decide +kernel)) ggX7_limitBy_X3_shownOf
set_option maxRecDepth 20000 in
theorem ggX7_limitBy_X3_allowedBy : GoodIn wsX7_limitBy wsX3_allowedBy := goodIn_r _ [59] (by decide +kernel) (by decide +kernel)
set_option maxRecDepth 20000 in
theorem gX7_limitBy_X3_allowedBy_u44X0 : GoodIn wsX7_limitBy (va_wsU RX7 44 RX0 "TwiceAsRich$House" ⟨"TwiceAsRich$House", "allowedBy", "(I)I"⟩ yX3_allowedBy wsX3_allowedBy) := goodIn_app (goodIn_of _ (by decide +kernel)) ggX7_limitBy_X3_allowedBy
set_option maxRecDepth 20000 in
theorem ggX7_limitBy_X10_allowedBy : GoodIn wsX7_limitBy wsX10_allowedBy := goodIn_r _ [63] (by decide +kernel) (by decide +kernel)
set_option maxRecDepth 20000 in
theorem gX7_limitBy_X10_allowedBy_u44X1 : GoodIn wsX7_limitBy (va_wsO RX7 44 RX1 "TwiceAsRich$House" ⟨"TwiceAsRich$House", "allowedBy", "(I)I"⟩ yX10_allowedBy wsX10_allowedBy) := goodIn_app (goodIn_of _ (by decide +kernel)) ggX7_limitBy_X10_allowedBy
set_option maxRecDepth 20000 in
theorem ggX7_limitBy_X2_allowedBy : GoodIn wsX7_limitBy wsX2_allowedBy := goodIn_r _ [67, 68, 69, 70, 56, 71, 58, 8, 59, 96, 97, 98, 99, 100, 101, 102, 103] (by decide +kernel) (by decide +kernel)
set_option maxRecDepth 20000 in
theorem gX7_limitBy_X2_allowedBy_u44X2 : GoodIn wsX7_limitBy (va_wsO RX7 44 RX2 "TwiceAsRich$House" ⟨"TwiceAsRich$House", "allowedBy", "(I)I"⟩ yX2_allowedBy wsX2_allowedBy) := goodIn_app (goodIn_of _ (by decide +kernel)) ggX7_limitBy_X2_allowedBy
set_option maxRecDepth 20000 in
theorem gX7_limitBy_X3_allowedBy : GoodIn wsX7_limitBy (wsV RX7 44 RX3 yX3_allowedBy wsX3_allowedBy) := goodIn_app (goodIn_of _ (by decide +kernel)) ggX7_limitBy_X3_allowedBy
set_option maxRecDepth 20000 in
theorem ggX7_limitBy_X4_allowedBy : GoodIn wsX7_limitBy wsX4_allowedBy := goodIn_r _ [76, 77, 78, 79, 80, 81, 82, 83, 65, 66, 67, 68, 69, 70, 56, 71, 58, 8, 59, 96, 97, 98, 99, 100, 101, 102, 103] (by decide +kernel) (by decide +kernel)
set_option maxRecDepth 20000 in
theorem gX7_limitBy_X4_allowedBy_u44X4 : GoodIn wsX7_limitBy (va_wsO RX7 44 RX4 "TwiceAsRich$House" ⟨"TwiceAsRich$House", "allowedBy", "(I)I"⟩ yX4_allowedBy wsX4_allowedBy) := goodIn_app (goodIn_of _ (by decide +kernel)) ggX7_limitBy_X4_allowedBy
set_option maxRecDepth 20000 in
theorem gX7_limitBy_X3_allowedBy_u44X6 : GoodIn wsX7_limitBy (va_wsU RX7 44 RX6 "TwiceAsRich$House" ⟨"TwiceAsRich$House", "allowedBy", "(I)I"⟩ yX3_allowedBy wsX3_allowedBy) := goodIn_app (goodIn_of _ (by decide +kernel)) ggX7_limitBy_X3_allowedBy
set_option maxRecDepth 20000 in
theorem ggX7_limitBy_X9_allowedBy : GoodIn wsX7_limitBy wsX9_allowedBy := goodIn_r _ [88, 89, 82, 90, 65, 66, 67, 68, 69, 70, 56, 71, 58, 8, 59, 96, 97, 98, 99, 100, 101, 102, 103] (by decide +kernel) (by decide +kernel)
set_option maxRecDepth 20000 in
theorem gX7_limitBy_X9_allowedBy_u44X9 : GoodIn wsX7_limitBy (va_wsO RX7 44 RX9 "TwiceAsRich$House" ⟨"TwiceAsRich$House", "allowedBy", "(I)I"⟩ yX9_allowedBy wsX9_allowedBy) := goodIn_app (goodIn_of _ (by decide +kernel)) ggX7_limitBy_X9_allowedBy
set_option maxRecDepth 20000 in
theorem gX7_limitBy_X10_allowedBy_u44X10 : GoodIn wsX7_limitBy (va_wsO RX7 44 RX10 "TwiceAsRich$House" ⟨"TwiceAsRich$House", "allowedBy", "(I)I"⟩ yX10_allowedBy wsX10_allowedBy) := goodIn_app (goodIn_of _ (by decide +kernel)) ggX7_limitBy_X10_allowedBy
theorem dX7_limitBy_0 : decode cX7_limitBy 0 = .ok (.iload_n 2, 1) := by decide +kernel
theorem dX7_limitBy_1 : decode cX7_limitBy 1 = .ok (.iconst (-1), 1) := by decide +kernel
theorem dX7_limitBy_2 : decode cX7_limitBy 2 = .ok (.if_icmp .eq 15, 3) := by decide +kernel
theorem dX7_limitBy_5 : decode cX7_limitBy 5 = .ok (.aload_n 0, 1) := by decide +kernel
theorem dX7_limitBy_6 : decode cX7_limitBy 6 = .ok (.getfield 11, 3) := by decide +kernel
theorem dX7_limitBy_9 : decode cX7_limitBy 9 = .ok (.iload_n 2, 1) := by decide +kernel
theorem dX7_limitBy_10 : decode cX7_limitBy 10 = .ok (.aaload, 1) := by decide +kernel
theorem dX7_limitBy_11 : decode cX7_limitBy 11 = .ok (.invokevirtual 36, 3) := by decide +kernel
theorem dX7_limitBy_14 : decode cX7_limitBy 14 = .ok (.ifCond .ne 6, 3) := by decide +kernel
theorem dX7_limitBy_17 : decode cX7_limitBy 17 = .ok (.ldc 39, 2) := by decide +kernel
theorem dX7_limitBy_19 : decode cX7_limitBy 19 = .ok (.ireturn, 1) := by decide +kernel
theorem dX7_limitBy_20 : decode cX7_limitBy 20 = .ok (.aload_n 0, 1) := by decide +kernel
theorem dX7_limitBy_21 : decode cX7_limitBy 21 = .ok (.getfield 11, 3) := by decide +kernel
theorem dX7_limitBy_24 : decode cX7_limitBy 24 = .ok (.iload_n 1, 1) := by decide +kernel
theorem dX7_limitBy_25 : decode cX7_limitBy 25 = .ok (.aaload, 1) := by decide +kernel
theorem dX7_limitBy_26 : decode cX7_limitBy 26 = .ok (.aload_n 0, 1) := by decide +kernel
theorem dX7_limitBy_27 : decode cX7_limitBy 27 = .ok (.getfield 11, 3) := by decide +kernel
theorem dX7_limitBy_30 : decode cX7_limitBy 30 = .ok (.iload_n 2, 1) := by decide +kernel
theorem dX7_limitBy_31 : decode cX7_limitBy 31 = .ok (.aaload, 1) := by decide +kernel
theorem dX7_limitBy_32 : decode cX7_limitBy 32 = .ok (.aload_n 0, 1) := by decide +kernel
theorem dX7_limitBy_33 : decode cX7_limitBy 33 = .ok (.getfield 17, 3) := by decide +kernel
theorem dX7_limitBy_36 : decode cX7_limitBy 36 = .ok (.iload_n 2, 1) := by decide +kernel
theorem dX7_limitBy_37 : decode cX7_limitBy 37 = .ok (.iaload, 1) := by decide +kernel
theorem dX7_limitBy_38 : decode cX7_limitBy 38 = .ok (.invokevirtual 40, 3) := by decide +kernel
theorem dX7_limitBy_41 : decode cX7_limitBy 41 = .ok (.invokevirtual 44, 3) := by decide +kernel
theorem dX7_limitBy_44 : decode cX7_limitBy 44 = .ok (.ireturn, 1) := by decide +kernel
set_option maxRecDepth 20000 in
theorem ggX7_mostOf_X7_ahead : GoodIn wsX7_mostOf wsX7_ahead := goodIn_r _ [9, 10, 11, 12, 13, 8, 14, 15, 114, 115, 116, 117] (by decide +kernel) (by decide +kernel)
set_option maxRecDepth 20000 in
theorem gX7_mostOf_X7_ahead : GoodIn wsX7_mostOf (wsV RX7 47 RX7 yX7_ahead wsX7_ahead) := goodIn_app (goodIn_of _ (by decide +kernel)) ggX7_mostOf_X7_ahead
set_option maxRecDepth 20000 in
theorem ggX7_mostOf_X7_limitBy : GoodIn wsX7_mostOf wsX7_limitBy := goodIn_r _ [19, 20, 21, 22, 23, 24, 25, 26, 27, 28, 29, 30, 31, 32, 33, 34, 35, 36, 37, 38, 39, 40, 41, 42, 43, 44, 45, 46, 47, 48, 49, 50, 51, 52, 53, 54, 55, 56, 57, 58, 59, 60, 61, 62, 63, 64, 65, 66, 67, 68, 69, 70, 71, 72, 73, 74, 75, 76, 77, 78, 79, 80, 81, 82, 83, 84, 85, 86, 87, 88, 89, 90, 91, 92, 93, 94, 95, 96, 97, 3, 98, 99, 100, 101, 102, 103, 104, 105, 106, 107, 108, 109, 114, 115, 116, 117, 118, 119, 120, 121, 122, 123, 124, 125] (by decide +kernel) (by decide +kernel)
set_option maxRecDepth 20000 in
theorem gX7_mostOf_X7_limitBy : GoodIn wsX7_mostOf (wsV RX7 50 RX7 yX7_limitBy wsX7_limitBy) := goodIn_app (goodIn_of _ (by decide +kernel)) ggX7_mostOf_X7_limitBy
set_option maxRecDepth 20000 in
theorem ggX7_mostOf_X7_behind : GoodIn wsX7_mostOf wsX7_behind := goodIn_r _ [113, 10, 11, 12, 13, 8, 14, 15, 114, 115, 116, 117] (by decide +kernel) (by decide +kernel)
set_option maxRecDepth 20000 in
theorem gX7_mostOf_X7_behind : GoodIn wsX7_mostOf (wsV RX7 54 RX7 yX7_behind wsX7_behind) := goodIn_app (goodIn_of _ (by decide +kernel)) ggX7_mostOf_X7_behind
theorem dX7_mostOf_0 : decode cX7_mostOf 0 = .ok (.sipush 9999, 3) := by decide +kernel
theorem dX7_mostOf_3 : decode cX7_mostOf 3 = .ok (.aload_n 0, 1) := by decide +kernel
theorem dX7_mostOf_4 : decode cX7_mostOf 4 = .ok (.iload_n 1, 1) := by decide +kernel
theorem dX7_mostOf_5 : decode cX7_mostOf 5 = .ok (.aload_n 0, 1) := by decide +kernel
theorem dX7_mostOf_6 : decode cX7_mostOf 6 = .ok (.iload_n 1, 1) := by decide +kernel
theorem dX7_mostOf_7 : decode cX7_mostOf 7 = .ok (.invokevirtual 47, 3) := by decide +kernel
theorem dX7_mostOf_10 : decode cX7_mostOf 10 = .ok (.invokevirtual 50, 3) := by decide +kernel
theorem dX7_mostOf_13 : decode cX7_mostOf 13 = .ok (.aload_n 0, 1) := by decide +kernel
theorem dX7_mostOf_14 : decode cX7_mostOf 14 = .ok (.iload_n 1, 1) := by decide +kernel
theorem dX7_mostOf_15 : decode cX7_mostOf 15 = .ok (.aload_n 0, 1) := by decide +kernel
theorem dX7_mostOf_16 : decode cX7_mostOf 16 = .ok (.iload_n 1, 1) := by decide +kernel
theorem dX7_mostOf_17 : decode cX7_mostOf 17 = .ok (.invokevirtual 54, 3) := by decide +kernel
theorem dX7_mostOf_20 : decode cX7_mostOf 20 = .ok (.invokevirtual 50, 3) := by decide +kernel
theorem dX7_mostOf_23 : decode cX7_mostOf 23 = .ok (.invokestatic 57, 3) := by decide +kernel
theorem dX7_mostOf_26 : decode cX7_mostOf 26 = .ok (.invokestatic 57, 3) := by decide +kernel
theorem dX7_mostOf_29 : decode cX7_mostOf 29 = .ok (.ireturn, 1) := by decide +kernel
set_option maxRecDepth 20000 in
theorem ggX7_breachesOf_X7_ahead : GoodIn wsX7_breachesOf wsX7_ahead := goodIn_r _ [6, 7, 8, 9, 10, 5, 11, 12, 111, 112, 113, 114] (by decide +kernel) (by decide +kernel)
set_option maxRecDepth 20000 in
theorem gX7_breachesOf_X7_ahead : GoodIn wsX7_breachesOf (wsV RX7 47 RX7 yX7_ahead wsX7_ahead) := goodIn_app (goodIn_of _ (by decide +kernel)) ggX7_breachesOf_X7_ahead
set_option maxRecDepth 20000 in
theorem ggX7_breachesOf_X7_limitBy : GoodIn wsX7_breachesOf wsX7_limitBy := goodIn_r _ [16, 17, 18, 1, 19, 20, 21, 22, 23, 24, 25, 26, 27, 28, 29, 30, 31, 32, 33, 34, 35, 36, 37, 38, 39, 40, 41, 42, 43, 44, 45, 46, 47, 48, 49, 50, 51, 52, 53, 54, 55, 56, 57, 58, 59, 60, 61, 62, 63, 64, 65, 66, 67, 68, 69, 70, 71, 72, 73, 74, 75, 76, 77, 78, 79, 80, 81, 82, 83, 84, 85, 86, 87, 88, 89, 90, 91, 92, 93, 94, 95, 96, 97, 98, 99, 100, 101, 102, 103, 104, 105, 106, 111, 112, 113, 114, 115, 116, 117, 118, 119, 120, 121, 122] (by decide +kernel) (by decide +kernel)
set_option maxRecDepth 20000 in
theorem gX7_breachesOf_X7_limitBy : GoodIn wsX7_breachesOf (wsV RX7 50 RX7 yX7_limitBy wsX7_limitBy) := goodIn_app (goodIn_of _ (by decide +kernel)) ggX7_breachesOf_X7_limitBy
set_option maxRecDepth 20000 in
theorem ggX7_breachesOf_X7_behind : GoodIn wsX7_breachesOf wsX7_behind := goodIn_r _ [110, 7, 8, 9, 10, 5, 11, 12, 111, 112, 113, 114] (by decide +kernel) (by decide +kernel)
set_option maxRecDepth 20000 in
theorem gX7_breachesOf_X7_behind : GoodIn wsX7_breachesOf (wsV RX7 54 RX7 yX7_behind wsX7_behind) := goodIn_app (goodIn_of _ (by decide +kernel)) ggX7_breachesOf_X7_behind
theorem dX7_breachesOf_0 : decode cX7_breachesOf 0 = .ok (.aload_n 0, 1) := by decide +kernel
theorem dX7_breachesOf_1 : decode cX7_breachesOf 1 = .ok (.getfield 17, 3) := by decide +kernel
theorem dX7_breachesOf_4 : decode cX7_breachesOf 4 = .ok (.iload_n 1, 1) := by decide +kernel
theorem dX7_breachesOf_5 : decode cX7_breachesOf 5 = .ok (.iaload, 1) := by decide +kernel
theorem dX7_breachesOf_6 : decode cX7_breachesOf 6 = .ok (.aload_n 0, 1) := by decide +kernel
theorem dX7_breachesOf_7 : decode cX7_breachesOf 7 = .ok (.iload_n 1, 1) := by decide +kernel
theorem dX7_breachesOf_8 : decode cX7_breachesOf 8 = .ok (.aload_n 0, 1) := by decide +kernel
theorem dX7_breachesOf_9 : decode cX7_breachesOf 9 = .ok (.iload_n 1, 1) := by decide +kernel
theorem dX7_breachesOf_10 : decode cX7_breachesOf 10 = .ok (.invokevirtual 47, 3) := by decide +kernel
theorem dX7_breachesOf_13 : decode cX7_breachesOf 13 = .ok (.invokevirtual 50, 3) := by decide +kernel
theorem dX7_breachesOf_16 : decode cX7_breachesOf 16 = .ok (.if_icmp .le 7, 3) := by decide +kernel
theorem dX7_breachesOf_19 : decode cX7_breachesOf 19 = .ok (.iconst 1, 1) := by decide +kernel
theorem dX7_breachesOf_20 : decode cX7_breachesOf 20 = .ok (.goto 4, 3) := by decide +kernel
theorem dX7_breachesOf_23 : decode cX7_breachesOf 23 = .ok (.iconst 0, 1) := by decide +kernel
theorem dX7_breachesOf_24 : decode cX7_breachesOf 24 = .ok (.istore_n 2, 1) := by decide +kernel
theorem dX7_breachesOf_25 : decode cX7_breachesOf 25 = .ok (.aload_n 0, 1) := by decide +kernel
theorem dX7_breachesOf_26 : decode cX7_breachesOf 26 = .ok (.getfield 17, 3) := by decide +kernel
theorem dX7_breachesOf_29 : decode cX7_breachesOf 29 = .ok (.iload_n 1, 1) := by decide +kernel
theorem dX7_breachesOf_30 : decode cX7_breachesOf 30 = .ok (.iaload, 1) := by decide +kernel
theorem dX7_breachesOf_31 : decode cX7_breachesOf 31 = .ok (.aload_n 0, 1) := by decide +kernel
theorem dX7_breachesOf_32 : decode cX7_breachesOf 32 = .ok (.iload_n 1, 1) := by decide +kernel
theorem dX7_breachesOf_33 : decode cX7_breachesOf 33 = .ok (.aload_n 0, 1) := by decide +kernel
theorem dX7_breachesOf_34 : decode cX7_breachesOf 34 = .ok (.iload_n 1, 1) := by decide +kernel
theorem dX7_breachesOf_35 : decode cX7_breachesOf 35 = .ok (.invokevirtual 54, 3) := by decide +kernel
theorem dX7_breachesOf_38 : decode cX7_breachesOf 38 = .ok (.invokevirtual 50, 3) := by decide +kernel
theorem dX7_breachesOf_41 : decode cX7_breachesOf 41 = .ok (.if_icmp .le 9, 3) := by decide +kernel
theorem dX7_breachesOf_44 : decode cX7_breachesOf 44 = .ok (.iload_n 2, 1) := by decide +kernel
theorem dX7_breachesOf_45 : decode cX7_breachesOf 45 = .ok (.iconst 1, 1) := by decide +kernel
theorem dX7_breachesOf_46 : decode cX7_breachesOf 46 = .ok (.iadd, 1) := by decide +kernel
theorem dX7_breachesOf_47 : decode cX7_breachesOf 47 = .ok (.goto 4, 3) := by decide +kernel
theorem dX7_breachesOf_50 : decode cX7_breachesOf 50 = .ok (.iload_n 2, 1) := by decide +kernel
theorem dX7_breachesOf_51 : decode cX7_breachesOf 51 = .ok (.ireturn, 1) := by decide +kernel
set_option maxRecDepth 20000 in
theorem ggX7_allBreaches_X7_breachesOf : GoodIn wsX7_allBreaches wsX7_breachesOf := goodIn_r _ [6, 7, 8, 9, 10, 5, 11, 1, 12, 13, 14, 15, 16, 17, 18, 19, 20, 21, 22, 23, 24, 25, 26, 27, 28, 29, 30, 31, 32, 33, 34, 35, 36, 37, 38, 39, 40, 41, 42, 43, 44, 45, 46, 47, 48, 49, 50, 51, 52, 53, 54, 55, 56, 57, 58, 59, 60, 61, 62, 63, 64, 65, 66, 67, 68, 69, 70, 71, 72, 73, 74, 75, 76, 77, 78, 79, 80, 81, 82, 83, 84, 85, 86, 87, 88, 89, 90, 91, 92, 93, 94, 95, 96, 97, 98, 99, 100, 101, 102, 103, 104, 105, 106, 107, 108, 109, 110, 111, 112, 113, 114, 115, 116, 117, 118, 119, 120, 121, 122, 123, 124, 125, 126] (by decide +kernel) (by decide +kernel)
set_option maxRecDepth 20000 in
theorem gX7_allBreaches_X7_breachesOf : GoodIn wsX7_allBreaches (wsV RX7 62 RX7 yX7_breachesOf wsX7_breachesOf) := goodIn_app (goodIn_of _ (by decide +kernel)) ggX7_allBreaches_X7_breachesOf
theorem dX7_allBreaches_0 : decode cX7_allBreaches 0 = .ok (.iconst 0, 1) := by decide +kernel
theorem dX7_allBreaches_1 : decode cX7_allBreaches 1 = .ok (.istore_n 1, 1) := by decide +kernel
theorem dX7_allBreaches_2 : decode cX7_allBreaches 2 = .ok (.iconst 0, 1) := by decide +kernel
theorem dX7_allBreaches_3 : decode cX7_allBreaches 3 = .ok (.istore_n 2, 1) := by decide +kernel
theorem dX7_allBreaches_4 : decode cX7_allBreaches 4 = .ok (.iload_n 2, 1) := by decide +kernel
theorem dX7_allBreaches_5 : decode cX7_allBreaches 5 = .ok (.aload_n 0, 1) := by decide +kernel
theorem dX7_allBreaches_6 : decode cX7_allBreaches 6 = .ok (.getfield 21, 3) := by decide +kernel
theorem dX7_allBreaches_9 : decode cX7_allBreaches 9 = .ok (.if_icmp .ge 17, 3) := by decide +kernel
theorem dX7_allBreaches_12 : decode cX7_allBreaches 12 = .ok (.iload_n 1, 1) := by decide +kernel
theorem dX7_allBreaches_13 : decode cX7_allBreaches 13 = .ok (.aload_n 0, 1) := by decide +kernel
theorem dX7_allBreaches_14 : decode cX7_allBreaches 14 = .ok (.iload_n 2, 1) := by decide +kernel
theorem dX7_allBreaches_15 : decode cX7_allBreaches 15 = .ok (.invokevirtual 62, 3) := by decide +kernel
theorem dX7_allBreaches_18 : decode cX7_allBreaches 18 = .ok (.iadd, 1) := by decide +kernel
theorem dX7_allBreaches_19 : decode cX7_allBreaches 19 = .ok (.istore_n 1, 1) := by decide +kernel
theorem dX7_allBreaches_20 : decode cX7_allBreaches 20 = .ok (.iinc 2 1, 3) := by decide +kernel
theorem dX7_allBreaches_23 : decode cX7_allBreaches 23 = .ok (.goto (-19), 3) := by decide +kernel
theorem dX7_allBreaches_26 : decode cX7_allBreaches 26 = .ok (.iload_n 1, 1) := by decide +kernel
theorem dX7_allBreaches_27 : decode cX7_allBreaches 27 = .ok (.ireturn, 1) := by decide +kernel
set_option maxRecDepth 20000 in
theorem ggX7_housesWithoutBreach_X7_breachesOf : GoodIn wsX7_housesWithoutBreach wsX7_breachesOf := goodIn_r _ [6, 7, 8, 9, 10, 5, 11, 1, 12, 13, 14, 15, 16, 17, 18, 19, 20, 21, 22, 23, 24, 25, 26, 27, 28, 29, 30, 31, 32, 33, 34, 35, 36, 37, 38, 39, 40, 41, 42, 43, 44, 45, 46, 47, 48, 49, 50, 51, 52, 53, 54, 55, 56, 57, 58, 59, 60, 61, 62, 63, 64, 65, 66, 67, 68, 69, 70, 71, 72, 73, 74, 75, 76, 77, 78, 79, 80, 81, 82, 83, 84, 85, 86, 87, 88, 89, 90, 91, 92, 93, 94, 95, 96, 97, 98, 99, 100, 101, 102, 103, 104, 105, 106, 107, 108, 109, 110, 111, 112, 113, 114, 115, 116, 117, 118, 119, 120, 121, 122, 123, 124, 125, 126] (by decide +kernel) (by decide +kernel)
set_option maxRecDepth 20000 in
theorem gX7_housesWithoutBreach_X7_breachesOf : GoodIn wsX7_housesWithoutBreach (wsV RX7 62 RX7 yX7_breachesOf wsX7_breachesOf) := goodIn_app (goodIn_of _ (by decide +kernel)) ggX7_housesWithoutBreach_X7_breachesOf
theorem dX7_housesWithoutBreach_0 : decode cX7_housesWithoutBreach 0 = .ok (.iconst 0, 1) := by decide +kernel
theorem dX7_housesWithoutBreach_1 : decode cX7_housesWithoutBreach 1 = .ok (.istore_n 1, 1) := by decide +kernel
theorem dX7_housesWithoutBreach_2 : decode cX7_housesWithoutBreach 2 = .ok (.iconst 0, 1) := by decide +kernel
theorem dX7_housesWithoutBreach_3 : decode cX7_housesWithoutBreach 3 = .ok (.istore_n 2, 1) := by decide +kernel
theorem dX7_housesWithoutBreach_4 : decode cX7_housesWithoutBreach 4 = .ok (.iload_n 2, 1) := by decide +kernel
theorem dX7_housesWithoutBreach_5 : decode cX7_housesWithoutBreach 5 = .ok (.aload_n 0, 1) := by decide +kernel
theorem dX7_housesWithoutBreach_6 : decode cX7_housesWithoutBreach 6 = .ok (.getfield 21, 3) := by decide +kernel
theorem dX7_housesWithoutBreach_9 : decode cX7_housesWithoutBreach 9 = .ok (.if_icmp .ge 20, 3) := by decide +kernel
theorem dX7_housesWithoutBreach_12 : decode cX7_housesWithoutBreach 12 = .ok (.aload_n 0, 1) := by decide +kernel
theorem dX7_housesWithoutBreach_13 : decode cX7_housesWithoutBreach 13 = .ok (.iload_n 2, 1) := by decide +kernel
theorem dX7_housesWithoutBreach_14 : decode cX7_housesWithoutBreach 14 = .ok (.invokevirtual 62, 3) := by decide +kernel
theorem dX7_housesWithoutBreach_17 : decode cX7_housesWithoutBreach 17 = .ok (.ifCond .ne 6, 3) := by decide +kernel
theorem dX7_housesWithoutBreach_20 : decode cX7_housesWithoutBreach 20 = .ok (.iinc 1 1, 3) := by decide +kernel
theorem dX7_housesWithoutBreach_23 : decode cX7_housesWithoutBreach 23 = .ok (.iinc 2 1, 3) := by decide +kernel
theorem dX7_housesWithoutBreach_26 : decode cX7_housesWithoutBreach 26 = .ok (.goto (-22), 3) := by decide +kernel
theorem dX7_housesWithoutBreach_29 : decode cX7_housesWithoutBreach 29 = .ok (.iload_n 1, 1) := by decide +kernel
theorem dX7_housesWithoutBreach_30 : decode cX7_housesWithoutBreach 30 = .ok (.ireturn, 1) := by decide +kernel
set_option maxRecDepth 20000 in
theorem ggX7_holdersOf_X7_ahead : GoodIn wsX7_holdersOf wsX7_ahead := goodIn_r _ [6, 7, 8, 9, 10, 5, 11, 12, 111, 112, 113, 114] (by decide +kernel) (by decide +kernel)
set_option maxRecDepth 20000 in
theorem gX7_holdersOf_X7_ahead : GoodIn wsX7_holdersOf (wsV RX7 47 RX7 yX7_ahead wsX7_ahead) := goodIn_app (goodIn_of _ (by decide +kernel)) ggX7_holdersOf_X7_ahead
set_option maxRecDepth 20000 in
theorem ggX7_holdersOf_X7_behind : GoodIn wsX7_holdersOf wsX7_behind := goodIn_r _ [16, 7, 8, 9, 10, 5, 11, 12, 111, 112, 113, 114] (by decide +kernel) (by decide +kernel)
set_option maxRecDepth 20000 in
theorem gX7_holdersOf_X7_behind : GoodIn wsX7_holdersOf (wsV RX7 54 RX7 yX7_behind wsX7_behind) := goodIn_app (goodIn_of _ (by decide +kernel)) ggX7_holdersOf_X7_behind
set_option maxRecDepth 20000 in
theorem ggX7_holdersOf_X7_limitBy : GoodIn wsX7_holdersOf wsX7_limitBy := goodIn_r _ [20, 21, 22, 1, 23, 24, 25, 26, 27, 28, 29, 30, 31, 32, 33, 34, 35, 36, 37, 38, 39, 40, 41, 42, 43, 44, 45, 46, 47, 48, 49, 50, 51, 52, 53, 54, 55, 56, 57, 58, 59, 60, 61, 62, 63, 64, 65, 66, 67, 68, 69, 70, 71, 72, 73, 74, 75, 76, 77, 78, 79, 80, 81, 82, 83, 84, 85, 86, 87, 88, 89, 90, 91, 92, 93, 94, 95, 96, 97, 98, 99, 100, 101, 102, 103, 104, 105, 106, 107, 108, 109, 110, 111, 112, 113, 114, 115, 116, 117, 118, 119, 120, 121, 122] (by decide +kernel) (by decide +kernel)
set_option maxRecDepth 20000 in
theorem gX7_holdersOf_X7_limitBy : GoodIn wsX7_holdersOf (wsV RX7 50 RX7 yX7_limitBy wsX7_limitBy) := goodIn_app (goodIn_of _ (by decide +kernel)) ggX7_holdersOf_X7_limitBy
theorem dX7_holdersOf_0 : decode cX7_holdersOf 0 = .ok (.aload_n 0, 1) := by decide +kernel
theorem dX7_holdersOf_1 : decode cX7_holdersOf 1 = .ok (.iload_n 1, 1) := by decide +kernel
theorem dX7_holdersOf_2 : decode cX7_holdersOf 2 = .ok (.invokevirtual 47, 3) := by decide +kernel
theorem dX7_holdersOf_5 : decode cX7_holdersOf 5 = .ok (.istore_n 2, 1) := by decide +kernel
theorem dX7_holdersOf_6 : decode cX7_holdersOf 6 = .ok (.aload_n 0, 1) := by decide +kernel
theorem dX7_holdersOf_7 : decode cX7_holdersOf 7 = .ok (.iload_n 1, 1) := by decide +kernel
theorem dX7_holdersOf_8 : decode cX7_holdersOf 8 = .ok (.invokevirtual 54, 3) := by decide +kernel
theorem dX7_holdersOf_11 : decode cX7_holdersOf 11 = .ok (.istore_n 3, 1) := by decide +kernel
theorem dX7_holdersOf_12 : decode cX7_holdersOf 12 = .ok (.aload_n 0, 1) := by decide +kernel
theorem dX7_holdersOf_13 : decode cX7_holdersOf 13 = .ok (.getfield 17, 3) := by decide +kernel
theorem dX7_holdersOf_16 : decode cX7_holdersOf 16 = .ok (.iload_n 1, 1) := by decide +kernel
theorem dX7_holdersOf_17 : decode cX7_holdersOf 17 = .ok (.iaload, 1) := by decide +kernel
theorem dX7_holdersOf_18 : decode cX7_holdersOf 18 = .ok (.iconst 1, 1) := by decide +kernel
theorem dX7_holdersOf_19 : decode cX7_holdersOf 19 = .ok (.iadd, 1) := by decide +kernel
theorem dX7_holdersOf_20 : decode cX7_holdersOf 20 = .ok (.aload_n 0, 1) := by decide +kernel
theorem dX7_holdersOf_21 : decode cX7_holdersOf 21 = .ok (.iload_n 1, 1) := by decide +kernel
theorem dX7_holdersOf_22 : decode cX7_holdersOf 22 = .ok (.iload_n 2, 1) := by decide +kernel
theorem dX7_holdersOf_23 : decode cX7_holdersOf 23 = .ok (.invokevirtual 50, 3) := by decide +kernel
theorem dX7_holdersOf_26 : decode cX7_holdersOf 26 = .ok (.if_icmp .le 9, 3) := by decide +kernel
theorem dX7_holdersOf_29 : decode cX7_holdersOf 29 = .ok (.iconst 1, 1) := by decide +kernel
theorem dX7_holdersOf_30 : decode cX7_holdersOf 30 = .ok (.iload_n 2, 1) := by decide +kernel
theorem dX7_holdersOf_31 : decode cX7_holdersOf 31 = .ok (.ishl, 1) := by decide +kernel
theorem dX7_holdersOf_32 : decode cX7_holdersOf 32 = .ok (.goto 4, 3) := by decide +kernel
theorem dX7_holdersOf_35 : decode cX7_holdersOf 35 = .ok (.iconst 0, 1) := by decide +kernel
theorem dX7_holdersOf_36 : decode cX7_holdersOf 36 = .ok (.istore 4, 2) := by decide +kernel
theorem dX7_holdersOf_38 : decode cX7_holdersOf 38 = .ok (.aload_n 0, 1) := by decide +kernel
theorem dX7_holdersOf_39 : decode cX7_holdersOf 39 = .ok (.getfield 17, 3) := by decide +kernel
theorem dX7_holdersOf_42 : decode cX7_holdersOf 42 = .ok (.iload_n 1, 1) := by decide +kernel
theorem dX7_holdersOf_43 : decode cX7_holdersOf 43 = .ok (.iaload, 1) := by decide +kernel
theorem dX7_holdersOf_44 : decode cX7_holdersOf 44 = .ok (.iconst 1, 1) := by decide +kernel
theorem dX7_holdersOf_45 : decode cX7_holdersOf 45 = .ok (.iadd, 1) := by decide +kernel
theorem dX7_holdersOf_46 : decode cX7_holdersOf 46 = .ok (.aload_n 0, 1) := by decide +kernel
theorem dX7_holdersOf_47 : decode cX7_holdersOf 47 = .ok (.iload_n 1, 1) := by decide +kernel
theorem dX7_holdersOf_48 : decode cX7_holdersOf 48 = .ok (.iload_n 3, 1) := by decide +kernel
theorem dX7_holdersOf_49 : decode cX7_holdersOf 49 = .ok (.invokevirtual 50, 3) := by decide +kernel
theorem dX7_holdersOf_52 : decode cX7_holdersOf 52 = .ok (.if_icmp .le 12, 3) := by decide +kernel
theorem dX7_holdersOf_55 : decode cX7_holdersOf 55 = .ok (.iload 4, 2) := by decide +kernel
theorem dX7_holdersOf_57 : decode cX7_holdersOf 57 = .ok (.iconst 1, 1) := by decide +kernel
theorem dX7_holdersOf_58 : decode cX7_holdersOf 58 = .ok (.iload_n 3, 1) := by decide +kernel
theorem dX7_holdersOf_59 : decode cX7_holdersOf 59 = .ok (.ishl, 1) := by decide +kernel
theorem dX7_holdersOf_60 : decode cX7_holdersOf 60 = .ok (.ior, 1) := by decide +kernel
theorem dX7_holdersOf_61 : decode cX7_holdersOf 61 = .ok (.goto 5, 3) := by decide +kernel
theorem dX7_holdersOf_64 : decode cX7_holdersOf 64 = .ok (.iload 4, 2) := by decide +kernel
theorem dX7_holdersOf_66 : decode cX7_holdersOf 66 = .ok (.ireturn, 1) := by decide +kernel
theorem dX7_allCoins_0 : decode cX7_allCoins 0 = .ok (.iconst 0, 1) := by decide +kernel
theorem dX7_allCoins_1 : decode cX7_allCoins 1 = .ok (.istore_n 1, 1) := by decide +kernel
theorem dX7_allCoins_2 : decode cX7_allCoins 2 = .ok (.iconst 0, 1) := by decide +kernel
theorem dX7_allCoins_3 : decode cX7_allCoins 3 = .ok (.istore_n 2, 1) := by decide +kernel
theorem dX7_allCoins_4 : decode cX7_allCoins 4 = .ok (.iload_n 2, 1) := by decide +kernel
theorem dX7_allCoins_5 : decode cX7_allCoins 5 = .ok (.aload_n 0, 1) := by decide +kernel
theorem dX7_allCoins_6 : decode cX7_allCoins 6 = .ok (.getfield 21, 3) := by decide +kernel
theorem dX7_allCoins_9 : decode cX7_allCoins 9 = .ok (.if_icmp .ge 18, 3) := by decide +kernel
theorem dX7_allCoins_12 : decode cX7_allCoins 12 = .ok (.iload_n 1, 1) := by decide +kernel
theorem dX7_allCoins_13 : decode cX7_allCoins 13 = .ok (.aload_n 0, 1) := by decide +kernel
theorem dX7_allCoins_14 : decode cX7_allCoins 14 = .ok (.getfield 17, 3) := by decide +kernel
theorem dX7_allCoins_17 : decode cX7_allCoins 17 = .ok (.iload_n 2, 1) := by decide +kernel
theorem dX7_allCoins_18 : decode cX7_allCoins 18 = .ok (.iaload, 1) := by decide +kernel
theorem dX7_allCoins_19 : decode cX7_allCoins 19 = .ok (.iadd, 1) := by decide +kernel
theorem dX7_allCoins_20 : decode cX7_allCoins 20 = .ok (.istore_n 1, 1) := by decide +kernel
theorem dX7_allCoins_21 : decode cX7_allCoins 21 = .ok (.iinc 2 1, 3) := by decide +kernel
theorem dX7_allCoins_24 : decode cX7_allCoins 24 = .ok (.goto (-20), 3) := by decide +kernel
theorem dX7_allCoins_27 : decode cX7_allCoins 27 = .ok (.iload_n 1, 1) := by decide +kernel
theorem dX7_allCoins_28 : decode cX7_allCoins 28 = .ok (.ireturn, 1) := by decide +kernel
set_option maxRecDepth 20000 in
theorem ggX7_earn_X0_weekly : GoodIn wsX7_earn wsX0_weekly := goodIn_r _ [14, 15, 16, 17, 18, 19, 20, 21, 9, 22, 23, 24, 25] (by decide +kernel) (by decide +kernel)
set_option maxRecDepth 20000 in
theorem gX7_earn_X0_weekly_u65X0 : GoodIn wsX7_earn (va_wsO RX7 65 RX0 "TwiceAsRich$House" ⟨"TwiceAsRich$House", "weekly", "()I"⟩ yX0_weekly wsX0_weekly) := goodIn_app (goodIn_of _ (by decide +kernel)) ggX7_earn_X0_weekly
set_option maxRecDepth 20000 in
theorem ggX7_earn_X1_weekly : GoodIn wsX7_earn wsX1_weekly := goodIn_r _ [29, 30, 31, 32, 33, 34, 35, 36, 37, 67, 68, 69, 70, 71, 72, 73, 74] (by decide +kernel) (by decide +kernel)
set_option maxRecDepth 20000 in
theorem gX7_earn_X1_weekly_u65X1 : GoodIn wsX7_earn (va_wsO RX7 65 RX1 "TwiceAsRich$House" ⟨"TwiceAsRich$House", "weekly", "()I"⟩ yX1_weekly wsX1_weekly) := goodIn_app (goodIn_of _ (by decide +kernel)) ggX7_earn_X1_weekly
set_option maxRecDepth 20000 in
theorem ggX7_earn_X2_weekly : GoodIn wsX7_earn wsX2_weekly := goodIn_r _ [41, 42, 43, 44, 9, 45, 23, 24, 25, 67, 68, 69, 70, 71, 72, 73, 74] (by decide +kernel) (by decide +kernel)
set_option maxRecDepth 20000 in
theorem gX7_earn_X2_weekly_u65X2 : GoodIn wsX7_earn (va_wsO RX7 65 RX2 "TwiceAsRich$House" ⟨"TwiceAsRich$House", "weekly", "()I"⟩ yX2_weekly wsX2_weekly) := goodIn_app (goodIn_of _ (by decide +kernel)) ggX7_earn_X2_weekly
set_option maxRecDepth 20000 in
theorem ggX7_earn_X3_weekly : GoodIn wsX7_earn wsX3_weekly := goodIn_r _ [25] (by decide +kernel) (by decide +kernel)
set_option maxRecDepth 20000 in
theorem gX7_earn_X3_weekly : GoodIn wsX7_earn (wsV RX7 65 RX3 yX3_weekly wsX3_weekly) := goodIn_app (goodIn_of _ (by decide +kernel)) ggX7_earn_X3_weekly
set_option maxRecDepth 20000 in
theorem ggX7_earn_X4_weekly : GoodIn wsX7_earn wsX4_weekly := goodIn_r _ [51, 52, 53, 54, 39, 40, 41, 42, 43, 44, 9, 45, 23, 24, 25, 67, 68, 69, 70, 71, 72, 73, 74] (by decide +kernel) (by decide +kernel)
set_option maxRecDepth 20000 in
theorem gX7_earn_X4_weekly_u65X4 : GoodIn wsX7_earn (va_wsO RX7 65 RX4 "TwiceAsRich$House" ⟨"TwiceAsRich$House", "weekly", "()I"⟩ yX4_weekly wsX4_weekly) := goodIn_app (goodIn_of _ (by decide +kernel)) ggX7_earn_X4_weekly
set_option maxRecDepth 20000 in
theorem ggX7_earn_X6_weekly : GoodIn wsX7_earn wsX6_weekly := goodIn_r _ [20, 21, 9, 22, 23, 24, 25] (by decide +kernel) (by decide +kernel)
set_option maxRecDepth 20000 in
theorem gX7_earn_X6_weekly_u65X6 : GoodIn wsX7_earn (va_wsO RX7 65 RX6 "TwiceAsRich$House" ⟨"TwiceAsRich$House", "weekly", "()I"⟩ yX6_weekly wsX6_weekly) := goodIn_app (goodIn_of _ (by decide +kernel)) ggX7_earn_X6_weekly
set_option maxRecDepth 20000 in
theorem ggX7_earn_X9_weekly : GoodIn wsX7_earn wsX9_weekly := goodIn_r _ [59, 60, 53, 61, 39, 40, 41, 42, 43, 44, 9, 45, 23, 24, 25, 67, 68, 69, 70, 71, 72, 73, 74] (by decide +kernel) (by decide +kernel)
set_option maxRecDepth 20000 in
theorem gX7_earn_X9_weekly_u65X9 : GoodIn wsX7_earn (va_wsO RX7 65 RX9 "TwiceAsRich$House" ⟨"TwiceAsRich$House", "weekly", "()I"⟩ yX9_weekly wsX9_weekly) := goodIn_app (goodIn_of _ (by decide +kernel)) ggX7_earn_X9_weekly
set_option maxRecDepth 20000 in
theorem ggX7_earn_X10_weekly : GoodIn wsX7_earn wsX10_weekly := goodIn_r _ [37] (by decide +kernel) (by decide +kernel)
set_option maxRecDepth 20000 in
theorem gX7_earn_X10_weekly_u65X10 : GoodIn wsX7_earn (va_wsO RX7 65 RX10 "TwiceAsRich$House" ⟨"TwiceAsRich$House", "weekly", "()I"⟩ yX10_weekly wsX10_weekly) := goodIn_app (goodIn_of _ (by decide +kernel)) ggX7_earn_X10_weekly
theorem dX7_earn_0 : decode cX7_earn 0 = .ok (.iconst 0, 1) := by decide +kernel
theorem dX7_earn_1 : decode cX7_earn 1 = .ok (.istore_n 2, 1) := by decide +kernel
theorem dX7_earn_2 : decode cX7_earn 2 = .ok (.iload_n 2, 1) := by decide +kernel
theorem dX7_earn_3 : decode cX7_earn 3 = .ok (.aload_n 0, 1) := by decide +kernel
theorem dX7_earn_4 : decode cX7_earn 4 = .ok (.getfield 21, 3) := by decide +kernel
theorem dX7_earn_7 : decode cX7_earn 7 = .ok (.if_icmp .ge 39, 3) := by decide +kernel
theorem dX7_earn_10 : decode cX7_earn 10 = .ok (.aload_n 0, 1) := by decide +kernel
theorem dX7_earn_11 : decode cX7_earn 11 = .ok (.getfield 17, 3) := by decide +kernel
theorem dX7_earn_14 : decode cX7_earn 14 = .ok (.iload_n 2, 1) := by decide +kernel
theorem dX7_earn_15 : decode cX7_earn 15 = .ok (.sipush 9999, 3) := by decide +kernel
theorem dX7_earn_18 : decode cX7_earn 18 = .ok (.aload_n 0, 1) := by decide +kernel
theorem dX7_earn_19 : decode cX7_earn 19 = .ok (.getfield 17, 3) := by decide +kernel
theorem dX7_earn_22 : decode cX7_earn 22 = .ok (.iload_n 2, 1) := by decide +kernel
theorem dX7_earn_23 : decode cX7_earn 23 = .ok (.iaload, 1) := by decide +kernel
theorem dX7_earn_24 : decode cX7_earn 24 = .ok (.iload_n 1, 1) := by decide +kernel
theorem dX7_earn_25 : decode cX7_earn 25 = .ok (.aload_n 0, 1) := by decide +kernel
theorem dX7_earn_26 : decode cX7_earn 26 = .ok (.getfield 11, 3) := by decide +kernel
theorem dX7_earn_29 : decode cX7_earn 29 = .ok (.iload_n 2, 1) := by decide +kernel
theorem dX7_earn_30 : decode cX7_earn 30 = .ok (.aaload, 1) := by decide +kernel
theorem dX7_earn_31 : decode cX7_earn 31 = .ok (.invokevirtual 65, 3) := by decide +kernel
theorem dX7_earn_34 : decode cX7_earn 34 = .ok (.imul, 1) := by decide +kernel
theorem dX7_earn_35 : decode cX7_earn 35 = .ok (.iadd, 1) := by decide +kernel
theorem dX7_earn_36 : decode cX7_earn 36 = .ok (.invokestatic 57, 3) := by decide +kernel
theorem dX7_earn_39 : decode cX7_earn 39 = .ok (.iastore, 1) := by decide +kernel
theorem dX7_earn_40 : decode cX7_earn 40 = .ok (.iinc 2 1, 3) := by decide +kernel
theorem dX7_earn_43 : decode cX7_earn 43 = .ok (.goto (-41), 3) := by decide +kernel
theorem dX7_earn_46 : decode cX7_earn 46 = .ok (.return_, 1) := by decide +kernel
set_option maxRecDepth 20000 in
theorem ggX7_gift_X7_hasTwo : GoodIn wsX7_gift wsX7_hasTwo := goodIn_r _ [6, 7, 8, 9, 5, 10, 11, 12, 13, 14, 15] (by decide +kernel) (by decide +kernel)
set_option maxRecDepth 20000 in
theorem gX7_gift_X7_hasTwo : GoodIn wsX7_gift (wsV RX7 69 RX7 yX7_hasTwo wsX7_hasTwo) := goodIn_app (goodIn_of _ (by decide +kernel)) ggX7_gift_X7_hasTwo
theorem dX7_gift_0 : decode cX7_gift 0 = .ok (.aload_n 0, 1) := by decide +kernel
theorem dX7_gift_1 : decode cX7_gift 1 = .ok (.iload_n 1, 1) := by decide +kernel
theorem dX7_gift_2 : decode cX7_gift 2 = .ok (.iload_n 2, 1) := by decide +kernel
theorem dX7_gift_3 : decode cX7_gift 3 = .ok (.invokevirtual 69, 3) := by decide +kernel
theorem dX7_gift_6 : decode cX7_gift 6 = .ok (.ifCond .eq 8, 3) := by decide +kernel
theorem dX7_gift_9 : decode cX7_gift 9 = .ok (.iload_n 3, 1) := by decide +kernel
theorem dX7_gift_10 : decode cX7_gift 10 = .ok (.iconst 1, 1) := by decide +kernel
theorem dX7_gift_11 : decode cX7_gift 11 = .ok (.if_icmp .ge 5, 3) := by decide +kernel
theorem dX7_gift_14 : decode cX7_gift 14 = .ok (.iconst (-1), 1) := by decide +kernel
theorem dX7_gift_15 : decode cX7_gift 15 = .ok (.ireturn, 1) := by decide +kernel
theorem dX7_gift_16 : decode cX7_gift 16 = .ok (.aload_n 0, 1) := by decide +kernel
theorem dX7_gift_17 : decode cX7_gift 17 = .ok (.getfield 17, 3) := by decide +kernel
theorem dX7_gift_20 : decode cX7_gift 20 = .ok (.iload_n 1, 1) := by decide +kernel
theorem dX7_gift_21 : decode cX7_gift 21 = .ok (.iaload, 1) := by decide +kernel
theorem dX7_gift_22 : decode cX7_gift 22 = .ok (.iload_n 3, 1) := by decide +kernel
theorem dX7_gift_23 : decode cX7_gift 23 = .ok (.if_icmp .ge 6, 3) := by decide +kernel
theorem dX7_gift_26 : decode cX7_gift 26 = .ok (.bipush (-3), 2) := by decide +kernel
theorem dX7_gift_28 : decode cX7_gift 28 = .ok (.ireturn, 1) := by decide +kernel
theorem dX7_gift_29 : decode cX7_gift 29 = .ok (.aload_n 0, 1) := by decide +kernel
theorem dX7_gift_30 : decode cX7_gift 30 = .ok (.getfield 17, 3) := by decide +kernel
theorem dX7_gift_33 : decode cX7_gift 33 = .ok (.iload_n 2, 1) := by decide +kernel
theorem dX7_gift_34 : decode cX7_gift 34 = .ok (.iaload, 1) := by decide +kernel
theorem dX7_gift_35 : decode cX7_gift 35 = .ok (.iload_n 3, 1) := by decide +kernel
theorem dX7_gift_36 : decode cX7_gift 36 = .ok (.iadd, 1) := by decide +kernel
theorem dX7_gift_37 : decode cX7_gift 37 = .ok (.sipush 9999, 3) := by decide +kernel
theorem dX7_gift_40 : decode cX7_gift 40 = .ok (.if_icmp .le 6, 3) := by decide +kernel
theorem dX7_gift_43 : decode cX7_gift 43 = .ok (.bipush (-2), 2) := by decide +kernel
theorem dX7_gift_45 : decode cX7_gift 45 = .ok (.ireturn, 1) := by decide +kernel
theorem dX7_gift_46 : decode cX7_gift 46 = .ok (.aload_n 0, 1) := by decide +kernel
theorem dX7_gift_47 : decode cX7_gift 47 = .ok (.getfield 17, 3) := by decide +kernel
theorem dX7_gift_50 : decode cX7_gift 50 = .ok (.iload_n 1, 1) := by decide +kernel
theorem dX7_gift_51 : decode cX7_gift 51 = .ok (.dup2, 1) := by decide +kernel
theorem dX7_gift_52 : decode cX7_gift 52 = .ok (.iaload, 1) := by decide +kernel
theorem dX7_gift_53 : decode cX7_gift 53 = .ok (.iload_n 3, 1) := by decide +kernel
theorem dX7_gift_54 : decode cX7_gift 54 = .ok (.isub, 1) := by decide +kernel
theorem dX7_gift_55 : decode cX7_gift 55 = .ok (.iastore, 1) := by decide +kernel
theorem dX7_gift_56 : decode cX7_gift 56 = .ok (.aload_n 0, 1) := by decide +kernel
theorem dX7_gift_57 : decode cX7_gift 57 = .ok (.getfield 17, 3) := by decide +kernel
theorem dX7_gift_60 : decode cX7_gift 60 = .ok (.iload_n 2, 1) := by decide +kernel
theorem dX7_gift_61 : decode cX7_gift 61 = .ok (.dup2, 1) := by decide +kernel
theorem dX7_gift_62 : decode cX7_gift 62 = .ok (.iaload, 1) := by decide +kernel
theorem dX7_gift_63 : decode cX7_gift 63 = .ok (.iload_n 3, 1) := by decide +kernel
theorem dX7_gift_64 : decode cX7_gift 64 = .ok (.iadd, 1) := by decide +kernel
theorem dX7_gift_65 : decode cX7_gift 65 = .ok (.iastore, 1) := by decide +kernel
theorem dX7_gift_66 : decode cX7_gift 66 = .ok (.iconst 0, 1) := by decide +kernel
theorem dX7_gift_67 : decode cX7_gift 67 = .ok (.ireturn, 1) := by decide +kernel
theorem dX7_steal_0 : decode cX7_steal 0 = .ok (.iload_n 2, 1) := by decide +kernel
theorem dX7_steal_1 : decode cX7_steal 1 = .ok (.iconst (-1), 1) := by decide +kernel
theorem dX7_steal_2 : decode cX7_steal 2 = .ok (.if_icmp .eq 44, 3) := by decide +kernel
theorem dX7_steal_5 : decode cX7_steal 5 = .ok (.aload_n 0, 1) := by decide +kernel
theorem dX7_steal_6 : decode cX7_steal 6 = .ok (.getfield 17, 3) := by decide +kernel
theorem dX7_steal_9 : decode cX7_steal 9 = .ok (.iload_n 2, 1) := by decide +kernel
theorem dX7_steal_10 : decode cX7_steal 10 = .ok (.iaload, 1) := by decide +kernel
theorem dX7_steal_11 : decode cX7_steal 11 = .ok (.ifCond .le 35, 3) := by decide +kernel
theorem dX7_steal_14 : decode cX7_steal 14 = .ok (.aload_n 0, 1) := by decide +kernel
theorem dX7_steal_15 : decode cX7_steal 15 = .ok (.getfield 17, 3) := by decide +kernel
theorem dX7_steal_18 : decode cX7_steal 18 = .ok (.iload_n 1, 1) := by decide +kernel
theorem dX7_steal_19 : decode cX7_steal 19 = .ok (.iaload, 1) := by decide +kernel
theorem dX7_steal_20 : decode cX7_steal 20 = .ok (.sipush 9999, 3) := by decide +kernel
theorem dX7_steal_23 : decode cX7_steal 23 = .ok (.if_icmp .ge 23, 3) := by decide +kernel
theorem dX7_steal_26 : decode cX7_steal 26 = .ok (.aload_n 0, 1) := by decide +kernel
theorem dX7_steal_27 : decode cX7_steal 27 = .ok (.getfield 17, 3) := by decide +kernel
theorem dX7_steal_30 : decode cX7_steal 30 = .ok (.iload_n 2, 1) := by decide +kernel
theorem dX7_steal_31 : decode cX7_steal 31 = .ok (.dup2, 1) := by decide +kernel
theorem dX7_steal_32 : decode cX7_steal 32 = .ok (.iaload, 1) := by decide +kernel
theorem dX7_steal_33 : decode cX7_steal 33 = .ok (.iconst 1, 1) := by decide +kernel
theorem dX7_steal_34 : decode cX7_steal 34 = .ok (.isub, 1) := by decide +kernel
theorem dX7_steal_35 : decode cX7_steal 35 = .ok (.iastore, 1) := by decide +kernel
theorem dX7_steal_36 : decode cX7_steal 36 = .ok (.aload_n 0, 1) := by decide +kernel
theorem dX7_steal_37 : decode cX7_steal 37 = .ok (.getfield 17, 3) := by decide +kernel
theorem dX7_steal_40 : decode cX7_steal 40 = .ok (.iload_n 1, 1) := by decide +kernel
theorem dX7_steal_41 : decode cX7_steal 41 = .ok (.dup2, 1) := by decide +kernel
theorem dX7_steal_42 : decode cX7_steal 42 = .ok (.iaload, 1) := by decide +kernel
theorem dX7_steal_43 : decode cX7_steal 43 = .ok (.iconst 1, 1) := by decide +kernel
theorem dX7_steal_44 : decode cX7_steal 44 = .ok (.iadd, 1) := by decide +kernel
theorem dX7_steal_45 : decode cX7_steal 45 = .ok (.iastore, 1) := by decide +kernel
theorem dX7_steal_46 : decode cX7_steal 46 = .ok (.return_, 1) := by decide +kernel
theorem dX7_exchange_0 : decode cX7_exchange 0 = .ok (.aload_n 0, 1) := by decide +kernel
theorem dX7_exchange_1 : decode cX7_exchange 1 = .ok (.getfield 11, 3) := by decide +kernel
theorem dX7_exchange_4 : decode cX7_exchange 4 = .ok (.iload_n 1, 1) := by decide +kernel
theorem dX7_exchange_5 : decode cX7_exchange 5 = .ok (.aaload, 1) := by decide +kernel
theorem dX7_exchange_6 : decode cX7_exchange 6 = .ok (.astore_n 3, 1) := by decide +kernel
theorem dX7_exchange_7 : decode cX7_exchange 7 = .ok (.aload_n 0, 1) := by decide +kernel
theorem dX7_exchange_8 : decode cX7_exchange 8 = .ok (.getfield 17, 3) := by decide +kernel
theorem dX7_exchange_11 : decode cX7_exchange 11 = .ok (.iload_n 1, 1) := by decide +kernel
theorem dX7_exchange_12 : decode cX7_exchange 12 = .ok (.iaload, 1) := by decide +kernel
theorem dX7_exchange_13 : decode cX7_exchange 13 = .ok (.istore 4, 2) := by decide +kernel
theorem dX7_exchange_15 : decode cX7_exchange 15 = .ok (.aload_n 0, 1) := by decide +kernel
theorem dX7_exchange_16 : decode cX7_exchange 16 = .ok (.getfield 11, 3) := by decide +kernel
theorem dX7_exchange_19 : decode cX7_exchange 19 = .ok (.iload_n 1, 1) := by decide +kernel
theorem dX7_exchange_20 : decode cX7_exchange 20 = .ok (.aload_n 0, 1) := by decide +kernel
theorem dX7_exchange_21 : decode cX7_exchange 21 = .ok (.getfield 11, 3) := by decide +kernel
theorem dX7_exchange_24 : decode cX7_exchange 24 = .ok (.iload_n 2, 1) := by decide +kernel
theorem dX7_exchange_25 : decode cX7_exchange 25 = .ok (.aaload, 1) := by decide +kernel
theorem dX7_exchange_26 : decode cX7_exchange 26 = .ok (.aastore, 1) := by decide +kernel
theorem dX7_exchange_27 : decode cX7_exchange 27 = .ok (.aload_n 0, 1) := by decide +kernel
theorem dX7_exchange_28 : decode cX7_exchange 28 = .ok (.getfield 17, 3) := by decide +kernel
theorem dX7_exchange_31 : decode cX7_exchange 31 = .ok (.iload_n 1, 1) := by decide +kernel
theorem dX7_exchange_32 : decode cX7_exchange 32 = .ok (.aload_n 0, 1) := by decide +kernel
theorem dX7_exchange_33 : decode cX7_exchange 33 = .ok (.getfield 17, 3) := by decide +kernel
theorem dX7_exchange_36 : decode cX7_exchange 36 = .ok (.iload_n 2, 1) := by decide +kernel
theorem dX7_exchange_37 : decode cX7_exchange 37 = .ok (.iaload, 1) := by decide +kernel
theorem dX7_exchange_38 : decode cX7_exchange 38 = .ok (.iastore, 1) := by decide +kernel
theorem dX7_exchange_39 : decode cX7_exchange 39 = .ok (.aload_n 0, 1) := by decide +kernel
theorem dX7_exchange_40 : decode cX7_exchange 40 = .ok (.getfield 11, 3) := by decide +kernel
theorem dX7_exchange_43 : decode cX7_exchange 43 = .ok (.iload_n 2, 1) := by decide +kernel
theorem dX7_exchange_44 : decode cX7_exchange 44 = .ok (.aload_n 3, 1) := by decide +kernel
theorem dX7_exchange_45 : decode cX7_exchange 45 = .ok (.aastore, 1) := by decide +kernel
theorem dX7_exchange_46 : decode cX7_exchange 46 = .ok (.aload_n 0, 1) := by decide +kernel
theorem dX7_exchange_47 : decode cX7_exchange 47 = .ok (.getfield 17, 3) := by decide +kernel
theorem dX7_exchange_50 : decode cX7_exchange 50 = .ok (.iload_n 2, 1) := by decide +kernel
theorem dX7_exchange_51 : decode cX7_exchange 51 = .ok (.iload 4, 2) := by decide +kernel
theorem dX7_exchange_53 : decode cX7_exchange 53 = .ok (.iastore, 1) := by decide +kernel
theorem dX7_exchange_54 : decode cX7_exchange 54 = .ok (.return_, 1) := by decide +kernel
theorem dX7_insert_0 : decode cX7_insert 0 = .ok (.iload_n 1, 1) := by decide +kernel
theorem dX7_insert_1 : decode cX7_insert 1 = .ok (.ifCond .lt 23, 3) := by decide +kernel
theorem dX7_insert_4 : decode cX7_insert 4 = .ok (.iload_n 1, 1) := by decide +kernel
theorem dX7_insert_5 : decode cX7_insert 5 = .ok (.aload_n 0, 1) := by decide +kernel
theorem dX7_insert_6 : decode cX7_insert 6 = .ok (.getfield 21, 3) := by decide +kernel
theorem dX7_insert_9 : decode cX7_insert 9 = .ok (.if_icmp .gt 15, 3) := by decide +kernel
theorem dX7_insert_12 : decode cX7_insert 12 = .ok (.aload_n 0, 1) := by decide +kernel
theorem dX7_insert_13 : decode cX7_insert 13 = .ok (.getfield 21, 3) := by decide +kernel
theorem dX7_insert_16 : decode cX7_insert 16 = .ok (.aload_n 0, 1) := by decide +kernel
theorem dX7_insert_17 : decode cX7_insert 17 = .ok (.getfield 11, 3) := by decide +kernel
theorem dX7_insert_20 : decode cX7_insert 20 = .ok (.arraylength, 1) := by decide +kernel
theorem dX7_insert_21 : decode cX7_insert 21 = .ok (.if_icmp .lt 4, 3) := by decide +kernel
theorem dX7_insert_24 : decode cX7_insert 24 = .ok (.return_, 1) := by decide +kernel
theorem dX7_insert_25 : decode cX7_insert 25 = .ok (.aload_n 0, 1) := by decide +kernel
theorem dX7_insert_26 : decode cX7_insert 26 = .ok (.getfield 21, 3) := by decide +kernel
theorem dX7_insert_29 : decode cX7_insert 29 = .ok (.istore 4, 2) := by decide +kernel
theorem dX7_insert_31 : decode cX7_insert 31 = .ok (.iload 4, 2) := by decide +kernel
theorem dX7_insert_33 : decode cX7_insert 33 = .ok (.iload_n 1, 1) := by decide +kernel
theorem dX7_insert_34 : decode cX7_insert 34 = .ok (.if_icmp .le 41, 3) := by decide +kernel
theorem dX7_insert_37 : decode cX7_insert 37 = .ok (.aload_n 0, 1) := by decide +kernel
theorem dX7_insert_38 : decode cX7_insert 38 = .ok (.getfield 11, 3) := by decide +kernel
theorem dX7_insert_41 : decode cX7_insert 41 = .ok (.iload 4, 2) := by decide +kernel
theorem dX7_insert_43 : decode cX7_insert 43 = .ok (.aload_n 0, 1) := by decide +kernel
theorem dX7_insert_44 : decode cX7_insert 44 = .ok (.getfield 11, 3) := by decide +kernel
theorem dX7_insert_47 : decode cX7_insert 47 = .ok (.iload 4, 2) := by decide +kernel
theorem dX7_insert_49 : decode cX7_insert 49 = .ok (.iconst 1, 1) := by decide +kernel
theorem dX7_insert_50 : decode cX7_insert 50 = .ok (.isub, 1) := by decide +kernel
theorem dX7_insert_51 : decode cX7_insert 51 = .ok (.aaload, 1) := by decide +kernel
theorem dX7_insert_52 : decode cX7_insert 52 = .ok (.aastore, 1) := by decide +kernel
theorem dX7_insert_53 : decode cX7_insert 53 = .ok (.aload_n 0, 1) := by decide +kernel
theorem dX7_insert_54 : decode cX7_insert 54 = .ok (.getfield 17, 3) := by decide +kernel
theorem dX7_insert_57 : decode cX7_insert 57 = .ok (.iload 4, 2) := by decide +kernel
theorem dX7_insert_59 : decode cX7_insert 59 = .ok (.aload_n 0, 1) := by decide +kernel
theorem dX7_insert_60 : decode cX7_insert 60 = .ok (.getfield 17, 3) := by decide +kernel
theorem dX7_insert_63 : decode cX7_insert 63 = .ok (.iload 4, 2) := by decide +kernel
theorem dX7_insert_65 : decode cX7_insert 65 = .ok (.iconst 1, 1) := by decide +kernel
theorem dX7_insert_66 : decode cX7_insert 66 = .ok (.isub, 1) := by decide +kernel
theorem dX7_insert_67 : decode cX7_insert 67 = .ok (.iaload, 1) := by decide +kernel
theorem dX7_insert_68 : decode cX7_insert 68 = .ok (.iastore, 1) := by decide +kernel
theorem dX7_insert_69 : decode cX7_insert 69 = .ok (.iinc 4 (-1), 3) := by decide +kernel
theorem dX7_insert_72 : decode cX7_insert 72 = .ok (.goto (-41), 3) := by decide +kernel
theorem dX7_insert_75 : decode cX7_insert 75 = .ok (.aload_n 0, 1) := by decide +kernel
theorem dX7_insert_76 : decode cX7_insert 76 = .ok (.getfield 11, 3) := by decide +kernel
theorem dX7_insert_79 : decode cX7_insert 79 = .ok (.iload_n 1, 1) := by decide +kernel
theorem dX7_insert_80 : decode cX7_insert 80 = .ok (.aload_n 2, 1) := by decide +kernel
theorem dX7_insert_81 : decode cX7_insert 81 = .ok (.aastore, 1) := by decide +kernel
theorem dX7_insert_82 : decode cX7_insert 82 = .ok (.aload_n 0, 1) := by decide +kernel
theorem dX7_insert_83 : decode cX7_insert 83 = .ok (.getfield 17, 3) := by decide +kernel
theorem dX7_insert_86 : decode cX7_insert 86 = .ok (.iload_n 1, 1) := by decide +kernel
theorem dX7_insert_87 : decode cX7_insert 87 = .ok (.iload_n 3, 1) := by decide +kernel
theorem dX7_insert_88 : decode cX7_insert 88 = .ok (.iastore, 1) := by decide +kernel
theorem dX7_insert_89 : decode cX7_insert 89 = .ok (.aload_n 0, 1) := by decide +kernel
theorem dX7_insert_90 : decode cX7_insert 90 = .ok (.dup, 1) := by decide +kernel
theorem dX7_insert_91 : decode cX7_insert 91 = .ok (.getfield 21, 3) := by decide +kernel
theorem dX7_insert_94 : decode cX7_insert 94 = .ok (.iconst 1, 1) := by decide +kernel
theorem dX7_insert_95 : decode cX7_insert 95 = .ok (.iadd, 1) := by decide +kernel
theorem dX7_insert_96 : decode cX7_insert 96 = .ok (.putfield 21, 3) := by decide +kernel
theorem dX7_insert_99 : decode cX7_insert 99 = .ok (.return_, 1) := by decide +kernel
set_option maxRecDepth 20000 in
theorem ggX7_remove_X7_has : GoodIn wsX7_remove wsX7_has := goodIn_r _ [8, 1, 9, 10, 11, 12] (by decide +kernel) (by decide +kernel)
set_option maxRecDepth 20000 in
theorem gX7_remove_X7_has : GoodIn wsX7_remove (wsV RX7 28 RX7 yX7_has wsX7_has) := goodIn_app (goodIn_of _ (by decide +kernel)) ggX7_remove_X7_has
theorem dX7_remove_0 : decode cX7_remove 0 = .ok (.aload_n 0, 1) := by decide +kernel
theorem dX7_remove_1 : decode cX7_remove 1 = .ok (.iload_n 1, 1) := by decide +kernel
theorem dX7_remove_2 : decode cX7_remove 2 = .ok (.invokevirtual 28, 3) := by decide +kernel
theorem dX7_remove_5 : decode cX7_remove 5 = .ok (.ifCond .ne 4, 3) := by decide +kernel
theorem dX7_remove_8 : decode cX7_remove 8 = .ok (.return_, 1) := by decide +kernel
theorem dX7_remove_9 : decode cX7_remove 9 = .ok (.iload_n 1, 1) := by decide +kernel
theorem dX7_remove_10 : decode cX7_remove 10 = .ok (.istore_n 2, 1) := by decide +kernel
theorem dX7_remove_11 : decode cX7_remove 11 = .ok (.iload_n 2, 1) := by decide +kernel
theorem dX7_remove_12 : decode cX7_remove 12 = .ok (.aload_n 0, 1) := by decide +kernel
theorem dX7_remove_13 : decode cX7_remove 13 = .ok (.getfield 21, 3) := by decide +kernel
theorem dX7_remove_16 : decode cX7_remove 16 = .ok (.iconst 1, 1) := by decide +kernel
theorem dX7_remove_17 : decode cX7_remove 17 = .ok (.isub, 1) := by decide +kernel
theorem dX7_remove_18 : decode cX7_remove 18 = .ok (.if_icmp .ge 37, 3) := by decide +kernel
theorem dX7_remove_21 : decode cX7_remove 21 = .ok (.aload_n 0, 1) := by decide +kernel
theorem dX7_remove_22 : decode cX7_remove 22 = .ok (.getfield 11, 3) := by decide +kernel
theorem dX7_remove_25 : decode cX7_remove 25 = .ok (.iload_n 2, 1) := by decide +kernel
theorem dX7_remove_26 : decode cX7_remove 26 = .ok (.aload_n 0, 1) := by decide +kernel
theorem dX7_remove_27 : decode cX7_remove 27 = .ok (.getfield 11, 3) := by decide +kernel
theorem dX7_remove_30 : decode cX7_remove 30 = .ok (.iload_n 2, 1) := by decide +kernel
theorem dX7_remove_31 : decode cX7_remove 31 = .ok (.iconst 1, 1) := by decide +kernel
theorem dX7_remove_32 : decode cX7_remove 32 = .ok (.iadd, 1) := by decide +kernel
theorem dX7_remove_33 : decode cX7_remove 33 = .ok (.aaload, 1) := by decide +kernel
theorem dX7_remove_34 : decode cX7_remove 34 = .ok (.aastore, 1) := by decide +kernel
theorem dX7_remove_35 : decode cX7_remove 35 = .ok (.aload_n 0, 1) := by decide +kernel
theorem dX7_remove_36 : decode cX7_remove 36 = .ok (.getfield 17, 3) := by decide +kernel
theorem dX7_remove_39 : decode cX7_remove 39 = .ok (.iload_n 2, 1) := by decide +kernel
theorem dX7_remove_40 : decode cX7_remove 40 = .ok (.aload_n 0, 1) := by decide +kernel
theorem dX7_remove_41 : decode cX7_remove 41 = .ok (.getfield 17, 3) := by decide +kernel
theorem dX7_remove_44 : decode cX7_remove 44 = .ok (.iload_n 2, 1) := by decide +kernel
theorem dX7_remove_45 : decode cX7_remove 45 = .ok (.iconst 1, 1) := by decide +kernel
theorem dX7_remove_46 : decode cX7_remove 46 = .ok (.iadd, 1) := by decide +kernel
theorem dX7_remove_47 : decode cX7_remove 47 = .ok (.iaload, 1) := by decide +kernel
theorem dX7_remove_48 : decode cX7_remove 48 = .ok (.iastore, 1) := by decide +kernel
theorem dX7_remove_49 : decode cX7_remove 49 = .ok (.iinc 2 1, 3) := by decide +kernel
theorem dX7_remove_52 : decode cX7_remove 52 = .ok (.goto (-41), 3) := by decide +kernel
theorem dX7_remove_55 : decode cX7_remove 55 = .ok (.aload_n 0, 1) := by decide +kernel
theorem dX7_remove_56 : decode cX7_remove 56 = .ok (.dup, 1) := by decide +kernel
theorem dX7_remove_57 : decode cX7_remove 57 = .ok (.getfield 21, 3) := by decide +kernel
theorem dX7_remove_60 : decode cX7_remove 60 = .ok (.iconst 1, 1) := by decide +kernel
theorem dX7_remove_61 : decode cX7_remove 61 = .ok (.isub, 1) := by decide +kernel
theorem dX7_remove_62 : decode cX7_remove 62 = .ok (.putfield 21, 3) := by decide +kernel
theorem dX7_remove_65 : decode cX7_remove 65 = .ok (.return_, 1) := by decide +kernel
theorem dX8_init_0 : decode cX8_init 0 = .ok (.aload_n 0, 1) := by decide +kernel
theorem dX8_init_1 : decode cX8_init 1 = .ok (.invokespecial 3, 3) := by decide +kernel
theorem dX8_init_4 : decode cX8_init 4 = .ok (.aload_n 0, 1) := by decide +kernel
theorem dX8_init_5 : decode cX8_init 5 = .ok (.iconst 0, 1) := by decide +kernel
theorem dX8_init_6 : decode cX8_init 6 = .ok (.newarray .int, 2) := by decide +kernel
theorem dX8_init_8 : decode cX8_init 8 = .ok (.putfield 9, 3) := by decide +kernel
theorem dX8_init_11 : decode cX8_init 11 = .ok (.return_, 1) := by decide +kernel
theorem dX8_open_0 : decode cX8_open 0 = .ok (.aload_n 0, 1) := by decide +kernel
theorem dX8_open_1 : decode cX8_open 1 = .ok (.aload_n 1, 1) := by decide +kernel
theorem dX8_open_2 : decode cX8_open 2 = .ok (.putfield 9, 3) := by decide +kernel
theorem dX8_open_5 : decode cX8_open 5 = .ok (.aload_n 0, 1) := by decide +kernel
theorem dX8_open_6 : decode cX8_open 6 = .ok (.iload_n 2, 1) := by decide +kernel
theorem dX8_open_7 : decode cX8_open 7 = .ok (.aload_n 1, 1) := by decide +kernel
theorem dX8_open_8 : decode cX8_open 8 = .ok (.arraylength, 1) := by decide +kernel
theorem dX8_open_9 : decode cX8_open 9 = .ok (.invokestatic 15, 3) := by decide +kernel
theorem dX8_open_12 : decode cX8_open 12 = .ok (.putfield 21, 3) := by decide +kernel
theorem dX8_open_15 : decode cX8_open 15 = .ok (.aload_n 0, 1) := by decide +kernel
theorem dX8_open_16 : decode cX8_open 16 = .ok (.iconst 0, 1) := by decide +kernel
theorem dX8_open_17 : decode cX8_open 17 = .ok (.putfield 25, 3) := by decide +kernel
theorem dX8_open_20 : decode cX8_open 20 = .ok (.return_, 1) := by decide +kernel
theorem dX8_statements_0 : decode cX8_statements 0 = .ok (.aload_n 0, 1) := by decide +kernel
theorem dX8_statements_1 : decode cX8_statements 1 = .ok (.getfield 25, 3) := by decide +kernel
theorem dX8_statements_4 : decode cX8_statements 4 = .ok (.ireturn, 1) := by decide +kernel
set_option maxRecDepth 20000 in
theorem ggX8_brokenPlace_X8_endOf : GoodIn wsX8_brokenPlace wsX8_endOf := goodIn_r _ [6, 7, 8, 9, 5, 10, 1, 11, 12, 13, 14, 15, 16, 17, 18, 19, 20, 21, 22, 23, 27, 28, 29] (by decide +kernel) (by decide +kernel)
set_option maxRecDepth 20000 in
theorem gX8_brokenPlace_X8_endOf : GoodIn wsX8_brokenPlace (wsV RX8 28 RX8 yX8_endOf wsX8_endOf) := goodIn_app (goodIn_of _ (by decide +kernel)) ggX8_brokenPlace_X8_endOf
set_option maxRecDepth 20000 in
theorem ggX8_brokenPlace_X8_byteAt : GoodIn wsX8_brokenPlace wsX8_byteAt := goodIn_r _ [10, 1, 11, 27, 28, 29] (by decide +kernel) (by decide +kernel)
set_option maxRecDepth 20000 in
theorem gX8_brokenPlace_X8_byteAt : GoodIn wsX8_brokenPlace (wsV RX8 32 RX8 yX8_byteAt wsX8_byteAt) := goodIn_app (goodIn_of _ (by decide +kernel)) ggX8_brokenPlace_X8_byteAt
set_option maxRecDepth 20000 in
theorem ggX8_brokenPlace_X8_fewestDigits : GoodIn wsX8_brokenPlace wsX8_fewestDigits := goodIn_r _ [26, 15, 16, 5, 17, 18, 19, 20] (by decide +kernel) (by decide +kernel)
set_option maxRecDepth 20000 in
theorem gX8_brokenPlace_X8_fewestDigits : GoodIn wsX8_brokenPlace (va_wsS RX8 35 yX8_fewestDigits wsX8_fewestDigits) := goodIn_app (goodIn_of _ (by decide +kernel)) ggX8_brokenPlace_X8_fewestDigits
theorem dX8_brokenPlace_0 : decode cX8_brokenPlace 0 = .ok (.aload_n 0, 1) := by decide +kernel
theorem dX8_brokenPlace_1 : decode cX8_brokenPlace 1 = .ok (.getfield 21, 3) := by decide +kernel
theorem dX8_brokenPlace_4 : decode cX8_brokenPlace 4 = .ok (.ifCond .ne 5, 3) := by decide +kernel
theorem dX8_brokenPlace_7 : decode cX8_brokenPlace 7 = .ok (.iconst 0, 1) := by decide +kernel
theorem dX8_brokenPlace_8 : decode cX8_brokenPlace 8 = .ok (.ireturn, 1) := by decide +kernel
theorem dX8_brokenPlace_9 : decode cX8_brokenPlace 9 = .ok (.iconst 0, 1) := by decide +kernel
theorem dX8_brokenPlace_10 : decode cX8_brokenPlace 10 = .ok (.istore_n 1, 1) := by decide +kernel
theorem dX8_brokenPlace_11 : decode cX8_brokenPlace 11 = .ok (.iconst 0, 1) := by decide +kernel
theorem dX8_brokenPlace_12 : decode cX8_brokenPlace 12 = .ok (.istore_n 2, 1) := by decide +kernel
theorem dX8_brokenPlace_13 : decode cX8_brokenPlace 13 = .ok (.iload_n 2, 1) := by decide +kernel
theorem dX8_brokenPlace_14 : decode cX8_brokenPlace 14 = .ok (.aload_n 0, 1) := by decide +kernel
theorem dX8_brokenPlace_15 : decode cX8_brokenPlace 15 = .ok (.getfield 21, 3) := by decide +kernel
theorem dX8_brokenPlace_18 : decode cX8_brokenPlace 18 = .ok (.if_icmp .ge 55, 3) := by decide +kernel
theorem dX8_brokenPlace_21 : decode cX8_brokenPlace 21 = .ok (.iload_n 1, 1) := by decide +kernel
theorem dX8_brokenPlace_22 : decode cX8_brokenPlace 22 = .ok (.aload_n 0, 1) := by decide +kernel
theorem dX8_brokenPlace_23 : decode cX8_brokenPlace 23 = .ok (.getfield 21, 3) := by decide +kernel
theorem dX8_brokenPlace_26 : decode cX8_brokenPlace 26 = .ok (.if_icmp .ge 47, 3) := by decide +kernel
theorem dX8_brokenPlace_29 : decode cX8_brokenPlace 29 = .ok (.aload_n 0, 1) := by decide +kernel
theorem dX8_brokenPlace_30 : decode cX8_brokenPlace 30 = .ok (.iload_n 1, 1) := by decide +kernel
theorem dX8_brokenPlace_31 : decode cX8_brokenPlace 31 = .ok (.invokevirtual 28, 3) := by decide +kernel
theorem dX8_brokenPlace_34 : decode cX8_brokenPlace 34 = .ok (.istore_n 3, 1) := by decide +kernel
theorem dX8_brokenPlace_35 : decode cX8_brokenPlace 35 = .ok (.aload_n 0, 1) := by decide +kernel
theorem dX8_brokenPlace_36 : decode cX8_brokenPlace 36 = .ok (.iload_n 3, 1) := by decide +kernel
theorem dX8_brokenPlace_37 : decode cX8_brokenPlace 37 = .ok (.invokevirtual 32, 3) := by decide +kernel
theorem dX8_brokenPlace_40 : decode cX8_brokenPlace 40 = .ok (.bipush 59, 2) := by decide +kernel
theorem dX8_brokenPlace_42 : decode cX8_brokenPlace 42 = .ok (.if_icmp .ne 19, 3) := by decide +kernel
theorem dX8_brokenPlace_45 : decode cX8_brokenPlace 45 = .ok (.iload_n 3, 1) := by decide +kernel
theorem dX8_brokenPlace_46 : decode cX8_brokenPlace 46 = .ok (.iload_n 1, 1) := by decide +kernel
theorem dX8_brokenPlace_47 : decode cX8_brokenPlace 47 = .ok (.iconst 1, 1) := by decide +kernel
theorem dX8_brokenPlace_48 : decode cX8_brokenPlace 48 = .ok (.iadd, 1) := by decide +kernel
theorem dX8_brokenPlace_49 : decode cX8_brokenPlace 49 = .ok (.aload_n 0, 1) := by decide +kernel
theorem dX8_brokenPlace_50 : decode cX8_brokenPlace 50 = .ok (.iload_n 1, 1) := by decide +kernel
theorem dX8_brokenPlace_51 : decode cX8_brokenPlace 51 = .ok (.invokevirtual 32, 3) := by decide +kernel
theorem dX8_brokenPlace_54 : decode cX8_brokenPlace 54 = .ok (.invokestatic 35, 3) := by decide +kernel
theorem dX8_brokenPlace_57 : decode cX8_brokenPlace 57 = .ok (.iadd, 1) := by decide +kernel
theorem dX8_brokenPlace_58 : decode cX8_brokenPlace 58 = .ok (.if_icmp .ge 5, 3) := by decide +kernel
theorem dX8_brokenPlace_61 : decode cX8_brokenPlace 61 = .ok (.iload_n 3, 1) := by decide +kernel
theorem dX8_brokenPlace_62 : decode cX8_brokenPlace 62 = .ok (.ireturn, 1) := by decide +kernel
theorem dX8_brokenPlace_63 : decode cX8_brokenPlace 63 = .ok (.iload_n 3, 1) := by decide +kernel
theorem dX8_brokenPlace_64 : decode cX8_brokenPlace 64 = .ok (.iconst 1, 1) := by decide +kernel
theorem dX8_brokenPlace_65 : decode cX8_brokenPlace 65 = .ok (.iadd, 1) := by decide +kernel
theorem dX8_brokenPlace_66 : decode cX8_brokenPlace 66 = .ok (.istore_n 1, 1) := by decide +kernel
theorem dX8_brokenPlace_67 : decode cX8_brokenPlace 67 = .ok (.iinc 2 1, 3) := by decide +kernel
theorem dX8_brokenPlace_70 : decode cX8_brokenPlace 70 = .ok (.goto (-57), 3) := by decide +kernel
theorem dX8_brokenPlace_73 : decode cX8_brokenPlace 73 = .ok (.iconst (-1), 1) := by decide +kernel
theorem dX8_brokenPlace_74 : decode cX8_brokenPlace 74 = .ok (.ireturn, 1) := by decide +kernel
set_option maxRecDepth 20000 in
theorem ggX8_wrongPlace_X8_isDone : GoodIn wsX8_wrongPlace wsX8_isDone := goodIn_r _ [7, 8, 9, 10, 6, 11, 12, 13, 14, 15, 1, 16, 17, 18, 19, 20, 21, 22, 23, 24, 25, 26, 27, 28, 29, 30, 31, 32, 33, 34, 35, 36, 37, 38, 39, 40, 41, 42, 43, 44, 45, 46, 47, 48, 49, 50, 51, 52, 53, 54, 55, 56, 57, 58, 59, 60, 61, 62, 63, 64, 65, 66, 67, 68, 69, 70, 71, 72, 73, 74, 75, 76, 77, 78, 79, 80, 81, 82, 83, 84, 85, 86, 87, 88, 89, 90, 91, 92, 93, 94, 95, 96, 97, 98, 99, 100, 101, 102, 103, 104, 105, 106, 107, 108, 109, 110, 111, 112, 113, 114, 115, 116, 117, 118, 119, 120, 121, 122, 123, 124, 125, 126, 127, 128, 129, 130, 144, 145, 146, 147, 148, 149, 150, 151, 152, 153, 154, 155, 156, 157, 158] (by decide +kernel) (by decide +kernel)
set_option maxRecDepth 20000 in
theorem gX8_wrongPlace_X8_isDone : GoodIn wsX8_wrongPlace (wsV RX8 38 RX8 yX8_isDone wsX8_isDone) := goodIn_app (goodIn_of _ (by decide +kernel)) ggX8_wrongPlace_X8_isDone
set_option maxRecDepth 20000 in
theorem ggX8_wrongPlace_X8_endOf : GoodIn wsX8_wrongPlace wsX8_endOf := goodIn_r _ [134, 12, 13, 14, 6, 15, 1, 16, 135, 136, 137, 138, 139, 140, 141, 142, 143, 21, 22, 23, 144, 145, 146] (by decide +kernel) (by decide +kernel)
set_option maxRecDepth 20000 in
theorem gX8_wrongPlace_X8_endOf : GoodIn wsX8_wrongPlace (wsV RX8 28 RX8 yX8_endOf wsX8_endOf) := goodIn_app (goodIn_of _ (by decide +kernel)) ggX8_wrongPlace_X8_endOf
theorem dX8_wrongPlace_0 : decode cX8_wrongPlace 0 = .ok (.iconst 0, 1) := by decide +kernel
theorem dX8_wrongPlace_1 : decode cX8_wrongPlace 1 = .ok (.istore_n 2, 1) := by decide +kernel
theorem dX8_wrongPlace_2 : decode cX8_wrongPlace 2 = .ok (.iconst 0, 1) := by decide +kernel
theorem dX8_wrongPlace_3 : decode cX8_wrongPlace 3 = .ok (.istore_n 3, 1) := by decide +kernel
theorem dX8_wrongPlace_4 : decode cX8_wrongPlace 4 = .ok (.iload_n 3, 1) := by decide +kernel
theorem dX8_wrongPlace_5 : decode cX8_wrongPlace 5 = .ok (.aload_n 0, 1) := by decide +kernel
theorem dX8_wrongPlace_6 : decode cX8_wrongPlace 6 = .ok (.getfield 21, 3) := by decide +kernel
theorem dX8_wrongPlace_9 : decode cX8_wrongPlace 9 = .ok (.if_icmp .ge 46, 3) := by decide +kernel
theorem dX8_wrongPlace_12 : decode cX8_wrongPlace 12 = .ok (.iload_n 2, 1) := by decide +kernel
theorem dX8_wrongPlace_13 : decode cX8_wrongPlace 13 = .ok (.aload_n 0, 1) := by decide +kernel
theorem dX8_wrongPlace_14 : decode cX8_wrongPlace 14 = .ok (.getfield 21, 3) := by decide +kernel
theorem dX8_wrongPlace_17 : decode cX8_wrongPlace 17 = .ok (.if_icmp .ge 38, 3) := by decide +kernel
theorem dX8_wrongPlace_20 : decode cX8_wrongPlace 20 = .ok (.aload_n 0, 1) := by decide +kernel
theorem dX8_wrongPlace_21 : decode cX8_wrongPlace 21 = .ok (.iload_n 2, 1) := by decide +kernel
theorem dX8_wrongPlace_22 : decode cX8_wrongPlace 22 = .ok (.aload_n 1, 1) := by decide +kernel
theorem dX8_wrongPlace_23 : decode cX8_wrongPlace 23 = .ok (.invokevirtual 38, 3) := by decide +kernel
theorem dX8_wrongPlace_26 : decode cX8_wrongPlace 26 = .ok (.ifCond .ne 5, 3) := by decide +kernel
theorem dX8_wrongPlace_29 : decode cX8_wrongPlace 29 = .ok (.iload_n 2, 1) := by decide +kernel
theorem dX8_wrongPlace_30 : decode cX8_wrongPlace 30 = .ok (.ireturn, 1) := by decide +kernel
theorem dX8_wrongPlace_31 : decode cX8_wrongPlace 31 = .ok (.aload_n 0, 1) := by decide +kernel
theorem dX8_wrongPlace_32 : decode cX8_wrongPlace 32 = .ok (.dup, 1) := by decide +kernel
theorem dX8_wrongPlace_33 : decode cX8_wrongPlace 33 = .ok (.getfield 25, 3) := by decide +kernel
theorem dX8_wrongPlace_36 : decode cX8_wrongPlace 36 = .ok (.iconst 1, 1) := by decide +kernel
theorem dX8_wrongPlace_37 : decode cX8_wrongPlace 37 = .ok (.iadd, 1) := by decide +kernel
theorem dX8_wrongPlace_38 : decode cX8_wrongPlace 38 = .ok (.putfield 25, 3) := by decide +kernel
theorem dX8_wrongPlace_41 : decode cX8_wrongPlace 41 = .ok (.aload_n 0, 1) := by decide +kernel
theorem dX8_wrongPlace_42 : decode cX8_wrongPlace 42 = .ok (.iload_n 2, 1) := by decide +kernel
theorem dX8_wrongPlace_43 : decode cX8_wrongPlace 43 = .ok (.invokevirtual 28, 3) := by decide +kernel
theorem dX8_wrongPlace_46 : decode cX8_wrongPlace 46 = .ok (.iconst 1, 1) := by decide +kernel
theorem dX8_wrongPlace_47 : decode cX8_wrongPlace 47 = .ok (.iadd, 1) := by decide +kernel
theorem dX8_wrongPlace_48 : decode cX8_wrongPlace 48 = .ok (.istore_n 2, 1) := by decide +kernel
theorem dX8_wrongPlace_49 : decode cX8_wrongPlace 49 = .ok (.iinc 3 1, 3) := by decide +kernel
theorem dX8_wrongPlace_52 : decode cX8_wrongPlace 52 = .ok (.goto (-48), 3) := by decide +kernel
theorem dX8_wrongPlace_55 : decode cX8_wrongPlace 55 = .ok (.iconst (-1), 1) := by decide +kernel
theorem dX8_wrongPlace_56 : decode cX8_wrongPlace 56 = .ok (.ireturn, 1) := by decide +kernel
set_option maxRecDepth 20000 in
theorem ggX8_endOf_X8_byteAt : GoodIn wsX8_endOf wsX8_byteAt := goodIn_r _ [5, 6, 7, 20, 21, 22] (by decide +kernel) (by decide +kernel)
set_option maxRecDepth 20000 in
theorem gX8_endOf_X8_byteAt : GoodIn wsX8_endOf (wsV RX8 32 RX8 yX8_byteAt wsX8_byteAt) := goodIn_app (goodIn_of _ (by decide +kernel)) ggX8_endOf_X8_byteAt
set_option maxRecDepth 20000 in
theorem ggX8_endOf_X8_isLetter : GoodIn wsX8_endOf wsX8_isLetter := goodIn_r _ [10] (by decide +kernel) (by decide +kernel)
set_option maxRecDepth 20000 in
theorem gX8_endOf_X8_isLetter : GoodIn wsX8_endOf (va_wsS RX8 42 yX8_isLetter wsX8_isLetter) := goodIn_app (goodIn_of _ (by decide +kernel)) ggX8_endOf_X8_isLetter
set_option maxRecDepth 20000 in
theorem ggX8_endOf_X8_hasNumber : GoodIn wsX8_endOf wsX8_hasNumber := goodIn_r _ [13] (by decide +kernel) (by decide +kernel)
set_option maxRecDepth 20000 in
theorem gX8_endOf_X8_hasNumber : GoodIn wsX8_endOf (va_wsS RX8 46 yX8_hasNumber wsX8_hasNumber) := goodIn_app (goodIn_of _ (by decide +kernel)) ggX8_endOf_X8_hasNumber
set_option maxRecDepth 20000 in
theorem ggX8_endOf_X8_singleDigits : GoodIn wsX8_endOf wsX8_singleDigits := goodIn_r _ [16] (by decide +kernel) (by decide +kernel)
set_option maxRecDepth 20000 in
theorem gX8_endOf_X8_singleDigits : GoodIn wsX8_endOf (va_wsS RX8 49 yX8_singleDigits wsX8_singleDigits) := goodIn_app (goodIn_of _ (by decide +kernel)) ggX8_endOf_X8_singleDigits
set_option maxRecDepth 20000 in
theorem ggX8_endOf_X8_isDigit : GoodIn wsX8_endOf wsX8_isDigit := goodIn_r _ [19] (by decide +kernel) (by decide +kernel)
set_option maxRecDepth 20000 in
theorem gX8_endOf_X8_isDigit : GoodIn wsX8_endOf (va_wsS RX8 52 yX8_isDigit wsX8_isDigit) := goodIn_app (goodIn_of _ (by decide +kernel)) ggX8_endOf_X8_isDigit
theorem dX8_endOf_0 : decode cX8_endOf 0 = .ok (.aload_n 0, 1) := by decide +kernel
theorem dX8_endOf_1 : decode cX8_endOf 1 = .ok (.iload_n 1, 1) := by decide +kernel
theorem dX8_endOf_2 : decode cX8_endOf 2 = .ok (.invokevirtual 32, 3) := by decide +kernel
theorem dX8_endOf_5 : decode cX8_endOf 5 = .ok (.istore_n 2, 1) := by decide +kernel
theorem dX8_endOf_6 : decode cX8_endOf 6 = .ok (.iload_n 2, 1) := by decide +kernel
theorem dX8_endOf_7 : decode cX8_endOf 7 = .ok (.invokestatic 42, 3) := by decide +kernel
theorem dX8_endOf_10 : decode cX8_endOf 10 = .ok (.ifCond .ne 5, 3) := by decide +kernel
theorem dX8_endOf_13 : decode cX8_endOf 13 = .ok (.iload_n 1, 1) := by decide +kernel
theorem dX8_endOf_14 : decode cX8_endOf 14 = .ok (.ireturn, 1) := by decide +kernel
theorem dX8_endOf_15 : decode cX8_endOf 15 = .ok (.iload_n 2, 1) := by decide +kernel
theorem dX8_endOf_16 : decode cX8_endOf 16 = .ok (.invokestatic 46, 3) := by decide +kernel
theorem dX8_endOf_19 : decode cX8_endOf 19 = .ok (.ifCond .eq 12, 3) := by decide +kernel
theorem dX8_endOf_22 : decode cX8_endOf 22 = .ok (.iload_n 2, 1) := by decide +kernel
theorem dX8_endOf_23 : decode cX8_endOf 23 = .ok (.invokestatic 49, 3) := by decide +kernel
theorem dX8_endOf_26 : decode cX8_endOf 26 = .ok (.iconst 4, 1) := by decide +kernel
theorem dX8_endOf_27 : decode cX8_endOf 27 = .ok (.iadd, 1) := by decide +kernel
theorem dX8_endOf_28 : decode cX8_endOf 28 = .ok (.goto 7, 3) := by decide +kernel
theorem dX8_endOf_31 : decode cX8_endOf 31 = .ok (.iload_n 2, 1) := by decide +kernel
theorem dX8_endOf_32 : decode cX8_endOf 32 = .ok (.invokestatic 49, 3) := by decide +kernel
theorem dX8_endOf_35 : decode cX8_endOf 35 = .ok (.istore_n 3, 1) := by decide +kernel
theorem dX8_endOf_36 : decode cX8_endOf 36 = .ok (.iconst 0, 1) := by decide +kernel
theorem dX8_endOf_37 : decode cX8_endOf 37 = .ok (.istore 4, 2) := by decide +kernel
theorem dX8_endOf_39 : decode cX8_endOf 39 = .ok (.iload 4, 2) := by decide +kernel
theorem dX8_endOf_41 : decode cX8_endOf 41 = .ok (.iload_n 3, 1) := by decide +kernel
theorem dX8_endOf_42 : decode cX8_endOf 42 = .ok (.if_icmp .ge 25, 3) := by decide +kernel
theorem dX8_endOf_45 : decode cX8_endOf 45 = .ok (.aload_n 0, 1) := by decide +kernel
theorem dX8_endOf_46 : decode cX8_endOf 46 = .ok (.iload_n 1, 1) := by decide +kernel
theorem dX8_endOf_47 : decode cX8_endOf 47 = .ok (.iconst 1, 1) := by decide +kernel
theorem dX8_endOf_48 : decode cX8_endOf 48 = .ok (.iadd, 1) := by decide +kernel
theorem dX8_endOf_49 : decode cX8_endOf 49 = .ok (.iload 4, 2) := by decide +kernel
theorem dX8_endOf_51 : decode cX8_endOf 51 = .ok (.iadd, 1) := by decide +kernel
theorem dX8_endOf_52 : decode cX8_endOf 52 = .ok (.invokevirtual 32, 3) := by decide +kernel
theorem dX8_endOf_55 : decode cX8_endOf 55 = .ok (.invokestatic 52, 3) := by decide +kernel
theorem dX8_endOf_58 : decode cX8_endOf 58 = .ok (.ifCond .eq 9, 3) := by decide +kernel
theorem dX8_endOf_61 : decode cX8_endOf 61 = .ok (.iinc 4 1, 3) := by decide +kernel
theorem dX8_endOf_64 : decode cX8_endOf 64 = .ok (.goto (-25), 3) := by decide +kernel
theorem dX8_endOf_67 : decode cX8_endOf 67 = .ok (.iload_n 1, 1) := by decide +kernel
theorem dX8_endOf_68 : decode cX8_endOf 68 = .ok (.iconst 1, 1) := by decide +kernel
theorem dX8_endOf_69 : decode cX8_endOf 69 = .ok (.iadd, 1) := by decide +kernel
theorem dX8_endOf_70 : decode cX8_endOf 70 = .ok (.iload 4, 2) := by decide +kernel
theorem dX8_endOf_72 : decode cX8_endOf 72 = .ok (.iadd, 1) := by decide +kernel
theorem dX8_endOf_73 : decode cX8_endOf 73 = .ok (.ireturn, 1) := by decide +kernel
set_option maxRecDepth 20000 in
theorem ggX8_fewestDigits_X8_hasNumber : GoodIn wsX8_fewestDigits wsX8_hasNumber := goodIn_r _ [4] (by decide +kernel) (by decide +kernel)
set_option maxRecDepth 20000 in
theorem gX8_fewestDigits_X8_hasNumber : GoodIn wsX8_fewestDigits (va_wsS RX8 46 yX8_hasNumber wsX8_hasNumber) := goodIn_app (goodIn_of _ (by decide +kernel)) ggX8_fewestDigits_X8_hasNumber
set_option maxRecDepth 20000 in
theorem ggX8_fewestDigits_X8_singleDigits : GoodIn wsX8_fewestDigits wsX8_singleDigits := goodIn_r _ [7] (by decide +kernel) (by decide +kernel)
set_option maxRecDepth 20000 in
theorem gX8_fewestDigits_X8_singleDigits : GoodIn wsX8_fewestDigits (va_wsS RX8 49 yX8_singleDigits wsX8_singleDigits) := goodIn_app (goodIn_of _ (by decide +kernel)) ggX8_fewestDigits_X8_singleDigits
theorem dX8_fewestDigits_0 : decode cX8_fewestDigits 0 = .ok (.iload_n 0, 1) := by decide +kernel
theorem dX8_fewestDigits_1 : decode cX8_fewestDigits 1 = .ok (.invokestatic 46, 3) := by decide +kernel
theorem dX8_fewestDigits_4 : decode cX8_fewestDigits 4 = .ok (.ifCond .eq 12, 3) := by decide +kernel
theorem dX8_fewestDigits_7 : decode cX8_fewestDigits 7 = .ok (.iload_n 0, 1) := by decide +kernel
theorem dX8_fewestDigits_8 : decode cX8_fewestDigits 8 = .ok (.invokestatic 49, 3) := by decide +kernel
theorem dX8_fewestDigits_11 : decode cX8_fewestDigits 11 = .ok (.iconst 1, 1) := by decide +kernel
theorem dX8_fewestDigits_12 : decode cX8_fewestDigits 12 = .ok (.iadd, 1) := by decide +kernel
theorem dX8_fewestDigits_13 : decode cX8_fewestDigits 13 = .ok (.goto 7, 3) := by decide +kernel
theorem dX8_fewestDigits_16 : decode cX8_fewestDigits 16 = .ok (.iload_n 0, 1) := by decide +kernel
theorem dX8_fewestDigits_17 : decode cX8_fewestDigits 17 = .ok (.invokestatic 49, 3) := by decide +kernel
theorem dX8_fewestDigits_20 : decode cX8_fewestDigits 20 = .ok (.ireturn, 1) := by decide +kernel
theorem dX8_singleDigits_0 : decode cX8_singleDigits 0 = .ok (.iload_n 0, 1) := by decide +kernel
theorem dX8_singleDigits_1 : decode cX8_singleDigits 1 = .ok (.lookupswitch 47 #[(103, 43), (104, 43), (109, 43), (114, 45)], 43) := by decide +kernel
theorem dX8_singleDigits_44 : decode cX8_singleDigits 44 = .ok (.iconst 2, 1) := by decide +kernel
theorem dX8_singleDigits_45 : decode cX8_singleDigits 45 = .ok (.ireturn, 1) := by decide +kernel
theorem dX8_singleDigits_46 : decode cX8_singleDigits 46 = .ok (.iconst 1, 1) := by decide +kernel
theorem dX8_singleDigits_47 : decode cX8_singleDigits 47 = .ok (.ireturn, 1) := by decide +kernel
theorem dX8_singleDigits_48 : decode cX8_singleDigits 48 = .ok (.iconst 0, 1) := by decide +kernel
theorem dX8_singleDigits_49 : decode cX8_singleDigits 49 = .ok (.ireturn, 1) := by decide +kernel
theorem dX8_isLetter_0 : decode cX8_isLetter 0 = .ok (.iload_n 0, 1) := by decide +kernel
theorem dX8_isLetter_1 : decode cX8_isLetter 1 = .ok (.bipush 104, 2) := by decide +kernel
theorem dX8_isLetter_3 : decode cX8_isLetter 3 = .ok (.if_icmp .eq 27, 3) := by decide +kernel
theorem dX8_isLetter_6 : decode cX8_isLetter 6 = .ok (.iload_n 0, 1) := by decide +kernel
theorem dX8_isLetter_7 : decode cX8_isLetter 7 = .ok (.bipush 114, 2) := by decide +kernel
theorem dX8_isLetter_9 : decode cX8_isLetter 9 = .ok (.if_icmp .eq 21, 3) := by decide +kernel
theorem dX8_isLetter_12 : decode cX8_isLetter 12 = .ok (.iload_n 0, 1) := by decide +kernel
theorem dX8_isLetter_13 : decode cX8_isLetter 13 = .ok (.bipush 103, 2) := by decide +kernel
theorem dX8_isLetter_15 : decode cX8_isLetter 15 = .ok (.if_icmp .eq 15, 3) := by decide +kernel
theorem dX8_isLetter_18 : decode cX8_isLetter 18 = .ok (.iload_n 0, 1) := by decide +kernel
theorem dX8_isLetter_19 : decode cX8_isLetter 19 = .ok (.bipush 109, 2) := by decide +kernel
theorem dX8_isLetter_21 : decode cX8_isLetter 21 = .ok (.if_icmp .eq 9, 3) := by decide +kernel
theorem dX8_isLetter_24 : decode cX8_isLetter 24 = .ok (.iload_n 0, 1) := by decide +kernel
theorem dX8_isLetter_25 : decode cX8_isLetter 25 = .ok (.bipush 117, 2) := by decide +kernel
theorem dX8_isLetter_27 : decode cX8_isLetter 27 = .ok (.if_icmp .ne 7, 3) := by decide +kernel
theorem dX8_isLetter_30 : decode cX8_isLetter 30 = .ok (.iconst 1, 1) := by decide +kernel
theorem dX8_isLetter_31 : decode cX8_isLetter 31 = .ok (.goto 4, 3) := by decide +kernel
theorem dX8_isLetter_34 : decode cX8_isLetter 34 = .ok (.iconst 0, 1) := by decide +kernel
theorem dX8_isLetter_35 : decode cX8_isLetter 35 = .ok (.ireturn, 1) := by decide +kernel
theorem dX8_hasNumber_0 : decode cX8_hasNumber 0 = .ok (.iload_n 0, 1) := by decide +kernel
theorem dX8_hasNumber_1 : decode cX8_hasNumber 1 = .ok (.bipush 104, 2) := by decide +kernel
theorem dX8_hasNumber_3 : decode cX8_hasNumber 3 = .ok (.if_icmp .eq 9, 3) := by decide +kernel
theorem dX8_hasNumber_6 : decode cX8_hasNumber 6 = .ok (.iload_n 0, 1) := by decide +kernel
theorem dX8_hasNumber_7 : decode cX8_hasNumber 7 = .ok (.bipush 103, 2) := by decide +kernel
theorem dX8_hasNumber_9 : decode cX8_hasNumber 9 = .ok (.if_icmp .ne 7, 3) := by decide +kernel
theorem dX8_hasNumber_12 : decode cX8_hasNumber 12 = .ok (.iconst 1, 1) := by decide +kernel
theorem dX8_hasNumber_13 : decode cX8_hasNumber 13 = .ok (.goto 4, 3) := by decide +kernel
theorem dX8_hasNumber_16 : decode cX8_hasNumber 16 = .ok (.iconst 0, 1) := by decide +kernel
theorem dX8_hasNumber_17 : decode cX8_hasNumber 17 = .ok (.ireturn, 1) := by decide +kernel
theorem dX8_isDigit_0 : decode cX8_isDigit 0 = .ok (.iload_n 0, 1) := by decide +kernel
theorem dX8_isDigit_1 : decode cX8_isDigit 1 = .ok (.bipush 48, 2) := by decide +kernel
theorem dX8_isDigit_3 : decode cX8_isDigit 3 = .ok (.if_icmp .lt 13, 3) := by decide +kernel
theorem dX8_isDigit_6 : decode cX8_isDigit 6 = .ok (.iload_n 0, 1) := by decide +kernel
theorem dX8_isDigit_7 : decode cX8_isDigit 7 = .ok (.bipush 57, 2) := by decide +kernel
theorem dX8_isDigit_9 : decode cX8_isDigit 9 = .ok (.if_icmp .gt 7, 3) := by decide +kernel
theorem dX8_isDigit_12 : decode cX8_isDigit 12 = .ok (.iconst 1, 1) := by decide +kernel
theorem dX8_isDigit_13 : decode cX8_isDigit 13 = .ok (.goto 4, 3) := by decide +kernel
theorem dX8_isDigit_16 : decode cX8_isDigit 16 = .ok (.iconst 0, 1) := by decide +kernel
theorem dX8_isDigit_17 : decode cX8_isDigit 17 = .ok (.ireturn, 1) := by decide +kernel
theorem dX8_byteAt_0 : decode cX8_byteAt 0 = .ok (.iload_n 1, 1) := by decide +kernel
theorem dX8_byteAt_1 : decode cX8_byteAt 1 = .ok (.ifCond .lt 20, 3) := by decide +kernel
theorem dX8_byteAt_4 : decode cX8_byteAt 4 = .ok (.iload_n 1, 1) := by decide +kernel
theorem dX8_byteAt_5 : decode cX8_byteAt 5 = .ok (.aload_n 0, 1) := by decide +kernel
theorem dX8_byteAt_6 : decode cX8_byteAt 6 = .ok (.getfield 21, 3) := by decide +kernel
theorem dX8_byteAt_9 : decode cX8_byteAt 9 = .ok (.if_icmp .ge 12, 3) := by decide +kernel
theorem dX8_byteAt_12 : decode cX8_byteAt 12 = .ok (.aload_n 0, 1) := by decide +kernel
theorem dX8_byteAt_13 : decode cX8_byteAt 13 = .ok (.getfield 9, 3) := by decide +kernel
theorem dX8_byteAt_16 : decode cX8_byteAt 16 = .ok (.iload_n 1, 1) := by decide +kernel
theorem dX8_byteAt_17 : decode cX8_byteAt 17 = .ok (.iaload, 1) := by decide +kernel
theorem dX8_byteAt_18 : decode cX8_byteAt 18 = .ok (.goto 4, 3) := by decide +kernel
theorem dX8_byteAt_21 : decode cX8_byteAt 21 = .ok (.iconst 0, 1) := by decide +kernel
theorem dX8_byteAt_22 : decode cX8_byteAt 22 = .ok (.ireturn, 1) := by decide +kernel
set_option maxRecDepth 20000 in
theorem ggX8_digitAt_X8_byteAt : GoodIn wsX8_digitAt wsX8_byteAt := goodIn_r _ [5, 6, 7, 8, 9, 10] (by decide +kernel) (by decide +kernel)
set_option maxRecDepth 20000 in
theorem gX8_digitAt_X8_byteAt : GoodIn wsX8_digitAt (wsV RX8 32 RX8 yX8_byteAt wsX8_byteAt) := goodIn_app (goodIn_of _ (by decide +kernel)) ggX8_digitAt_X8_byteAt
theorem dX8_digitAt_0 : decode cX8_digitAt 0 = .ok (.aload_n 0, 1) := by decide +kernel
theorem dX8_digitAt_1 : decode cX8_digitAt 1 = .ok (.iload_n 1, 1) := by decide +kernel
theorem dX8_digitAt_2 : decode cX8_digitAt 2 = .ok (.invokevirtual 32, 3) := by decide +kernel
theorem dX8_digitAt_5 : decode cX8_digitAt 5 = .ok (.bipush 48, 2) := by decide +kernel
theorem dX8_digitAt_7 : decode cX8_digitAt 7 = .ok (.isub, 1) := by decide +kernel
theorem dX8_digitAt_8 : decode cX8_digitAt 8 = .ok (.ireturn, 1) := by decide +kernel
set_option maxRecDepth 20000 in
theorem ggX8_numberAt_X8_byteAt : GoodIn wsX8_numberAt wsX8_byteAt := goodIn_r _ [5, 6, 7, 15, 16, 17] (by decide +kernel) (by decide +kernel)
set_option maxRecDepth 20000 in
theorem gX8_numberAt_X8_byteAt : GoodIn wsX8_numberAt (wsV RX8 32 RX8 yX8_byteAt wsX8_byteAt) := goodIn_app (goodIn_of _ (by decide +kernel)) ggX8_numberAt_X8_byteAt
set_option maxRecDepth 20000 in
theorem ggX8_numberAt_X8_isDigit : GoodIn wsX8_numberAt wsX8_isDigit := goodIn_r _ [10] (by decide +kernel) (by decide +kernel)
set_option maxRecDepth 20000 in
theorem gX8_numberAt_X8_isDigit : GoodIn wsX8_numberAt (va_wsS RX8 52 yX8_isDigit wsX8_isDigit) := goodIn_app (goodIn_of _ (by decide +kernel)) ggX8_numberAt_X8_isDigit
set_option maxRecDepth 20000 in
theorem ggX8_numberAt_X8_digitAt : GoodIn wsX8_numberAt wsX8_digitAt := goodIn_r _ [14, 1, 2, 3, 4, 5, 6, 7, 15, 16, 17] (by decide +kernel) (by decide +kernel)
set_option maxRecDepth 20000 in
theorem gX8_numberAt_X8_digitAt : GoodIn wsX8_numberAt (wsV RX8 55 RX8 yX8_digitAt wsX8_digitAt) := goodIn_app (goodIn_of _ (by decide +kernel)) ggX8_numberAt_X8_digitAt
theorem dX8_numberAt_0 : decode cX8_numberAt 0 = .ok (.iconst 0, 1) := by decide +kernel
theorem dX8_numberAt_1 : decode cX8_numberAt 1 = .ok (.istore_n 2, 1) := by decide +kernel
theorem dX8_numberAt_2 : decode cX8_numberAt 2 = .ok (.iload_n 1, 1) := by decide +kernel
theorem dX8_numberAt_3 : decode cX8_numberAt 3 = .ok (.istore_n 3, 1) := by decide +kernel
theorem dX8_numberAt_4 : decode cX8_numberAt 4 = .ok (.iload_n 3, 1) := by decide +kernel
theorem dX8_numberAt_5 : decode cX8_numberAt 5 = .ok (.iload_n 1, 1) := by decide +kernel
theorem dX8_numberAt_6 : decode cX8_numberAt 6 = .ok (.iconst 4, 1) := by decide +kernel
theorem dX8_numberAt_7 : decode cX8_numberAt 7 = .ok (.iadd, 1) := by decide +kernel
theorem dX8_numberAt_8 : decode cX8_numberAt 8 = .ok (.if_icmp .ge 31, 3) := by decide +kernel
theorem dX8_numberAt_11 : decode cX8_numberAt 11 = .ok (.aload_n 0, 1) := by decide +kernel
theorem dX8_numberAt_12 : decode cX8_numberAt 12 = .ok (.iload_n 3, 1) := by decide +kernel
theorem dX8_numberAt_13 : decode cX8_numberAt 13 = .ok (.invokevirtual 32, 3) := by decide +kernel
theorem dX8_numberAt_16 : decode cX8_numberAt 16 = .ok (.invokestatic 52, 3) := by decide +kernel
theorem dX8_numberAt_19 : decode cX8_numberAt 19 = .ok (.ifCond .eq 20, 3) := by decide +kernel
theorem dX8_numberAt_22 : decode cX8_numberAt 22 = .ok (.bipush 10, 2) := by decide +kernel
theorem dX8_numberAt_24 : decode cX8_numberAt 24 = .ok (.iload_n 2, 1) := by decide +kernel
theorem dX8_numberAt_25 : decode cX8_numberAt 25 = .ok (.imul, 1) := by decide +kernel
theorem dX8_numberAt_26 : decode cX8_numberAt 26 = .ok (.aload_n 0, 1) := by decide +kernel
theorem dX8_numberAt_27 : decode cX8_numberAt 27 = .ok (.iload_n 3, 1) := by decide +kernel
theorem dX8_numberAt_28 : decode cX8_numberAt 28 = .ok (.invokevirtual 55, 3) := by decide +kernel
theorem dX8_numberAt_31 : decode cX8_numberAt 31 = .ok (.iadd, 1) := by decide +kernel
theorem dX8_numberAt_32 : decode cX8_numberAt 32 = .ok (.istore_n 2, 1) := by decide +kernel
theorem dX8_numberAt_33 : decode cX8_numberAt 33 = .ok (.iinc 3 1, 3) := by decide +kernel
theorem dX8_numberAt_36 : decode cX8_numberAt 36 = .ok (.goto (-32), 3) := by decide +kernel
theorem dX8_numberAt_39 : decode cX8_numberAt 39 = .ok (.iload_n 2, 1) := by decide +kernel
theorem dX8_numberAt_40 : decode cX8_numberAt 40 = .ok (.ireturn, 1) := by decide +kernel
set_option maxRecDepth 20000 in
theorem ggX8_isDone_X8_digitAt : GoodIn wsX8_isDone wsX8_digitAt := goodIn_r _ [5, 6, 7, 8, 4, 9, 10, 11, 126, 127, 128] (by decide +kernel) (by decide +kernel)
set_option maxRecDepth 20000 in
theorem gX8_isDone_X8_digitAt : GoodIn wsX8_isDone (wsV RX8 55 RX8 yX8_digitAt wsX8_digitAt) := goodIn_app (goodIn_of _ (by decide +kernel)) ggX8_isDone_X8_digitAt
set_option maxRecDepth 20000 in
theorem ggX8_isDone_X8_byteAt : GoodIn wsX8_isDone wsX8_byteAt := goodIn_r _ [9, 10, 11, 126, 127, 128] (by decide +kernel) (by decide +kernel)
set_option maxRecDepth 20000 in
theorem gX8_isDone_X8_byteAt : GoodIn wsX8_isDone (wsV RX8 32 RX8 yX8_byteAt wsX8_byteAt) := goodIn_app (goodIn_of _ (by decide +kernel)) ggX8_isDone_X8_byteAt
set_option maxRecDepth 20000 in
theorem ggX8_isDone_X8_numberAt : GoodIn wsX8_isDone wsX8_numberAt := goodIn_r _ [15, 6, 7, 8, 4, 9, 10, 11, 16, 17, 18, 1, 2, 3, 5, 126, 127, 128] (by decide +kernel) (by decide +kernel)
set_option maxRecDepth 20000 in
theorem gX8_isDone_X8_numberAt : GoodIn wsX8_isDone (wsV RX8 58 RX8 yX8_numberAt wsX8_numberAt) := goodIn_app (goodIn_of _ (by decide +kernel)) ggX8_isDone_X8_numberAt
set_option maxRecDepth 20000 in
theorem ggX8_isDone_X8_comesAsTold : GoodIn wsX8_isDone wsX8_comesAsTold := goodIn_r _ [21, 22, 23, 24, 25, 26, 27, 28, 29, 30, 31, 32, 33, 34, 35, 36, 37, 38, 39, 40, 41, 42, 43, 44, 45, 46, 47, 48, 49, 50, 51, 52, 53, 54, 55, 56, 57, 58, 59, 60, 61, 62, 63, 64, 65, 66, 67, 68, 69, 70, 71, 72, 73, 74, 75, 76, 77, 78, 79, 80, 81, 82, 83, 84, 85, 86, 87, 88, 89, 90, 91, 92, 93, 94, 129, 130, 131, 132, 133, 134, 135, 136, 137, 138, 139, 140] (by decide +kernel) (by decide +kernel)
set_option maxRecDepth 20000 in
theorem gX8_isDone_X8_comesAsTold : GoodIn wsX8_isDone (va_wsS RX8 61 yX8_comesAsTold wsX8_comesAsTold) := goodIn_app (goodIn_of _ (by decide +kernel)) ggX8_isDone_X8_comesAsTold
set_option maxRecDepth 20000 in
theorem ggX8_isDone_X8_turnsAsTold : GoodIn wsX8_isDone wsX8_turnsAsTold := goodIn_r _ [97, 98, 129, 130, 131, 132] (by decide +kernel) (by decide +kernel)
set_option maxRecDepth 20000 in
theorem gX8_isDone_X8_turnsAsTold : GoodIn wsX8_isDone (va_wsS RX8 65 yX8_turnsAsTold wsX8_turnsAsTold) := goodIn_app (goodIn_of _ (by decide +kernel)) ggX8_isDone_X8_turnsAsTold
set_option maxRecDepth 20000 in
theorem ggX8_isDone_X7_gift : GoodIn wsX8_isDone wsX7_gift := goodIn_r _ [102, 94, 103, 104, 105, 90, 106, 107, 108, 109, 110, 92, 129, 130, 131, 132] (by decide +kernel) (by decide +kernel)
set_option maxRecDepth 20000 in
theorem gX8_isDone_X7_gift : GoodIn wsX8_isDone (wsV RX8 69 RX7 yX7_gift wsX7_gift) := goodIn_app (goodIn_of _ (by decide +kernel)) ggX8_isDone_X7_gift
set_option maxRecDepth 20000 in
theorem ggX8_isDone_X8_movesAsTold : GoodIn wsX8_isDone wsX8_movesAsTold := goodIn_r _ [113, 114, 104, 105, 90, 106, 107, 108, 109, 110, 92, 115, 116, 117, 118, 93, 94, 129, 130, 131, 132] (by decide +kernel) (by decide +kernel)
set_option maxRecDepth 20000 in
theorem gX8_isDone_X8_movesAsTold : GoodIn wsX8_isDone (va_wsS RX8 75 yX8_movesAsTold wsX8_movesAsTold) := goodIn_app (goodIn_of _ (by decide +kernel)) ggX8_isDone_X8_movesAsTold
set_option maxRecDepth 20000 in
theorem ggX8_isDone_X8_leavesAsTold : GoodIn wsX8_isDone wsX8_leavesAsTold := goodIn_r _ [121, 22, 122, 123, 124, 90, 125, 92, 93, 94, 107, 108, 109, 110, 129, 130, 131, 132] (by decide +kernel) (by decide +kernel)
set_option maxRecDepth 20000 in
theorem gX8_isDone_X8_leavesAsTold : GoodIn wsX8_isDone (va_wsS RX8 79 yX8_leavesAsTold wsX8_leavesAsTold) := goodIn_app (goodIn_of _ (by decide +kernel)) ggX8_isDone_X8_leavesAsTold
theorem dX8_isDone_0 : decode cX8_isDone 0 = .ok (.aload_n 0, 1) := by decide +kernel
theorem dX8_isDone_1 : decode cX8_isDone 1 = .ok (.iload_n 1, 1) := by decide +kernel
theorem dX8_isDone_2 : decode cX8_isDone 2 = .ok (.iconst 1, 1) := by decide +kernel
theorem dX8_isDone_3 : decode cX8_isDone 3 = .ok (.iadd, 1) := by decide +kernel
theorem dX8_isDone_4 : decode cX8_isDone 4 = .ok (.invokevirtual 55, 3) := by decide +kernel
theorem dX8_isDone_7 : decode cX8_isDone 7 = .ok (.istore_n 3, 1) := by decide +kernel
theorem dX8_isDone_8 : decode cX8_isDone 8 = .ok (.aload_n 0, 1) := by decide +kernel
theorem dX8_isDone_9 : decode cX8_isDone 9 = .ok (.iload_n 1, 1) := by decide +kernel
theorem dX8_isDone_10 : decode cX8_isDone 10 = .ok (.iconst 2, 1) := by decide +kernel
theorem dX8_isDone_11 : decode cX8_isDone 11 = .ok (.iadd, 1) := by decide +kernel
theorem dX8_isDone_12 : decode cX8_isDone 12 = .ok (.invokevirtual 55, 3) := by decide +kernel
theorem dX8_isDone_15 : decode cX8_isDone 15 = .ok (.istore 4, 2) := by decide +kernel
theorem dX8_isDone_17 : decode cX8_isDone 17 = .ok (.aload_n 0, 1) := by decide +kernel
theorem dX8_isDone_18 : decode cX8_isDone 18 = .ok (.iload_n 1, 1) := by decide +kernel
theorem dX8_isDone_19 : decode cX8_isDone 19 = .ok (.invokevirtual 32, 3) := by decide +kernel
theorem dX8_isDone_22 : decode cX8_isDone 22 = .ok (.tableswitch 131 103 117 #[95, 74, 131, 131, 131, 131, 118, 131, 131, 131, 131, 89, 131, 131, 126], 74) := by decide +kernel
theorem dX8_isDone_96 : decode cX8_isDone 96 = .ok (.aload_n 2, 1) := by decide +kernel
theorem dX8_isDone_97 : decode cX8_isDone 97 = .ok (.iload_n 3, 1) := by decide +kernel
theorem dX8_isDone_98 : decode cX8_isDone 98 = .ok (.iload 4, 2) := by decide +kernel
theorem dX8_isDone_100 : decode cX8_isDone 100 = .ok (.aload_n 0, 1) := by decide +kernel
theorem dX8_isDone_101 : decode cX8_isDone 101 = .ok (.iload_n 1, 1) := by decide +kernel
theorem dX8_isDone_102 : decode cX8_isDone 102 = .ok (.iconst 3, 1) := by decide +kernel
theorem dX8_isDone_103 : decode cX8_isDone 103 = .ok (.iadd, 1) := by decide +kernel
theorem dX8_isDone_104 : decode cX8_isDone 104 = .ok (.invokevirtual 58, 3) := by decide +kernel
theorem dX8_isDone_107 : decode cX8_isDone 107 = .ok (.invokestatic 61, 3) := by decide +kernel
theorem dX8_isDone_110 : decode cX8_isDone 110 = .ok (.ireturn, 1) := by decide +kernel
theorem dX8_isDone_111 : decode cX8_isDone 111 = .ok (.aload_n 2, 1) := by decide +kernel
theorem dX8_isDone_112 : decode cX8_isDone 112 = .ok (.iload_n 3, 1) := by decide +kernel
theorem dX8_isDone_113 : decode cX8_isDone 113 = .ok (.invokestatic 65, 3) := by decide +kernel
theorem dX8_isDone_116 : decode cX8_isDone 116 = .ok (.ireturn, 1) := by decide +kernel
theorem dX8_isDone_117 : decode cX8_isDone 117 = .ok (.aload_n 2, 1) := by decide +kernel
theorem dX8_isDone_118 : decode cX8_isDone 118 = .ok (.iload_n 3, 1) := by decide +kernel
theorem dX8_isDone_119 : decode cX8_isDone 119 = .ok (.iload 4, 2) := by decide +kernel
theorem dX8_isDone_121 : decode cX8_isDone 121 = .ok (.aload_n 0, 1) := by decide +kernel
theorem dX8_isDone_122 : decode cX8_isDone 122 = .ok (.iload_n 1, 1) := by decide +kernel
theorem dX8_isDone_123 : decode cX8_isDone 123 = .ok (.iconst 3, 1) := by decide +kernel
theorem dX8_isDone_124 : decode cX8_isDone 124 = .ok (.iadd, 1) := by decide +kernel
theorem dX8_isDone_125 : decode cX8_isDone 125 = .ok (.invokevirtual 58, 3) := by decide +kernel
theorem dX8_isDone_128 : decode cX8_isDone 128 = .ok (.invokevirtual 69, 3) := by decide +kernel
theorem dX8_isDone_131 : decode cX8_isDone 131 = .ok (.ifCond .ne 7, 3) := by decide +kernel
theorem dX8_isDone_134 : decode cX8_isDone 134 = .ok (.iconst 1, 1) := by decide +kernel
theorem dX8_isDone_135 : decode cX8_isDone 135 = .ok (.goto 4, 3) := by decide +kernel
theorem dX8_isDone_138 : decode cX8_isDone 138 = .ok (.iconst 0, 1) := by decide +kernel
theorem dX8_isDone_139 : decode cX8_isDone 139 = .ok (.ireturn, 1) := by decide +kernel
theorem dX8_isDone_140 : decode cX8_isDone 140 = .ok (.aload_n 2, 1) := by decide +kernel
theorem dX8_isDone_141 : decode cX8_isDone 141 = .ok (.iload_n 3, 1) := by decide +kernel
theorem dX8_isDone_142 : decode cX8_isDone 142 = .ok (.iload 4, 2) := by decide +kernel
theorem dX8_isDone_144 : decode cX8_isDone 144 = .ok (.invokestatic 75, 3) := by decide +kernel
theorem dX8_isDone_147 : decode cX8_isDone 147 = .ok (.ireturn, 1) := by decide +kernel
theorem dX8_isDone_148 : decode cX8_isDone 148 = .ok (.aload_n 2, 1) := by decide +kernel
theorem dX8_isDone_149 : decode cX8_isDone 149 = .ok (.invokestatic 79, 3) := by decide +kernel
theorem dX8_isDone_152 : decode cX8_isDone 152 = .ok (.ireturn, 1) := by decide +kernel
theorem dX8_isDone_153 : decode cX8_isDone 153 = .ok (.iconst 0, 1) := by decide +kernel
theorem dX8_isDone_154 : decode cX8_isDone 154 = .ok (.ireturn, 1) := by decide +kernel
set_option maxRecDepth 20000 in
theorem ggX8_comesAsTold_X11_isHouse : GoodIn wsX8_comesAsTold wsX11_isHouse := goodIn_r _ [4] (by decide +kernel) (by decide +kernel)
set_option maxRecDepth 20000 in
theorem gX8_comesAsTold_X11_isHouse_n83 : GoodIn wsX8_comesAsTold (wsX11_isHouse) := ggX8_comesAsTold_X11_isHouse
set_option maxRecDepth 20000 in
theorem ggX8_comesAsTold_X11_houseOfKind : GoodIn wsX8_comesAsTold wsX11_houseOfKind := goodIn_r _ [6, 7, 8, 9, 10, 11, 12, 13, 14, 15, 16, 17, 18, 19, 20, 21, 22, 23, 24, 25, 26, 27, 28, 29, 30, 31, 32, 33, 34, 35, 36, 37, 38, 39, 40, 41, 42, 43, 44, 45, 46, 47, 48, 49, 50, 51, 52, 53, 54, 55, 56, 57, 58, 59, 60, 61, 62, 63, 64, 65, 78, 79, 80, 81, 82, 83, 84, 85] (by decide +kernel) (by decide +kernel)
set_option maxRecDepth 20000 in
theorem gX8_comesAsTold_X11_houseOfKind_n90 : GoodIn wsX8_comesAsTold (wsX11_houseOfKind) := ggX8_comesAsTold_X11_houseOfKind
set_option maxRecDepth 20000 in
theorem ggX8_comesAsTold_X7_insert : GoodIn wsX8_comesAsTold wsX7_insert := goodIn_r _ [70, 71, 72, 73, 74, 75, 76, 77] (by decide +kernel) (by decide +kernel)
set_option maxRecDepth 20000 in
theorem gX8_comesAsTold_X7_insert : GoodIn wsX8_comesAsTold (wsV RX8 94 RX7 yX7_insert wsX7_insert) := goodIn_app (goodIn_of _ (by decide +kernel)) ggX8_comesAsTold_X7_insert
theorem dX8_comesAsTold_0 : decode cX8_comesAsTold 0 = .ok (.iload_n 1, 1) := by decide +kernel
theorem dX8_comesAsTold_1 : decode cX8_comesAsTold 1 = .ok (.iload_n 2, 1) := by decide +kernel
theorem dX8_comesAsTold_2 : decode cX8_comesAsTold 2 = .ok (.invokestatic 83, 3) := by decide +kernel
theorem dX8_comesAsTold_5 : decode cX8_comesAsTold 5 = .ok (.ifCond .eq 12, 3) := by decide +kernel
theorem dX8_comesAsTold_8 : decode cX8_comesAsTold 8 = .ok (.aload_n 0, 1) := by decide +kernel
theorem dX8_comesAsTold_9 : decode cX8_comesAsTold 9 = .ok (.getfield 87, 3) := by decide +kernel
theorem dX8_comesAsTold_12 : decode cX8_comesAsTold 12 = .ok (.bipush 8, 2) := by decide +kernel
theorem dX8_comesAsTold_14 : decode cX8_comesAsTold 14 = .ok (.if_icmp .lt 5, 3) := by decide +kernel
theorem dX8_comesAsTold_17 : decode cX8_comesAsTold 17 = .ok (.iconst 0, 1) := by decide +kernel
theorem dX8_comesAsTold_18 : decode cX8_comesAsTold 18 = .ok (.ireturn, 1) := by decide +kernel
theorem dX8_comesAsTold_19 : decode cX8_comesAsTold 19 = .ok (.aload_n 0, 1) := by decide +kernel
theorem dX8_comesAsTold_20 : decode cX8_comesAsTold 20 = .ok (.aload_n 0, 1) := by decide +kernel
theorem dX8_comesAsTold_21 : decode cX8_comesAsTold 21 = .ok (.getfield 87, 3) := by decide +kernel
theorem dX8_comesAsTold_24 : decode cX8_comesAsTold 24 = .ok (.iload_n 1, 1) := by decide +kernel
theorem dX8_comesAsTold_25 : decode cX8_comesAsTold 25 = .ok (.iload_n 2, 1) := by decide +kernel
theorem dX8_comesAsTold_26 : decode cX8_comesAsTold 26 = .ok (.invokestatic 90, 3) := by decide +kernel
theorem dX8_comesAsTold_29 : decode cX8_comesAsTold 29 = .ok (.iload_n 3, 1) := by decide +kernel
theorem dX8_comesAsTold_30 : decode cX8_comesAsTold 30 = .ok (.invokevirtual 94, 3) := by decide +kernel
theorem dX8_comesAsTold_33 : decode cX8_comesAsTold 33 = .ok (.iconst 1, 1) := by decide +kernel
theorem dX8_comesAsTold_34 : decode cX8_comesAsTold 34 = .ok (.ireturn, 1) := by decide +kernel
theorem dX8_turnsAsTold_0 : decode cX8_turnsAsTold 0 = .ok (.iload_n 1, 1) := by decide +kernel
theorem dX8_turnsAsTold_1 : decode cX8_turnsAsTold 1 = .ok (.ifCond .eq 10, 3) := by decide +kernel
theorem dX8_turnsAsTold_4 : decode cX8_turnsAsTold 4 = .ok (.iload_n 1, 1) := by decide +kernel
theorem dX8_turnsAsTold_5 : decode cX8_turnsAsTold 5 = .ok (.iconst 1, 1) := by decide +kernel
theorem dX8_turnsAsTold_6 : decode cX8_turnsAsTold 6 = .ok (.if_icmp .eq 5, 3) := by decide +kernel
theorem dX8_turnsAsTold_9 : decode cX8_turnsAsTold 9 = .ok (.iconst 0, 1) := by decide +kernel
theorem dX8_turnsAsTold_10 : decode cX8_turnsAsTold 10 = .ok (.ireturn, 1) := by decide +kernel
theorem dX8_turnsAsTold_11 : decode cX8_turnsAsTold 11 = .ok (.aload_n 0, 1) := by decide +kernel
theorem dX8_turnsAsTold_12 : decode cX8_turnsAsTold 12 = .ok (.iload_n 1, 1) := by decide +kernel
theorem dX8_turnsAsTold_13 : decode cX8_turnsAsTold 13 = .ok (.putfield 98, 3) := by decide +kernel
theorem dX8_turnsAsTold_16 : decode cX8_turnsAsTold 16 = .ok (.iconst 1, 1) := by decide +kernel
theorem dX8_turnsAsTold_17 : decode cX8_turnsAsTold 17 = .ok (.ireturn, 1) := by decide +kernel
set_option maxRecDepth 20000 in
theorem ggX8_movesAsTold_X7_hasTwo : GoodIn wsX8_movesAsTold wsX7_hasTwo := goodIn_r _ [5, 6, 7, 8, 4, 9, 10, 17, 18, 19, 20] (by decide +kernel) (by decide +kernel)
set_option maxRecDepth 20000 in
theorem gX8_movesAsTold_X7_hasTwo : GoodIn wsX8_movesAsTold (wsV RX8 101 RX7 yX7_hasTwo wsX7_hasTwo) := goodIn_app (goodIn_of _ (by decide +kernel)) ggX8_movesAsTold_X7_hasTwo
set_option maxRecDepth 20000 in
theorem ggX8_movesAsTold_X7_exchange : GoodIn wsX8_movesAsTold wsX7_exchange := goodIn_r _ [14, 15, 16, 17, 18, 19, 20] (by decide +kernel) (by decide +kernel)
set_option maxRecDepth 20000 in
theorem gX8_movesAsTold_X7_exchange : GoodIn wsX8_movesAsTold (wsV RX8 104 RX7 yX7_exchange wsX7_exchange) := goodIn_app (goodIn_of _ (by decide +kernel)) ggX8_movesAsTold_X7_exchange
theorem dX8_movesAsTold_0 : decode cX8_movesAsTold 0 = .ok (.aload_n 0, 1) := by decide +kernel
theorem dX8_movesAsTold_1 : decode cX8_movesAsTold 1 = .ok (.iload_n 1, 1) := by decide +kernel
theorem dX8_movesAsTold_2 : decode cX8_movesAsTold 2 = .ok (.iload_n 2, 1) := by decide +kernel
theorem dX8_movesAsTold_3 : decode cX8_movesAsTold 3 = .ok (.invokevirtual 101, 3) := by decide +kernel
theorem dX8_movesAsTold_6 : decode cX8_movesAsTold 6 = .ok (.ifCond .ne 5, 3) := by decide +kernel
theorem dX8_movesAsTold_9 : decode cX8_movesAsTold 9 = .ok (.iconst 0, 1) := by decide +kernel
theorem dX8_movesAsTold_10 : decode cX8_movesAsTold 10 = .ok (.ireturn, 1) := by decide +kernel
theorem dX8_movesAsTold_11 : decode cX8_movesAsTold 11 = .ok (.aload_n 0, 1) := by decide +kernel
theorem dX8_movesAsTold_12 : decode cX8_movesAsTold 12 = .ok (.iload_n 1, 1) := by decide +kernel
theorem dX8_movesAsTold_13 : decode cX8_movesAsTold 13 = .ok (.iload_n 2, 1) := by decide +kernel
theorem dX8_movesAsTold_14 : decode cX8_movesAsTold 14 = .ok (.invokevirtual 104, 3) := by decide +kernel
theorem dX8_movesAsTold_17 : decode cX8_movesAsTold 17 = .ok (.iconst 1, 1) := by decide +kernel
theorem dX8_movesAsTold_18 : decode cX8_movesAsTold 18 = .ok (.ireturn, 1) := by decide +kernel
set_option maxRecDepth 20000 in
theorem ggX8_leavesAsTold_X7_remove : GoodIn wsX8_leavesAsTold wsX7_remove := goodIn_r _ [6, 7, 8, 9, 10, 11, 12, 5, 13, 14, 15, 16, 17] (by decide +kernel) (by decide +kernel)
set_option maxRecDepth 20000 in
theorem gX8_leavesAsTold_X7_remove : GoodIn wsX8_leavesAsTold (wsV RX8 108 RX7 yX7_remove wsX7_remove) := goodIn_app (goodIn_of _ (by decide +kernel)) ggX8_leavesAsTold_X7_remove
theorem dX8_leavesAsTold_0 : decode cX8_leavesAsTold 0 = .ok (.aload_n 0, 1) := by decide +kernel
theorem dX8_leavesAsTold_1 : decode cX8_leavesAsTold 1 = .ok (.getfield 87, 3) := by decide +kernel
theorem dX8_leavesAsTold_4 : decode cX8_leavesAsTold 4 = .ok (.ifCond .ne 5, 3) := by decide +kernel
theorem dX8_leavesAsTold_7 : decode cX8_leavesAsTold 7 = .ok (.iconst 0, 1) := by decide +kernel
theorem dX8_leavesAsTold_8 : decode cX8_leavesAsTold 8 = .ok (.ireturn, 1) := by decide +kernel
theorem dX8_leavesAsTold_9 : decode cX8_leavesAsTold 9 = .ok (.aload_n 0, 1) := by decide +kernel
theorem dX8_leavesAsTold_10 : decode cX8_leavesAsTold 10 = .ok (.aload_n 0, 1) := by decide +kernel
theorem dX8_leavesAsTold_11 : decode cX8_leavesAsTold 11 = .ok (.getfield 87, 3) := by decide +kernel
theorem dX8_leavesAsTold_14 : decode cX8_leavesAsTold 14 = .ok (.iconst 1, 1) := by decide +kernel
theorem dX8_leavesAsTold_15 : decode cX8_leavesAsTold 15 = .ok (.isub, 1) := by decide +kernel
theorem dX8_leavesAsTold_16 : decode cX8_leavesAsTold 16 = .ok (.invokevirtual 108, 3) := by decide +kernel
theorem dX8_leavesAsTold_19 : decode cX8_leavesAsTold 19 = .ok (.iconst 1, 1) := by decide +kernel
theorem dX8_leavesAsTold_20 : decode cX8_leavesAsTold 20 = .ok (.ireturn, 1) := by decide +kernel
set_option maxRecDepth 20000 in
theorem ggX9_init_X2_init : GoodIn wsX9_init wsX2_init := goodIn_r _ [4, 5, 6, 7, 8, 9, 10, 11, 12, 13, 14, 15, 16, 17, 18, 19, 20] (by decide +kernel) (by decide +kernel)
set_option maxRecDepth 20000 in
theorem gX9_init_X2_init : GoodIn wsX9_init (wsX2_init) := ggX9_init_X2_init
theorem dX9_init_0 : decode cX9_init 0 = .ok (.aload_n 0, 1) := by decide +kernel
theorem dX9_init_1 : decode cX9_init 1 = .ok (.iload_n 1, 1) := by decide +kernel
theorem dX9_init_2 : decode cX9_init 2 = .ok (.invokespecial 1, 3) := by decide +kernel
theorem dX9_init_5 : decode cX9_init 5 = .ok (.return_, 1) := by decide +kernel
theorem dX9_kind_0 : decode cX9_kind 0 = .ok (.bipush 6, 2) := by decide +kernel
theorem dX9_kind_2 : decode cX9_kind 2 = .ok (.ireturn, 1) := by decide +kernel
set_option maxRecDepth 20000 in
theorem ggX9_allowedBy_X2_allowedBy : GoodIn wsX9_allowedBy wsX2_allowedBy := goodIn_r _ [6, 7, 8, 9, 10, 11, 12, 13, 14, 15, 16, 17, 18, 19, 20, 21, 22] (by decide +kernel) (by decide +kernel)
set_option maxRecDepth 20000 in
theorem gX9_allowedBy_X2_allowedBy_s7 : GoodIn wsX9_allowedBy (va_wsSU RX9 7 yX2_allowedBy wsX2_allowedBy) := goodIn_app (goodIn_of _ (by decide +kernel)) ggX9_allowedBy_X2_allowedBy
theorem dX9_allowedBy_0 : decode cX9_allowedBy 0 = .ok (.iconst 2, 1) := by decide +kernel
theorem dX9_allowedBy_1 : decode cX9_allowedBy 1 = .ok (.aload_n 0, 1) := by decide +kernel
theorem dX9_allowedBy_2 : decode cX9_allowedBy 2 = .ok (.iload_n 1, 1) := by decide +kernel
theorem dX9_allowedBy_3 : decode cX9_allowedBy 3 = .ok (.invokespecial 7, 3) := by decide +kernel
theorem dX9_allowedBy_6 : decode cX9_allowedBy 6 = .ok (.imul, 1) := by decide +kernel
theorem dX9_allowedBy_7 : decode cX9_allowedBy 7 = .ok (.ireturn, 1) := by decide +kernel
set_option maxRecDepth 20000 in
theorem ggX9_weekly_X2_weekly : GoodIn wsX9_weekly wsX2_weekly := goodIn_r _ [6, 7, 8, 9, 10, 11, 12, 13, 14, 15, 16, 17, 18, 19, 20, 21, 22] (by decide +kernel) (by decide +kernel)
set_option maxRecDepth 20000 in
theorem gX9_weekly_X2_weekly_s11 : GoodIn wsX9_weekly (va_wsSU RX9 11 yX2_weekly wsX2_weekly) := goodIn_app (goodIn_of _ (by decide +kernel)) ggX9_weekly_X2_weekly
theorem dX9_weekly_0 : decode cX9_weekly 0 = .ok (.iconst 2, 1) := by decide +kernel
theorem dX9_weekly_1 : decode cX9_weekly 1 = .ok (.aload_n 0, 1) := by decide +kernel
theorem dX9_weekly_2 : decode cX9_weekly 2 = .ok (.invokespecial 11, 3) := by decide +kernel
theorem dX9_weekly_5 : decode cX9_weekly 5 = .ok (.imul, 1) := by decide +kernel
theorem dX9_weekly_6 : decode cX9_weekly 6 = .ok (.ireturn, 1) := by decide +kernel
set_option maxRecDepth 20000 in
theorem ggX9_price_X2_price : GoodIn wsX9_price wsX2_price := goodIn_r _ [8, 9, 10, 11, 12, 13, 14, 15, 16, 17, 18, 19, 20, 21, 22, 23, 24] (by decide +kernel) (by decide +kernel)
set_option maxRecDepth 20000 in
theorem gX9_price_X2_price_s15 : GoodIn wsX9_price (va_wsSU RX9 15 yX2_price wsX2_price) := goodIn_app (goodIn_of _ (by decide +kernel)) ggX9_price_X2_price
theorem dX9_price_0 : decode cX9_price 0 = .ok (.aload_n 0, 1) := by decide +kernel
theorem dX9_price_1 : decode cX9_price 1 = .ok (.invokespecial 15, 3) := by decide +kernel
theorem dX9_price_4 : decode cX9_price 4 = .ok (.aload_n 0, 1) := by decide +kernel
theorem dX9_price_5 : decode cX9_price 5 = .ok (.getfield 18, 3) := by decide +kernel
theorem dX9_price_8 : decode cX9_price 8 = .ok (.isub, 1) := by decide +kernel
theorem dX9_price_9 : decode cX9_price 9 = .ok (.ireturn, 1) := by decide +kernel
theorem dX9_fail_0 : decode cX9_fail 0 = .ok (.new 24, 3) := by decide +kernel
theorem dX9_fail_3 : decode cX9_fail 3 = .ok (.dup, 1) := by decide +kernel
theorem dX9_fail_4 : decode cX9_fail 4 = .ok (.invokespecial 26, 3) := by decide +kernel
theorem dX9_fail_7 : decode cX9_fail 7 = .ok (.athrow, 1) := by decide +kernel
set_option maxRecDepth 20000 in
theorem ggX10_init_X3_init : GoodIn wsX10_init wsX3_init := goodIn_r _ [4, 5, 6, 7, 8, 9, 10, 11, 12, 13, 14, 15, 16] (by decide +kernel) (by decide +kernel)
set_option maxRecDepth 20000 in
theorem gX10_init_X3_init : GoodIn wsX10_init (wsX3_init) := ggX10_init_X3_init
theorem dX10_init_0 : decode cX10_init 0 = .ok (.aload_n 0, 1) := by decide +kernel
theorem dX10_init_1 : decode cX10_init 1 = .ok (.iload_n 1, 1) := by decide +kernel
theorem dX10_init_2 : decode cX10_init 2 = .ok (.invokespecial 3, 3) := by decide +kernel
theorem dX10_init_5 : decode cX10_init 5 = .ok (.return_, 1) := by decide +kernel
theorem dX10_kind_0 : decode cX10_kind 0 = .ok (.iconst 3, 1) := by decide +kernel
theorem dX10_kind_1 : decode cX10_kind 1 = .ok (.ireturn, 1) := by decide +kernel
theorem dX10_isLookedAt_0 : decode cX10_isLookedAt 0 = .ok (.iconst 0, 1) := by decide +kernel
theorem dX10_isLookedAt_1 : decode cX10_isLookedAt 1 = .ok (.ireturn, 1) := by decide +kernel
theorem dX10_allowedBy_0 : decode cX10_allowedBy 0 = .ok (.sipush 9999, 3) := by decide +kernel
theorem dX10_allowedBy_3 : decode cX10_allowedBy 3 = .ok (.ireturn, 1) := by decide +kernel
theorem dX10_weekly_0 : decode cX10_weekly 0 = .ok (.iconst 0, 1) := by decide +kernel
theorem dX10_weekly_1 : decode cX10_weekly 1 = .ok (.ireturn, 1) := by decide +kernel
set_option maxRecDepth 20000 in
theorem ggX10_price_X3_price : GoodIn wsX10_price wsX3_price := goodIn_r _ [6] (by decide +kernel) (by decide +kernel)
set_option maxRecDepth 20000 in
theorem gX10_price_X3_price_s9 : GoodIn wsX10_price (va_wsSU RX10 9 yX3_price wsX3_price) := goodIn_app (goodIn_of _ (by decide +kernel)) ggX10_price_X3_price
theorem dX10_price_0 : decode cX10_price 0 = .ok (.aload_n 0, 1) := by decide +kernel
theorem dX10_price_1 : decode cX10_price 1 = .ok (.invokespecial 9, 3) := by decide +kernel
theorem dX10_price_4 : decode cX10_price 4 = .ok (.iconst 3, 1) := by decide +kernel
theorem dX10_price_5 : decode cX10_price 5 = .ok (.iadd, 1) := by decide +kernel
theorem dX10_price_6 : decode cX10_price 6 = .ok (.ireturn, 1) := by decide +kernel
theorem dX10_hasFailure_0 : decode cX10_hasFailure 0 = .ok (.iconst 0, 1) := by decide +kernel
theorem dX10_hasFailure_1 : decode cX10_hasFailure 1 = .ok (.ireturn, 1) := by decide +kernel
abbrev vwCl : List vw_C := [(RX0, TX0, 1), (RX1, TX1, 1), (RX2, TX2, 1), (RX3, TX3, 1), (RX4, TX4, 1), (RX5, TX5, 8), (RX6, TX6, 1), (RX7, TX7, 4), (RX8, TX8, 3), (RX9, TX9, 1), (RX10, TX10, 1), (RX11, TX11, 11), (RX12, TX12, 24)]
