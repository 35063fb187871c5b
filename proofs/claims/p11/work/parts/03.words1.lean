theorem ggX11_soldIn_X11_isKind : GoodIn wsX11_soldIn wsX11_isKind := gA_u gbX11_isKind
theorem gX11_soldIn_X11_isKind : GoodIn wsX11_soldIn (wsV RX11 140 RX11 yX11_isKind wsX11_isKind) := gA_u g4_87
theorem ggX11_soldIn_X11_chanceRefusal : GoodIn wsX11_soldIn wsX11_chanceRefusal := gA_u gbX11_chanceRefusal
theorem gX11_soldIn_X11_chanceRefusal : GoodIn wsX11_soldIn (va_wsS RX11 286 yX11_chanceRefusal wsX11_chanceRefusal) := gA_u g4_116
theorem ggX11_soldIn_X5_look : GoodIn wsX11_soldIn wsX5_look := gA_u gbX5_look
theorem gX11_soldIn_X5_look : GoodIn wsX11_soldIn (wsV RX11 262 RX5 yX5_look wsX5_look) := gA_u g4_109
theorem ggX11_soldIn_X5_passDays : GoodIn wsX11_soldIn wsX5_passDays := gA_u gbX5_passDays
theorem gX11_soldIn_X5_passDays : GoodIn wsX11_soldIn (wsV RX11 289 RX5 yX5_passDays wsX5_passDays) := gA_u g4_117
theorem ggX11_soldIn_X5_soldWays : GoodIn wsX11_soldIn wsX5_soldWays := gA_u gbX5_soldWays
set_option maxRecDepth 20000 in
theorem g4_121 : GoodIn wsA (wsV RX11 312 RX5 yX5_soldWays wsX5_soldWays) := goodIn_app (gA_t gbX11_soldIn (goodIn_r _ [153, 154, 155, 18] rfl (by decide +kernel))) gbX5_soldWays
theorem gX11_soldIn_X5_soldWays : GoodIn wsX11_soldIn (wsV RX11 312 RX5 yX5_soldWays wsX5_soldWays) := gA_u g4_121
theorem ggX11_soldIn_X11_inLowestTerms : GoodIn wsX11_soldIn wsX11_inLowestTerms := gA_u gbX11_inLowestTerms
theorem gX11_soldIn_X11_inLowestTerms : GoodIn wsX11_soldIn (va_wsS RX11 300 yX11_inLowestTerms wsX11_inLowestTerms) := gA_u g4_119
theorem ggX11_inLowestTerms_X11_commonDivisor : GoodIn wsX11_inLowestTerms wsX11_commonDivisor := gA_u gbX11_commonDivisor
set_option maxRecDepth 20000 in
theorem g4_122 : GoodIn wsA (va_wsS RX11 315 yX11_commonDivisor wsX11_commonDivisor) := goodIn_app (gA_t gbX11_inLowestTerms (goodIn_r _ [1, 2, 3] rfl (by decide +kernel))) gbX11_commonDivisor
theorem gX11_inLowestTerms_X11_commonDivisor : GoodIn wsX11_inLowestTerms (va_wsS RX11 315 yX11_commonDivisor wsX11_commonDivisor) := gA_u g4_122
theorem ggX11_hides_X9_isShut : GoodIn wsX11_hides wsX9_isShut := gA_u gbX9_isShut
set_option maxRecDepth 20000 in
theorem g4_123 : GoodIn wsA (wsV RX11 320 RX9 yX9_isShut wsX9_isShut) := goodIn_app (gA_t gbX11_hides (goodIn_r _ [10, 11, 12, 13] rfl (by decide +kernel))) gbX9_isShut
theorem gX11_hides_X9_isShut : GoodIn wsX11_hides (wsV RX11 320 RX9 yX9_isShut wsX9_isShut) := gA_u g4_123
theorem ggX11_hides_X9_everyKind : GoodIn wsX11_hides wsX9_everyKind := gA_u gbX9_everyKind
set_option maxRecDepth 20000 in
theorem g4_124 : GoodIn wsA (wsV RX11 323 RX9 yX9_everyKind wsX9_everyKind) := goodIn_app (gA_t gbX11_hides (goodIn_r _ [22, 18, 19, 13] rfl (by decide +kernel))) gbX9_everyKind
theorem gX11_hides_X9_everyKind : GoodIn wsX11_hides (wsV RX11 323 RX9 yX9_everyKind wsX9_everyKind) := gA_u g4_124
theorem ggX11_hides_X11_isHideable : GoodIn wsX11_hides wsX11_isHideable := gA_u gbX11_isHideable
set_option maxRecDepth 20000 in
theorem g4_125 : GoodIn wsA (wsV RX11 326 RX11 yX11_isHideable wsX11_isHideable) := goodIn_app (gA_t gbX11_hides (goodIn_r _ [23, 24, 25, 26] rfl (by decide +kernel))) gbX11_isHideable
theorem gX11_hides_X11_isHideable : GoodIn wsX11_hides (wsV RX11 326 RX11 yX11_isHideable wsX11_isHideable) := gA_u g4_125
theorem ggX11_hides_X5_look : GoodIn wsX11_hides wsX5_look := gA_u gbX5_look
theorem gX11_hides_X5_look : GoodIn wsX11_hides (wsV RX11 262 RX5 yX5_look wsX5_look) := gA_u g4_109
theorem ggX11_hides_X5_passDays : GoodIn wsX11_hides wsX5_passDays := gA_u gbX5_passDays
theorem gX11_hides_X5_passDays : GoodIn wsX11_hides (wsV RX11 289 RX5 yX5_passDays wsX5_passDays) := gA_u g4_117
theorem ggX11_hides_X5_openWays : GoodIn wsX11_hides wsX5_openWays := gA_u gbX5_openWays
theorem gX11_hides_X5_openWays : GoodIn wsX11_hides (wsV RX11 292 RX5 yX5_openWays wsX5_openWays) := gA_u g4_118
set_option maxRecDepth 20000 in
theorem ggX11_hides_J6_bitCount_0f7a4 : GoodIn wsX11_hides wsJ6_bitCount_0f7a4 := goodIn_r _ [31, 32, 33, 34] rfl (by decide +kernel)
set_option maxRecDepth 20000 in
theorem gX11_hides_J6_bitCount_0f7a4 : GoodIn wsX11_hides (va_wsS RX11 333 yJ6_bitCount_0f7a4 wsJ6_bitCount_0f7a4) := goodIn_app (goodIn_r _ [28, 29, 30] rfl (by decide +kernel)) ggX11_hides_J6_bitCount_0f7a4
set_option maxRecDepth 20000 in
theorem ggX11_isHideable_J6_bitCount_0f7a4 : GoodIn wsX11_isHideable wsJ6_bitCount_0f7a4 := goodIn_r _ [6, 7, 8, 9] rfl (by decide +kernel)
set_option maxRecDepth 20000 in
theorem gX11_isHideable_J6_bitCount_0f7a4 : GoodIn wsX11_isHideable (va_wsS RX11 333 yJ6_bitCount_0f7a4 wsJ6_bitCount_0f7a4) := goodIn_app (goodIn_r _ [3, 4, 5] rfl (by decide +kernel)) ggX11_isHideable_J6_bitCount_0f7a4
theorem ggX11_rota_X9_isShut : GoodIn wsX11_rota wsX9_isShut := gA_u gbX9_isShut
theorem gX11_rota_X9_isShut : GoodIn wsX11_rota (wsV RX11 320 RX9 yX9_isShut wsX9_isShut) := gA_u g4_123
theorem ggX11_rota_X5_look : GoodIn wsX11_rota wsX5_look := gA_u gbX5_look
theorem gX11_rota_X5_look : GoodIn wsX11_rota (wsV RX11 262 RX5 yX5_look wsX5_look) := gA_u g4_109
theorem ggX11_rota_X5_takersNow : GoodIn wsX11_rota wsX5_takersNow := gA_u gbX5_takersNow
set_option maxRecDepth 20000 in
theorem g4_126 : GoodIn wsA (wsV RX11 338 RX5 yX5_takersNow wsX5_takersNow) := goodIn_app (gA_t gbX11_rota (goodIn_r _ [106, 107, 108, 21] rfl (by decide +kernel))) gbX5_takersNow
theorem gX11_rota_X5_takersNow : GoodIn wsX11_rota (wsV RX11 338 RX5 yX5_takersNow wsX5_takersNow) := gA_u g4_126
theorem ggX11_rota_X9_everyKind : GoodIn wsX11_rota wsX9_everyKind := gA_u gbX9_everyKind
theorem gX11_rota_X9_everyKind : GoodIn wsX11_rota (wsV RX11 323 RX9 yX9_everyKind wsX9_everyKind) := gA_u g4_124
theorem ggX11_rota_X11_isHideable : GoodIn wsX11_rota wsX11_isHideable := gA_u gbX11_isHideable
theorem gX11_rota_X11_isHideable : GoodIn wsX11_rota (wsV RX11 326 RX11 yX11_isHideable wsX11_isHideable) := gA_u g4_125
theorem ggX11_rota_X5_shortest : GoodIn wsX11_rota wsX5_shortest := gA_u gbX5_shortest
theorem gX11_rota_X5_shortest : GoodIn wsX11_rota (wsV RX11 266 RX5 yX5_shortest wsX5_shortest) := gA_u g4_110
theorem ggX11_earns_X11_chanceRefusal : GoodIn wsX11_earns wsX11_chanceRefusal := gA_u gbX11_chanceRefusal
theorem gX11_earns_X11_chanceRefusal : GoodIn wsX11_earns (va_wsS RX11 286 yX11_chanceRefusal wsX11_chanceRefusal) := gA_u g4_116
theorem ggX11_earns_X5_look : GoodIn wsX11_earns wsX5_look := gA_u gbX5_look
theorem gX11_earns_X5_look : GoodIn wsX11_earns (wsV RX11 262 RX5 yX5_look wsX5_look) := gA_u g4_109
theorem ggX11_earns_X5_passDays : GoodIn wsX11_earns wsX5_passDays := gA_u gbX5_passDays
theorem gX11_earns_X5_passDays : GoodIn wsX11_earns (wsV RX11 289 RX5 yX5_passDays wsX5_passDays) := gA_u g4_117
theorem ggX11_earns_X11_inLowestTerms : GoodIn wsX11_earns wsX11_inLowestTerms := gA_u gbX11_inLowestTerms
theorem gX11_earns_X11_inLowestTerms : GoodIn wsX11_earns (va_wsS RX11 300 yX11_inLowestTerms wsX11_inLowestTerms) := gA_u g4_119
theorem ggX11_bestPrice_X11_isKind : GoodIn wsX11_bestPrice wsX11_isKind := gA_u gbX11_isKind
theorem gX11_bestPrice_X11_isKind : GoodIn wsX11_bestPrice (wsV RX11 140 RX11 yX11_isKind wsX11_isKind) := gA_u g4_87
theorem ggX11_bestPrice_X9_isShut : GoodIn wsX11_bestPrice wsX9_isShut := gA_u gbX9_isShut
theorem gX11_bestPrice_X9_isShut : GoodIn wsX11_bestPrice (wsV RX11 320 RX9 yX9_isShut wsX9_isShut) := gA_u g4_123
theorem ggX11_bestPrice_X9_copyFrom : GoodIn wsX11_bestPrice wsX9_copyFrom := gA_u gbX9_copyFrom
theorem gX11_bestPrice_X9_copyFrom : GoodIn wsX11_bestPrice (wsV RX11 124 RX9 yX9_copyFrom wsX9_copyFrom) := gA_u g4_83
theorem ggX11_bestPrice_X5_look : GoodIn wsX11_bestPrice wsX5_look := gA_u gbX5_look
theorem gX11_bestPrice_X5_look : GoodIn wsX11_bestPrice (wsV RX11 262 RX5 yX5_look wsX5_look) := gA_u g4_109
theorem ggX11_bestPrice_X5_passDays : GoodIn wsX11_bestPrice wsX5_passDays := gA_u gbX5_passDays
theorem gX11_bestPrice_X5_passDays : GoodIn wsX11_bestPrice (wsV RX11 289 RX5 yX5_passDays wsX5_passDays) := gA_u g4_117
theorem ggX11_seen_X11_seenRefusal : GoodIn wsX11_seen wsX11_seenRefusal := gA_u gbX11_seenRefusal
set_option maxRecDepth 20000 in
theorem g4_127 : GoodIn wsA (wsV RX11 344 RX11 yX11_seenRefusal wsX11_seenRefusal) := goodIn_app (gA_t gbX11_seen (goodIn_r _ [7, 8, 9, 10] rfl (by decide +kernel))) gbX11_seenRefusal
theorem gX11_seen_X11_seenRefusal : GoodIn wsX11_seen (wsV RX11 344 RX11 yX11_seenRefusal wsX11_seenRefusal) := gA_u g4_127
theorem ggX11_seen_X5_lookEverywhere : GoodIn wsX11_seen wsX5_lookEverywhere := gA_u gbX5_lookEverywhere
set_option maxRecDepth 20000 in
theorem g4_128 : GoodIn wsA (wsV RX11 347 RX5 yX5_lookEverywhere wsX5_lookEverywhere) := goodIn_app (gA_t gbX11_seen (goodIn_r _ [50, 51, 52, 53] rfl (by decide +kernel))) gbX5_lookEverywhere
theorem gX11_seen_X5_lookEverywhere : GoodIn wsX11_seen (wsV RX11 347 RX5 yX5_lookEverywhere wsX5_lookEverywhere) := gA_u g4_128
theorem ggX11_seen_X0_gather : GoodIn wsX11_seen wsX0_gather := gA_u gbX0_gather
set_option maxRecDepth 20000 in
theorem g4_129 : GoodIn wsA (wsV RX11 350 RX0 yX0_gather wsX0_gather) := goodIn_app (gA_t gbX11_seen (goodIn_r _ [137, 138, 139, 140] rfl (by decide +kernel))) gbX0_gather
theorem gX11_seen_X0_gather : GoodIn wsX11_seen (wsV RX11 350 RX0 yX0_gather wsX0_gather) := gA_u g4_129
theorem ggX11_sureGone_X11_seenRefusal : GoodIn wsX11_sureGone wsX11_seenRefusal := gA_u gbX11_seenRefusal
theorem gX11_sureGone_X11_seenRefusal : GoodIn wsX11_sureGone (wsV RX11 344 RX11 yX11_seenRefusal wsX11_seenRefusal) := gA_u g4_127
theorem ggX11_sureGone_X5_lookEverywhere : GoodIn wsX11_sureGone wsX5_lookEverywhere := gA_u gbX5_lookEverywhere
theorem gX11_sureGone_X5_lookEverywhere : GoodIn wsX11_sureGone (wsV RX11 347 RX5 yX5_lookEverywhere wsX5_lookEverywhere) := gA_u g4_128
theorem ggX11_sureGone_X0_gather : GoodIn wsX11_sureGone wsX0_gather := gA_u gbX0_gather
theorem gX11_sureGone_X0_gather : GoodIn wsX11_sureGone (wsV RX11 350 RX0 yX0_gather wsX0_gather) := gA_u g4_129
theorem ggX11_ask_X11_seenRefusal : GoodIn wsX11_ask wsX11_seenRefusal := gA_u gbX11_seenRefusal
theorem gX11_ask_X11_seenRefusal : GoodIn wsX11_ask (wsV RX11 344 RX11 yX11_seenRefusal wsX11_seenRefusal) := gA_u g4_127
theorem ggX11_ask_X5_lookEverywhere : GoodIn wsX11_ask wsX5_lookEverywhere := gA_u gbX5_lookEverywhere
theorem gX11_ask_X5_lookEverywhere : GoodIn wsX11_ask (wsV RX11 347 RX5 yX5_lookEverywhere wsX5_lookEverywhere) := gA_u g4_128
theorem ggX11_ask_X0_gather : GoodIn wsX11_ask wsX0_gather := gA_u gbX0_gather
theorem gX11_ask_X0_gather : GoodIn wsX11_ask (wsV RX11 350 RX0 yX0_gather wsX0_gather) := gA_u g4_129
theorem ggX11_ask_X0_mostTelling : GoodIn wsX11_ask wsX0_mostTelling := gA_u gbX0_mostTelling
set_option maxRecDepth 20000 in
theorem g4_130 : GoodIn wsA (wsV RX11 360 RX0 yX0_mostTelling wsX0_mostTelling) := goodIn_app (gA_t gbX11_ask (goodIn_r _ [160, 161, 162, 140] rfl (by decide +kernel))) gbX0_mostTelling
theorem gX11_ask_X0_mostTelling : GoodIn wsX11_ask (wsV RX11 360 RX0 yX0_mostTelling wsX0_mostTelling) := gA_u g4_130
theorem ggX11_seenRefusal_X11_trayRefusal : GoodIn wsX11_seenRefusal wsX11_trayRefusal := gA_u gbX11_trayRefusal
theorem gX11_seenRefusal_X11_trayRefusal : GoodIn wsX11_seenRefusal (wsV RX11 255 RX11 yX11_trayRefusal wsX11_trayRefusal) := gA_u g4_107
theorem ggX11_seenRefusal_X10_size : GoodIn wsX11_seenRefusal wsX10_size := gA_u gbX10_size
theorem gX11_seenRefusal_X10_size : GoodIn wsX11_seenRefusal (wsV RX11 239 RX10 yX10_size wsX10_size) := gA_u g4_105
theorem ggX11_seenRefusal_X10_numberAt : GoodIn wsX11_seenRefusal wsX10_numberAt := gA_u gbX10_numberAt
theorem gX11_seenRefusal_X10_numberAt : GoodIn wsX11_seenRefusal (wsV RX11 242 RX10 yX10_numberAt wsX10_numberAt) := gA_u g4_106
theorem ggX11_seenRefusal_X11_isSight : GoodIn wsX11_seenRefusal wsX11_isSight := gA_u gbX11_isSight
set_option maxRecDepth 20000 in
theorem g4_131 : GoodIn wsA (wsV RX11 363 RX11 yX11_isSight wsX11_isSight) := goodIn_app (gA_t gbX11_seenRefusal (goodIn_r _ [33, 34, 35, 5] rfl (by decide +kernel))) gbX11_isSight
theorem gX11_seenRefusal_X11_isSight : GoodIn wsX11_seenRefusal (wsV RX11 363 RX11 yX11_isSight wsX11_isSight) := gA_u g4_131
theorem ggX11_came_X11_cameRefusal : GoodIn wsX11_came wsX11_cameRefusal := gA_u gbX11_cameRefusal
set_option maxRecDepth 20000 in
theorem g4_132 : GoodIn wsA (wsV RX11 369 RX11 yX11_cameRefusal wsX11_cameRefusal) := goodIn_app (gA_t gbX11_came (goodIn_r _ [7, 8, 9, 10] rfl (by decide +kernel))) gbX11_cameRefusal
theorem gX11_came_X11_cameRefusal : GoodIn wsX11_came (wsV RX11 369 RX11 yX11_cameRefusal wsX11_cameRefusal) := gA_u g4_132
theorem ggX11_came_X5_look : GoodIn wsX11_came wsX5_look := gA_u gbX5_look
theorem gX11_came_X5_look : GoodIn wsX11_came (wsV RX11 262 RX5 yX5_look wsX5_look) := gA_u g4_109
theorem ggX11_came_X0_rows : GoodIn wsX11_came wsX0_rows := gA_u gbX0_rows
set_option maxRecDepth 20000 in
theorem g4_133 : GoodIn wsA (wsV RX11 372 RX0 yX0_rows wsX0_rows) := goodIn_app (gA_t gbX11_came (goodIn_r _ [134, 135, 136, 137] rfl (by decide +kernel))) gbX0_rows
theorem gX11_came_X0_rows : GoodIn wsX11_came (wsV RX11 372 RX0 yX0_rows wsX0_rows) := gA_u g4_133
theorem ggX11_who_X11_cameRefusal : GoodIn wsX11_who wsX11_cameRefusal := gA_u gbX11_cameRefusal
theorem gX11_who_X11_cameRefusal : GoodIn wsX11_who (wsV RX11 369 RX11 yX11_cameRefusal wsX11_cameRefusal) := gA_u g4_132
theorem ggX11_who_X10_has : GoodIn wsX11_who wsX10_has := gA_u gbX10_has
set_option maxRecDepth 20000 in
theorem g4_134 : GoodIn wsA (wsV RX11 376 RX10 yX10_has wsX10_has) := goodIn_app (gA_t gbX11_who (goodIn_r _ [44, 41, 42, 24] rfl (by decide +kernel))) gbX10_has
theorem gX11_who_X10_has : GoodIn wsX11_who (wsV RX11 376 RX10 yX10_has wsX10_has) := gA_u g4_134
theorem ggX11_who_X5_look : GoodIn wsX11_who wsX5_look := gA_u gbX5_look
theorem gX11_who_X5_look : GoodIn wsX11_who (wsV RX11 262 RX5 yX5_look wsX5_look) := gA_u g4_109
theorem ggX11_who_X0_comers : GoodIn wsX11_who wsX0_comers := gA_u gbX0_comers
set_option maxRecDepth 20000 in
theorem g4_135 : GoodIn wsA (wsV RX11 379 RX0 yX0_comers wsX0_comers) := goodIn_app (gA_t gbX11_who (goodIn_r _ [135, 136, 137, 138] rfl (by decide +kernel))) gbX0_comers
theorem gX11_who_X0_comers : GoodIn wsX11_who (wsV RX11 379 RX0 yX0_comers wsX0_comers) := gA_u g4_135
theorem ggX11_cameRefusal_X11_trayRefusal : GoodIn wsX11_cameRefusal wsX11_trayRefusal := gA_u gbX11_trayRefusal
theorem gX11_cameRefusal_X11_trayRefusal : GoodIn wsX11_cameRefusal (wsV RX11 255 RX11 yX11_trayRefusal wsX11_trayRefusal) := gA_u g4_107
theorem ggX11_cameRefusal_X10_size : GoodIn wsX11_cameRefusal wsX10_size := gA_u gbX10_size
theorem gX11_cameRefusal_X10_size : GoodIn wsX11_cameRefusal (wsV RX11 239 RX10 yX10_size wsX10_size) := gA_u g4_105
theorem ggX11_cameRefusal_X10_numberAt : GoodIn wsX11_cameRefusal wsX10_numberAt := gA_u gbX10_numberAt
theorem gX11_cameRefusal_X10_numberAt : GoodIn wsX11_cameRefusal (wsV RX11 242 RX10 yX10_numberAt wsX10_numberAt) := gA_u g4_106
theorem ggX11_trayRefusal_X11_isTray : GoodIn wsX11_trayRefusal wsX11_isTray := gA_u gbX11_isTray
theorem gX11_trayRefusal_X11_isTray : GoodIn wsX11_trayRefusal (va_wsS RX11 232 yX11_isTray wsX11_isTray) := gA_u g4_103
theorem ggX11_trayRefusal_X10_isMissing : GoodIn wsX11_trayRefusal wsX10_isMissing := gA_u gbX10_isMissing
theorem gX11_trayRefusal_X10_isMissing : GoodIn wsX11_trayRefusal (wsV RX11 235 RX10 yX10_isMissing wsX10_isMissing) := gA_u g4_104
theorem ggX11_numbers_X11_isTray : GoodIn wsX11_numbers wsX11_isTray := gA_u gbX11_isTray
theorem gX11_numbers_X11_isTray : GoodIn wsX11_numbers (va_wsS RX11 232 yX11_isTray wsX11_isTray) := gA_u g4_103
theorem ggX11_numbers_X10_layOut : GoodIn wsX11_numbers wsX10_layOut := gA_u gbX10_layOut
set_option maxRecDepth 20000 in
theorem g4_136 : GoodIn wsA (wsV RX11 383 RX10 yX10_layOut wsX10_layOut) := goodIn_app (gA_t gbX11_numbers (goodIn_r _ [6, 7, 8, 9] rfl (by decide +kernel))) gbX10_layOut
theorem gX11_numbers_X10_layOut : GoodIn wsX11_numbers (wsV RX11 383 RX10 yX10_layOut wsX10_layOut) := gA_u g4_136
theorem ggX11_write_X11_trayRefusal : GoodIn wsX11_write wsX11_trayRefusal := gA_u gbX11_trayRefusal
theorem gX11_write_X11_trayRefusal : GoodIn wsX11_write (wsV RX11 255 RX11 yX11_trayRefusal wsX11_trayRefusal) := gA_u g4_107
theorem ggX11_write_X10_has : GoodIn wsX11_write wsX10_has := gA_u gbX10_has
theorem gX11_write_X10_has : GoodIn wsX11_write (wsV RX11 376 RX10 yX10_has wsX10_has) := gA_u g4_134
theorem ggX11_write_X10_put : GoodIn wsX11_write wsX10_put := gA_u gbX10_put
set_option maxRecDepth 20000 in
theorem g4_137 : GoodIn wsA (wsV RX11 389 RX10 yX10_put wsX10_put) := goodIn_app (gA_t gbX11_write (goodIn_r _ [21, 22, 23, 14] rfl (by decide +kernel))) gbX10_put
theorem gX11_write_X10_put : GoodIn wsX11_write (wsV RX11 389 RX10 yX10_put wsX10_put) := gA_u g4_137
theorem ggX11_write_X10_numberAt : GoodIn wsX11_write wsX10_numberAt := gA_u gbX10_numberAt
theorem gX11_write_X10_numberAt : GoodIn wsX11_write (wsV RX11 242 RX10 yX10_numberAt wsX10_numberAt) := gA_u g4_106
theorem ggX11_lists_X11_trayRefusal : GoodIn wsX11_lists wsX11_trayRefusal := gA_u gbX11_trayRefusal
theorem gX11_lists_X11_trayRefusal : GoodIn wsX11_lists (wsV RX11 255 RX11 yX11_trayRefusal wsX11_trayRefusal) := gA_u g4_107
theorem ggX11_lists_X5_look : GoodIn wsX11_lists wsX5_look := gA_u gbX5_look
theorem gX11_lists_X5_look : GoodIn wsX11_lists (wsV RX11 262 RX5 yX5_look wsX5_look) := gA_u g4_109
theorem ggX11_lists_X5_shortest : GoodIn wsX11_lists wsX5_shortest := gA_u gbX5_shortest
theorem gX11_lists_X5_shortest : GoodIn wsX11_lists (wsV RX11 266 RX5 yX5_shortest wsX5_shortest) := gA_u g4_110
theorem ggX11_lists_X10_size : GoodIn wsX11_lists wsX10_size := gA_u gbX10_size
theorem gX11_lists_X10_size : GoodIn wsX11_lists (wsV RX11 239 RX10 yX10_size wsX10_size) := gA_u g4_105
theorem ggX11_lists_X5_comerAt : GoodIn wsX11_lists wsX5_comerAt := gA_u gbX5_comerAt
theorem gX11_lists_X5_comerAt : GoodIn wsX11_lists (wsV RX11 269 RX5 yX5_comerAt wsX5_comerAt) := gA_u g4_111
theorem ggX11_lists_X10_put : GoodIn wsX11_lists wsX10_put := gA_u gbX10_put
theorem gX11_lists_X10_put : GoodIn wsX11_lists (wsV RX11 389 RX10 yX10_put wsX10_put) := gA_u g4_137
theorem ggX11_image_X7_copyFrom : GoodIn wsX11_image wsX7_copyFrom := gA_u gbX7_copyFrom
set_option maxRecDepth 20000 in
theorem g4_138 : GoodIn wsA (wsV RX11 398 RX7 yX7_copyFrom wsX7_copyFrom) := goodIn_app (gA_t gbX11_image (goodIn_r _ [7, 8, 9, 10] rfl (by decide +kernel))) gbX7_copyFrom
theorem gX11_image_X7_copyFrom : GoodIn wsX11_image (wsV RX11 398 RX7 yX7_copyFrom wsX7_copyFrom) := gA_u g4_138
theorem ggX11_image_X9_copyFrom : GoodIn wsX11_image wsX9_copyFrom := gA_u gbX9_copyFrom
theorem gX11_image_X9_copyFrom : GoodIn wsX11_image (wsV RX11 124 RX9 yX9_copyFrom wsX9_copyFrom) := gA_u g4_83
theorem ggX11_restore_X7_copyFrom : GoodIn wsX11_restore wsX7_copyFrom := gA_u gbX7_copyFrom
theorem gX11_restore_X7_copyFrom : GoodIn wsX11_restore (wsV RX11 398 RX7 yX7_copyFrom wsX7_copyFrom) := gA_u g4_138
theorem ggX11_restore_X9_copyFrom : GoodIn wsX11_restore wsX9_copyFrom := gA_u gbX9_copyFrom
theorem gX11_restore_X9_copyFrom : GoodIn wsX11_restore (wsV RX11 124 RX9 yX9_copyFrom wsX9_copyFrom) := gA_u g4_83
theorem ggX11_restore_X11_beginAnew : GoodIn wsX11_restore wsX11_beginAnew := gA_u gbX11_beginAnew
theorem gX11_restore_X11_beginAnew : GoodIn wsX11_restore (wsV RX11 128 RX11 yX11_beginAnew wsX11_beginAnew) := gA_u g4_84
theorem ggX11_count_X9_isShut : GoodIn wsX11_count wsX9_isShut := gA_u gbX9_isShut
theorem gX11_count_X9_isShut : GoodIn wsX11_count (wsV RX11 320 RX9 yX9_isShut wsX9_isShut) := gA_u g4_123
theorem ggX11_count_X7_together : GoodIn wsX11_count wsX7_together := gA_u gbX7_together
set_option maxRecDepth 20000 in
theorem g4_139 : GoodIn wsA (wsV RX11 404 RX7 yX7_together wsX7_together) := goodIn_app (gA_t gbX11_count (goodIn_r _ [26, 27, 28, 29] rfl (by decide +kernel))) gbX7_together
theorem gX11_count_X7_together : GoodIn wsX11_count (wsV RX11 404 RX7 yX7_together wsX7_together) := gA_u g4_139
set_option maxRecDepth 20000 in
theorem ggX12_init_X12_plain : GoodIn wsX12_init wsX12_plain := goodIn_r _ [30] rfl (by decide +kernel)
set_option maxRecDepth 20000 in
theorem gX12_init_X12_plain : GoodIn wsX12_init (va_wsS RX12 76 yX12_plain wsX12_plain) := goodIn_app (goodIn_r _ [27, 28, 29] rfl (by decide +kernel)) ggX12_init_X12_plain
set_option maxRecDepth 20000 in
theorem ggX12_keyAt_J0_length_8abf5 : GoodIn wsX12_keyAt wsJ0_length_8abf5 := goodIn_r _ [8, 9, 10, 11, 12, 7, 13, 14, 15] rfl (by decide +kernel)
set_option maxRecDepth 20000 in
theorem gX12_keyAt_J0_length_8abf5 : GoodIn wsX12_keyAt (wsV RX12 88 RJ0 yJ0_length_8abf5 wsJ0_length_8abf5) := goodIn_app (goodIn_r _ [4, 5, 6, 7] rfl (by decide +kernel)) ggX12_keyAt_J0_length_8abf5
set_option maxRecDepth 20000 in
theorem ggX12_keyAt_J0_charAt_5068e : GoodIn wsX12_keyAt wsJ0_charAt_5068e := goodIn_r _ [19, 9, 20, 21, 22, 7, 23, 14, 15, 24, 25, 26, 27, 28, 29, 30, 31, 32, 33, 34, 35, 36, 37, 38, 39, 40, 41, 42, 43, 44, 45, 46, 47, 48, 49, 50, 51, 52] rfl (by decide +kernel)
set_option maxRecDepth 20000 in
theorem gX12_keyAt_J0_charAt_5068e : GoodIn wsX12_keyAt (wsV RX12 94 RJ0 yJ0_charAt_5068e wsJ0_charAt_5068e) := goodIn_app (goodIn_r _ [16, 17, 18, 7] rfl (by decide +kernel)) ggX12_keyAt_J0_charAt_5068e
theorem ggX12_next_X12_see : GoodIn wsX12_next wsX12_see := gA_u gbX12_see
set_option maxRecDepth 20000 in
theorem g4_140 : GoodIn wsA (wsV RX12 104 RX12 yX12_see wsX12_see) := goodIn_app (gA_t gbX12_next (goodIn_r _ [6, 7, 8, 9] rfl (by decide +kernel))) gbX12_see
theorem gX12_next_X12_see : GoodIn wsX12_next (wsV RX12 104 RX12 yX12_see wsX12_see) := gA_u g4_140
theorem ggX12_next_X12_isSmall : GoodIn wsX12_next wsX12_isSmall := gA_u gbX12_isSmall
set_option maxRecDepth 20000 in
theorem g4_141 : GoodIn wsA (va_wsS RX12 111 yX12_isSmall wsX12_isSmall) := goodIn_app (gA_t gbX12_next (goodIn_r _ [12, 13, 9] rfl (by decide +kernel))) gbX12_isSmall
theorem gX12_next_X12_isSmall : GoodIn wsX12_next (va_wsS RX12 111 yX12_isSmall wsX12_isSmall) := gA_u g4_141
theorem ggX12_next_X12_keyAt : GoodIn wsX12_next wsX12_keyAt := gA_u gbX12_keyAt
set_option maxRecDepth 20000 in
theorem g4_142 : GoodIn wsA (wsV RX12 115 RX12 yX12_keyAt wsX12_keyAt) := goodIn_app (gA_t gbX12_next (goodIn_r _ [15, 16, 17, 9] rfl (by decide +kernel))) gbX12_keyAt
theorem gX12_next_X12_keyAt : GoodIn wsX12_next (wsV RX12 115 RX12 yX12_keyAt wsX12_keyAt) := gA_u g4_142
theorem ggX12_next_X12_isDigit : GoodIn wsX12_next wsX12_isDigit := gA_u gbX12_isDigit
set_option maxRecDepth 20000 in
theorem g4_143 : GoodIn wsA (va_wsS RX12 118 yX12_isDigit wsX12_isDigit) := goodIn_app (gA_t gbX12_next (goodIn_r _ [68, 69, 9] rfl (by decide +kernel))) gbX12_isDigit
theorem gX12_next_X12_isDigit : GoodIn wsX12_next (va_wsS RX12 118 yX12_isDigit wsX12_isDigit) := gA_u g4_143
set_option maxRecDepth 20000 in
theorem ggX12_next_J0_length_8abf5 : GoodIn wsX12_next wsJ0_length_8abf5 := goodIn_r _ [23, 24, 25, 26, 27, 22, 28, 29, 30] rfl (by decide +kernel)
set_option maxRecDepth 20000 in
theorem gX12_next_J0_length_8abf5 : GoodIn wsX12_next (wsV RX12 88 RJ0 yJ0_length_8abf5 wsJ0_length_8abf5) := goodIn_app (goodIn_r _ [19, 20, 21, 22] rfl (by decide +kernel)) ggX12_next_J0_length_8abf5
set_option maxRecDepth 20000 in
theorem ggX12_next_J0_charAt_5068e : GoodIn wsX12_next wsJ0_charAt_5068e := goodIn_r _ [34, 24, 35, 36, 37, 22, 38, 29, 30, 39, 40, 41, 42, 43, 44, 45, 46, 47, 48, 49, 50, 51, 52, 53, 54, 55, 56, 57, 58, 59, 60, 61, 62, 63, 64, 65, 66, 67] rfl (by decide +kernel)
set_option maxRecDepth 20000 in
theorem gX12_next_J0_charAt_5068e : GoodIn wsX12_next (wsV RX12 94 RJ0 yJ0_charAt_5068e wsJ0_charAt_5068e) := goodIn_app (goodIn_r _ [31, 32, 33, 22] rfl (by decide +kernel)) ggX12_next_J0_charAt_5068e
theorem ggX12_eats_X12_is : GoodIn wsX12_eats wsX12_is := gA_u gbX12_is
set_option maxRecDepth 20000 in
theorem g4_144 : GoodIn wsA (wsV RX12 132 RX12 yX12_is wsX12_is) := goodIn_app (gA_t gbX12_eats (goodIn_r _ [1, 2, 3, 4] rfl (by decide +kernel))) gbX12_is
theorem gX12_eats_X12_is : GoodIn wsX12_eats (wsV RX12 132 RX12 yX12_is wsX12_is) := gA_u g4_144
theorem ggX12_eats_X12_next : GoodIn wsX12_eats wsX12_next := gA_u gbX12_next
set_option maxRecDepth 20000 in
theorem g4_145 : GoodIn wsA (wsV RX12 135 RX12 yX12_next wsX12_next) := goodIn_app (gA_t gbX12_eats (goodIn_r _ [8, 9, 10, 4] rfl (by decide +kernel))) gbX12_next
theorem gX12_eats_X12_next : GoodIn wsX12_eats (wsV RX12 135 RX12 yX12_next wsX12_next) := gA_u g4_145
theorem ggX12_takes_X12_is : GoodIn wsX12_takes wsX12_is := gA_u gbX12_is
theorem gX12_takes_X12_is : GoodIn wsX12_takes (wsV RX12 132 RX12 yX12_is wsX12_is) := gA_u g4_144
theorem ggX12_takes_X12_fails : GoodIn wsX12_takes wsX12_fails := gA_u gbX12_fails
set_option maxRecDepth 20000 in
theorem g4_146 : GoodIn wsA (wsV RX12 138 RX12 yX12_fails wsX12_fails) := goodIn_app (gA_t gbX12_takes (goodIn_r _ [9, 10, 11, 6] rfl (by decide +kernel))) gbX12_fails
theorem gX12_takes_X12_fails : GoodIn wsX12_takes (wsV RX12 138 RX12 yX12_fails wsX12_fails) := gA_u g4_146
theorem ggX12_takes_X12_within : GoodIn wsX12_takes wsX12_within := gA_u gbX12_within
set_option maxRecDepth 20000 in
theorem g4_147 : GoodIn wsA (va_wsS RX12 142 yX12_within wsX12_within) := goodIn_app (gA_t gbX12_takes (goodIn_r _ [15, 16, 6] rfl (by decide +kernel))) gbX12_within
theorem gX12_takes_X12_within : GoodIn wsX12_takes (va_wsS RX12 142 yX12_within wsX12_within) := gA_u g4_147
theorem ggX12_takes_X12_next : GoodIn wsX12_takes wsX12_next := gA_u gbX12_next
theorem gX12_takes_X12_next : GoodIn wsX12_takes (wsV RX12 135 RX12 yX12_next wsX12_next) := gA_u g4_145
theorem ggX12_goesIn_X12_fails : GoodIn wsX12_goesIn wsX12_fails := gA_u gbX12_fails
theorem gX12_goesIn_X12_fails : GoodIn wsX12_goesIn (wsV RX12 138 RX12 yX12_fails wsX12_fails) := gA_u g4_146
theorem ggX12_goesIn_X12_next : GoodIn wsX12_goesIn wsX12_next := gA_u gbX12_next
theorem gX12_goesIn_X12_next : GoodIn wsX12_goesIn (wsV RX12 135 RX12 yX12_next wsX12_next) := gA_u g4_145
theorem ggX12_readAtom_X12_is : GoodIn wsX12_readAtom wsX12_is := gA_u gbX12_is
theorem gX12_readAtom_X12_is : GoodIn wsX12_readAtom (wsV RX12 132 RX12 yX12_is wsX12_is) := gA_u g4_144
theorem ggX12_readAtom_X12_codes : GoodIn wsX12_readAtom wsX12_codes := gA_u gbX12_codes
set_option maxRecDepth 20000 in
theorem g4_148 : GoodIn wsA (wsV RX12 146 RX12 yX12_codes wsX12_codes) := goodIn_app (gA_t gbX12_readAtom (goodIn_r _ [9, 10, 11, 7] rfl (by decide +kernel))) gbX12_codes
theorem gX12_readAtom_X12_codes : GoodIn wsX12_readAtom (wsV RX12 146 RX12 yX12_codes wsX12_codes) := gA_u g4_148
theorem ggX12_readAtom_X12_next : GoodIn wsX12_readAtom wsX12_next := gA_u gbX12_next
theorem gX12_readAtom_X12_next : GoodIn wsX12_readAtom (wsV RX12 135 RX12 yX12_next wsX12_next) := gA_u g4_145
theorem ggX12_readAtom_X12_wordOf : GoodIn wsX12_readAtom wsX12_wordOf := gA_u gbX12_wordOf
set_option maxRecDepth 20000 in
theorem g4_149 : GoodIn wsA (wsV RX12 149 RX12 yX12_wordOf wsX12_wordOf) := goodIn_app (gA_t gbX12_readAtom (goodIn_r _ [85, 86, 87, 7] rfl (by decide +kernel))) gbX12_wordOf
theorem gX12_readAtom_X12_wordOf : GoodIn wsX12_readAtom (wsV RX12 149 RX12 yX12_wordOf wsX12_wordOf) := gA_u g4_149
theorem ggX12_readAtom_X12_goesIn : GoodIn wsX12_readAtom wsX12_goesIn := gA_u gbX12_goesIn
set_option maxRecDepth 20000 in
theorem g4_150 : GoodIn wsA (wsV RX12 152 RX12 yX12_goesIn wsX12_goesIn) := goodIn_app (gA_t gbX12_readAtom (goodIn_r _ [89, 90, 91, 7] rfl (by decide +kernel))) gbX12_goesIn
theorem gX12_readAtom_X12_goesIn : GoodIn wsX12_readAtom (wsV RX12 152 RX12 yX12_goesIn wsX12_goesIn) := gA_u g4_150
theorem ggX12_readAtom_X12_readSum : GoodIn wsX12_readAtom wsX12_readSum := gA_u gbX12_readSum
set_option maxRecDepth 20000 in
theorem g4_151 : GoodIn wsA (wsV RX12 155 RX12 yX12_readSum wsX12_readSum) := goodIn_app (gA_t gbX12_readAtom (goodIn_r _ [98, 99, 100, 7] rfl (by decide +kernel))) gbX12_readSum
theorem gX12_readAtom_X12_readSum : GoodIn wsX12_readAtom (wsV RX12 155 RX12 yX12_readSum wsX12_readSum) := gA_u g4_151
theorem ggX12_readAtom_X12_eats : GoodIn wsX12_readAtom wsX12_eats := gA_u gbX12_eats
set_option maxRecDepth 20000 in
theorem g4_152 : GoodIn wsA (wsV RX12 158 RX12 yX12_eats wsX12_eats) := goodIn_app (gA_t gbX12_readAtom (goodIn_r _ [101, 102, 103, 7] rfl (by decide +kernel))) gbX12_eats
theorem gX12_readAtom_X12_eats : GoodIn wsX12_readAtom (wsV RX12 158 RX12 yX12_eats wsX12_eats) := gA_u g4_152
theorem ggX12_readAtom_X12_fails : GoodIn wsX12_readAtom wsX12_fails := gA_u gbX12_fails
theorem gX12_readAtom_X12_fails : GoodIn wsX12_readAtom (wsV RX12 138 RX12 yX12_fails wsX12_fails) := gA_u g4_146
theorem ggX12_readTerm_X12_readAtom : GoodIn wsX12_readTerm wsX12_readAtom := gA_u gbX12_readAtom
set_option maxRecDepth 20000 in
theorem g4_153 : GoodIn wsA (wsV RX12 161 RX12 yX12_readAtom wsX12_readAtom) := goodIn_app (gA_t gbX12_readTerm (goodIn_r _ [1, 2, 3, 4] rfl (by decide +kernel))) gbX12_readAtom
theorem gX12_readTerm_X12_readAtom : GoodIn wsX12_readTerm (wsV RX12 161 RX12 yX12_readAtom wsX12_readAtom) := gA_u g4_153
theorem ggX12_readTerm_X12_eats : GoodIn wsX12_readTerm wsX12_eats := gA_u gbX12_eats
theorem gX12_readTerm_X12_eats : GoodIn wsX12_readTerm (wsV RX12 158 RX12 yX12_eats wsX12_eats) := gA_u g4_152
theorem ggX12_readTerm_X12_codes : GoodIn wsX12_readTerm wsX12_codes := gA_u gbX12_codes
theorem gX12_readTerm_X12_codes : GoodIn wsX12_readTerm (wsV RX12 146 RX12 yX12_codes wsX12_codes) := gA_u g4_148
theorem ggX12_readSum_X12_readTerm : GoodIn wsX12_readSum wsX12_readTerm := gA_u gbX12_readTerm
set_option maxRecDepth 20000 in
theorem g4_154 : GoodIn wsA (wsV RX12 164 RX12 yX12_readTerm wsX12_readTerm) := goodIn_app (gA_t gbX12_readSum (goodIn_r _ [2, 3, 4, 5] rfl (by decide +kernel))) gbX12_readTerm
theorem gX12_readSum_X12_readTerm : GoodIn wsX12_readSum (wsV RX12 164 RX12 yX12_readTerm wsX12_readTerm) := gA_u g4_154
theorem ggX12_readSum_X12_is : GoodIn wsX12_readSum wsX12_is := gA_u gbX12_is
theorem gX12_readSum_X12_is : GoodIn wsX12_readSum (wsV RX12 132 RX12 yX12_is wsX12_is) := gA_u g4_144
theorem ggX12_readSum_X12_next : GoodIn wsX12_readSum wsX12_next := gA_u gbX12_next
theorem gX12_readSum_X12_next : GoodIn wsX12_readSum (wsV RX12 135 RX12 yX12_next wsX12_next) := gA_u g4_145
theorem ggX12_readSum_X12_codes : GoodIn wsX12_readSum wsX12_codes := gA_u gbX12_codes
theorem gX12_readSum_X12_codes : GoodIn wsX12_readSum (wsV RX12 146 RX12 yX12_codes wsX12_codes) := gA_u g4_148
theorem ggX12_readUnit_X12_is : GoodIn wsX12_readUnit wsX12_is := gA_u gbX12_is
theorem gX12_readUnit_X12_is : GoodIn wsX12_readUnit (wsV RX12 132 RX12 yX12_is wsX12_is) := gA_u g4_144
theorem ggX12_readUnit_X12_goesIn : GoodIn wsX12_readUnit wsX12_goesIn := gA_u gbX12_goesIn
theorem gX12_readUnit_X12_goesIn : GoodIn wsX12_readUnit (wsV RX12 152 RX12 yX12_goesIn wsX12_goesIn) := gA_u g4_150
theorem ggX12_readUnit_X12_readUnit : GoodIn wsX12_readUnit wsX12_readUnit := gA_u gbX12_readUnit
set_option maxRecDepth 20000 in
theorem g4_155 : GoodIn wsA (wsV RX12 167 RX12 yX12_readUnit wsX12_readUnit) := goodIn_app (gA_t gbX12_readUnit (goodIn_r _ [89, 90, 91, 4] rfl (by decide +kernel))) gbX12_readUnit
theorem gX12_readUnit_X12_readUnit : GoodIn wsX12_readUnit (wsV RX12 167 RX12 yX12_readUnit wsX12_readUnit) := gA_u g4_155
theorem ggX12_readUnit_X12_codes : GoodIn wsX12_readUnit wsX12_codes := gA_u gbX12_codes
theorem gX12_readUnit_X12_codes : GoodIn wsX12_readUnit (wsV RX12 146 RX12 yX12_codes wsX12_codes) := gA_u g4_148
theorem ggX12_readUnit_X12_readTruth : GoodIn wsX12_readUnit wsX12_readTruth := gA_u gbX12_readTruth
set_option maxRecDepth 20000 in
theorem g4_156 : GoodIn wsA (wsV RX12 170 RX12 yX12_readTruth wsX12_readTruth) := goodIn_app (gA_t gbX12_readUnit (goodIn_r _ [97, 98, 99, 4] rfl (by decide +kernel))) gbX12_readTruth
theorem gX12_readUnit_X12_readTruth : GoodIn wsX12_readUnit (wsV RX12 170 RX12 yX12_readTruth wsX12_readTruth) := gA_u g4_156
theorem ggX12_readUnit_X12_eats : GoodIn wsX12_readUnit wsX12_eats := gA_u gbX12_eats
theorem gX12_readUnit_X12_eats : GoodIn wsX12_readUnit (wsV RX12 158 RX12 yX12_eats wsX12_eats) := gA_u g4_152
theorem ggX12_readUnit_X12_fails : GoodIn wsX12_readUnit wsX12_fails := gA_u gbX12_fails
theorem gX12_readUnit_X12_fails : GoodIn wsX12_readUnit (wsV RX12 138 RX12 yX12_fails wsX12_fails) := gA_u g4_146
theorem ggX12_readUnit_X12_readSum : GoodIn wsX12_readUnit wsX12_readSum := gA_u gbX12_readSum
theorem gX12_readUnit_X12_readSum : GoodIn wsX12_readUnit (wsV RX12 155 RX12 yX12_readSum wsX12_readSum) := gA_u g4_151
theorem ggX12_readUnit_X12_next : GoodIn wsX12_readUnit wsX12_next := gA_u gbX12_next
theorem gX12_readUnit_X12_next : GoodIn wsX12_readUnit (wsV RX12 135 RX12 yX12_next wsX12_next) := gA_u g4_145
theorem ggX12_readBoth_X12_readUnit : GoodIn wsX12_readBoth wsX12_readUnit := gA_u gbX12_readUnit
theorem gX12_readBoth_X12_readUnit : GoodIn wsX12_readBoth (wsV RX12 167 RX12 yX12_readUnit wsX12_readUnit) := gA_u g4_155
theorem ggX12_readBoth_X12_eats : GoodIn wsX12_readBoth wsX12_eats := gA_u gbX12_eats
theorem gX12_readBoth_X12_eats : GoodIn wsX12_readBoth (wsV RX12 158 RX12 yX12_eats wsX12_eats) := gA_u g4_152
theorem ggX12_readBoth_X12_codes : GoodIn wsX12_readBoth wsX12_codes := gA_u gbX12_codes
theorem gX12_readBoth_X12_codes : GoodIn wsX12_readBoth (wsV RX12 146 RX12 yX12_codes wsX12_codes) := gA_u g4_148
theorem ggX12_readTruth_X12_readBoth : GoodIn wsX12_readTruth wsX12_readBoth := gA_u gbX12_readBoth
set_option maxRecDepth 20000 in
theorem g4_157 : GoodIn wsA (wsV RX12 173 RX12 yX12_readBoth wsX12_readBoth) := goodIn_app (gA_t gbX12_readTruth (goodIn_r _ [1, 2, 3, 4] rfl (by decide +kernel))) gbX12_readBoth
theorem gX12_readTruth_X12_readBoth : GoodIn wsX12_readTruth (wsV RX12 173 RX12 yX12_readBoth wsX12_readBoth) := gA_u g4_157
theorem ggX12_readTruth_X12_eats : GoodIn wsX12_readTruth wsX12_eats := gA_u gbX12_eats
theorem gX12_readTruth_X12_eats : GoodIn wsX12_readTruth (wsV RX12 158 RX12 yX12_eats wsX12_eats) := gA_u g4_152
theorem ggX12_readTruth_X12_codes : GoodIn wsX12_readTruth wsX12_codes := gA_u gbX12_codes
theorem gX12_readTruth_X12_codes : GoodIn wsX12_readTruth (wsV RX12 146 RX12 yX12_codes wsX12_codes) := gA_u g4_148
theorem ggX12_readFlag_X12_eats : GoodIn wsX12_readFlag wsX12_eats := gA_u gbX12_eats
theorem gX12_readFlag_X12_eats : GoodIn wsX12_readFlag (wsV RX12 158 RX12 yX12_eats wsX12_eats) := gA_u g4_152
theorem ggX12_readFlag_X12_takes : GoodIn wsX12_readFlag wsX12_takes := gA_u gbX12_takes
set_option maxRecDepth 20000 in
theorem g4_158 : GoodIn wsA (wsV RX12 176 RX12 yX12_takes wsX12_takes) := goodIn_app (gA_t gbX12_readFlag (goodIn_r _ [85, 86, 87, 6] rfl (by decide +kernel))) gbX12_takes
theorem gX12_readFlag_X12_takes : GoodIn wsX12_readFlag (wsV RX12 176 RX12 yX12_takes wsX12_takes) := gA_u g4_158
theorem ggX12_readKind_X12_fails : GoodIn wsX12_readKind wsX12_fails := gA_u gbX12_fails
theorem gX12_readKind_X12_fails : GoodIn wsX12_readKind (wsV RX12 138 RX12 yX12_fails wsX12_fails) := gA_u g4_146
theorem ggX12_readKind_X12_next : GoodIn wsX12_readKind wsX12_next := gA_u gbX12_next
theorem gX12_readKind_X12_next : GoodIn wsX12_readKind (wsV RX12 135 RX12 yX12_next wsX12_next) := gA_u g4_145
theorem ggX12_readKind_X12_eats : GoodIn wsX12_readKind wsX12_eats := gA_u gbX12_eats
theorem gX12_readKind_X12_eats : GoodIn wsX12_readKind (wsV RX12 158 RX12 yX12_eats wsX12_eats) := gA_u g4_152
theorem ggX12_readKind_X12_takes : GoodIn wsX12_readKind wsX12_takes := gA_u gbX12_takes
theorem gX12_readKind_X12_takes : GoodIn wsX12_readKind (wsV RX12 176 RX12 yX12_takes wsX12_takes) := gA_u g4_158
theorem ggX12_readKind_X12_readFlag : GoodIn wsX12_readKind wsX12_readFlag := gA_u gbX12_readFlag
set_option maxRecDepth 20000 in
theorem g4_159 : GoodIn wsA (wsV RX12 180 RX12 yX12_readFlag wsX12_readFlag) := goodIn_app (gA_t gbX12_readKind (goodIn_r _ [97, 98, 99, 6] rfl (by decide +kernel))) gbX12_readFlag
theorem gX12_readKind_X12_readFlag : GoodIn wsX12_readKind (wsV RX12 180 RX12 yX12_readFlag wsX12_readFlag) := gA_u g4_159
theorem ggX12_readMark_X12_eats : GoodIn wsX12_readMark wsX12_eats := gA_u gbX12_eats
theorem gX12_readMark_X12_eats : GoodIn wsX12_readMark (wsV RX12 158 RX12 yX12_eats wsX12_eats) := gA_u g4_152
theorem ggX12_readMark_X12_takes : GoodIn wsX12_readMark wsX12_takes := gA_u gbX12_takes
theorem gX12_readMark_X12_takes : GoodIn wsX12_readMark (wsV RX12 176 RX12 yX12_takes wsX12_takes) := gA_u g4_158
theorem ggX12_readBuyer_X12_fails : GoodIn wsX12_readBuyer wsX12_fails := gA_u gbX12_fails
theorem gX12_readBuyer_X12_fails : GoodIn wsX12_readBuyer (wsV RX12 138 RX12 yX12_fails wsX12_fails) := gA_u g4_146
theorem ggX12_readBuyer_X12_next : GoodIn wsX12_readBuyer wsX12_next := gA_u gbX12_next
theorem gX12_readBuyer_X12_next : GoodIn wsX12_readBuyer (wsV RX12 135 RX12 yX12_next wsX12_next) := gA_u g4_145
theorem ggX12_readBuyer_X12_eats : GoodIn wsX12_readBuyer wsX12_eats := gA_u gbX12_eats
theorem gX12_readBuyer_X12_eats : GoodIn wsX12_readBuyer (wsV RX12 158 RX12 yX12_eats wsX12_eats) := gA_u g4_152
theorem ggX12_readBuyer_X12_takes : GoodIn wsX12_readBuyer wsX12_takes := gA_u gbX12_takes
theorem gX12_readBuyer_X12_takes : GoodIn wsX12_readBuyer (wsV RX12 176 RX12 yX12_takes wsX12_takes) := gA_u g4_158
theorem ggX12_readBuyer_X12_readMark : GoodIn wsX12_readBuyer wsX12_readMark := gA_u gbX12_readMark
set_option maxRecDepth 20000 in
theorem g4_160 : GoodIn wsA (wsV RX12 183 RX12 yX12_readMark wsX12_readMark) := goodIn_app (gA_t gbX12_readBuyer (goodIn_r _ [97, 98, 99, 6] rfl (by decide +kernel))) gbX12_readMark
theorem gX12_readBuyer_X12_readMark : GoodIn wsX12_readBuyer (wsV RX12 183 RX12 yX12_readMark wsX12_readMark) := gA_u g4_160
theorem ggX12_readLaw_X12_next : GoodIn wsX12_readLaw wsX12_next := gA_u gbX12_next
theorem gX12_readLaw_X12_next : GoodIn wsX12_readLaw (wsV RX12 135 RX12 yX12_next wsX12_next) := gA_u g4_145
theorem ggX12_readLaw_X12_eats : GoodIn wsX12_readLaw wsX12_eats := gA_u gbX12_eats
theorem gX12_readLaw_X12_eats : GoodIn wsX12_readLaw (wsV RX12 158 RX12 yX12_eats wsX12_eats) := gA_u g4_152
theorem ggX12_readLaw_X12_fails : GoodIn wsX12_readLaw wsX12_fails := gA_u gbX12_fails
theorem gX12_readLaw_X12_fails : GoodIn wsX12_readLaw (wsV RX12 138 RX12 yX12_fails wsX12_fails) := gA_u g4_146
theorem ggX12_readLaw_X12_readSum : GoodIn wsX12_readLaw wsX12_readSum := gA_u gbX12_readSum
theorem gX12_readLaw_X12_readSum : GoodIn wsX12_readLaw (wsV RX12 155 RX12 yX12_readSum wsX12_readSum) := gA_u g4_151
theorem ggX12_readLaw_X12_readTruth : GoodIn wsX12_readLaw wsX12_readTruth := gA_u gbX12_readTruth
theorem gX12_readLaw_X12_readTruth : GoodIn wsX12_readLaw (wsV RX12 170 RX12 yX12_readTruth wsX12_readTruth) := gA_u g4_156
theorem ggX12_readLine_X12_is : GoodIn wsX12_readLine wsX12_is := gA_u gbX12_is
theorem gX12_readLine_X12_is : GoodIn wsX12_readLine (wsV RX12 132 RX12 yX12_is wsX12_is) := gA_u g4_144
theorem ggX12_readLine_X12_readKind : GoodIn wsX12_readLine wsX12_readKind := gA_u gbX12_readKind
set_option maxRecDepth 20000 in
theorem g4_161 : GoodIn wsA (wsV RX12 186 RX12 yX12_readKind wsX12_readKind) := goodIn_app (gA_t gbX12_readLine (goodIn_r _ [8, 9, 10, 6] rfl (by decide +kernel))) gbX12_readKind
theorem gX12_readLine_X12_readKind : GoodIn wsX12_readLine (wsV RX12 186 RX12 yX12_readKind wsX12_readKind) := gA_u g4_161
theorem ggX12_readLine_X12_readBuyer : GoodIn wsX12_readLine wsX12_readBuyer := gA_u gbX12_readBuyer
set_option maxRecDepth 20000 in
theorem g4_162 : GoodIn wsA (wsV RX12 189 RX12 yX12_readBuyer wsX12_readBuyer) := goodIn_app (gA_t gbX12_readLine (goodIn_r _ [105, 106, 107, 6] rfl (by decide +kernel))) gbX12_readBuyer
theorem gX12_readLine_X12_readBuyer : GoodIn wsX12_readLine (wsV RX12 189 RX12 yX12_readBuyer wsX12_readBuyer) := gA_u g4_162
theorem ggX12_readLine_X12_readLaw : GoodIn wsX12_readLine wsX12_readLaw := gA_u gbX12_readLaw
set_option maxRecDepth 20000 in
theorem g4_163 : GoodIn wsA (wsV RX12 192 RX12 yX12_readLaw wsX12_readLaw) := goodIn_app (gA_t gbX12_readLine (goodIn_r _ [113, 114, 115, 6] rfl (by decide +kernel))) gbX12_readLaw
theorem gX12_readLine_X12_readLaw : GoodIn wsX12_readLine (wsV RX12 192 RX12 yX12_readLaw wsX12_readLaw) := gA_u g4_163
theorem ggX12_readLine_X12_fails : GoodIn wsX12_readLine wsX12_fails := gA_u gbX12_fails
theorem gX12_readLine_X12_fails : GoodIn wsX12_readLine (wsV RX12 138 RX12 yX12_fails wsX12_fails) := gA_u g4_146
theorem ggX12_ends_X12_eats : GoodIn wsX12_ends wsX12_eats := gA_u gbX12_eats
theorem gX12_ends_X12_eats : GoodIn wsX12_ends (wsV RX12 158 RX12 yX12_eats wsX12_eats) := gA_u g4_152
theorem ggX12_ends_X12_fails : GoodIn wsX12_ends wsX12_fails := gA_u gbX12_fails
theorem gX12_ends_X12_fails : GoodIn wsX12_ends (wsV RX12 138 RX12 yX12_fails wsX12_fails) := gA_u g4_146
theorem ggX12_shop_X12_within : GoodIn wsX12_shop wsX12_within := gA_u gbX12_within
theorem gX12_shop_X12_within : GoodIn wsX12_shop (va_wsS RX12 142 yX12_within wsX12_within) := gA_u g4_147
set_option maxRecDepth 20000 in
theorem ggX12_shop_X12_plain : GoodIn wsX12_shop wsX12_plain := goodIn_r _ [18] rfl (by decide +kernel)
set_option maxRecDepth 20000 in
theorem gX12_shop_X12_plain : GoodIn wsX12_shop (va_wsS RX12 76 yX12_plain wsX12_plain) := goodIn_app (goodIn_r _ [16, 17, 14] rfl (by decide +kernel)) ggX12_shop_X12_plain
theorem ggX12_shop_X12_next : GoodIn wsX12_shop wsX12_next := gA_u gbX12_next
theorem gX12_shop_X12_next : GoodIn wsX12_shop (wsV RX12 135 RX12 yX12_next wsX12_next) := gA_u g4_145
theorem ggX12_shop_X12_eats : GoodIn wsX12_shop wsX12_eats := gA_u gbX12_eats
theorem gX12_shop_X12_eats : GoodIn wsX12_shop (wsV RX12 158 RX12 yX12_eats wsX12_eats) := gA_u g4_152
theorem ggX12_shop_X12_fails : GoodIn wsX12_shop wsX12_fails := gA_u gbX12_fails
theorem gX12_shop_X12_fails : GoodIn wsX12_shop (wsV RX12 138 RX12 yX12_fails wsX12_fails) := gA_u g4_146
theorem ggX12_shop_X12_ends : GoodIn wsX12_shop wsX12_ends := gA_u gbX12_ends
set_option maxRecDepth 20000 in
theorem g4_164 : GoodIn wsA (wsV RX12 195 RX12 yX12_ends wsX12_ends) := goodIn_app (gA_t gbX12_shop (goodIn_r _ [101, 102, 103, 14] rfl (by decide +kernel))) gbX12_ends
theorem gX12_shop_X12_ends : GoodIn wsX12_shop (wsV RX12 195 RX12 yX12_ends wsX12_ends) := gA_u g4_164
theorem ggX12_shop_X12_readLine : GoodIn wsX12_shop wsX12_readLine := gA_u gbX12_readLine
set_option maxRecDepth 20000 in
theorem g4_165 : GoodIn wsA (wsV RX12 198 RX12 yX12_readLine wsX12_readLine) := goodIn_app (gA_t gbX12_shop (goodIn_r _ [105, 106, 107, 14] rfl (by decide +kernel))) gbX12_readLine
theorem gX12_shop_X12_readLine : GoodIn wsX12_shop (wsV RX12 198 RX12 yX12_readLine wsX12_readLine) := gA_u g4_165
theorem ggX12_isKind_X12_within : GoodIn wsX12_isKind wsX12_within := gA_u gbX12_within
theorem gX12_isKind_X12_within : GoodIn wsX12_isKind (va_wsS RX12 142 yX12_within wsX12_within) := gA_u g4_147
theorem ggX12_isBuyer_X12_within : GoodIn wsX12_isBuyer wsX12_within := gA_u gbX12_within
theorem gX12_isBuyer_X12_within : GoodIn wsX12_isBuyer (va_wsS RX12 142 yX12_within wsX12_within) := gA_u g4_147
theorem ggX12_shown_X12_everyKind : GoodIn wsX12_shown wsX12_everyKind := gA_u gbX12_everyKind
set_option maxRecDepth 20000 in
theorem g4_166 : GoodIn wsA (wsV RX12 204 RX12 yX12_everyKind wsX12_everyKind) := goodIn_app (gA_t gbX12_shown (goodIn_r _ [2, 3, 4, 5] rfl (by decide +kernel))) gbX12_everyKind
theorem gX12_shown_X12_everyKind : GoodIn wsX12_shown (wsV RX12 204 RX12 yX12_everyKind wsX12_everyKind) := gA_u g4_166
theorem ggX12_isShutBy_X12_shown : GoodIn wsX12_isShutBy wsX12_shown := gA_u gbX12_shown
set_option maxRecDepth 20000 in
theorem g4_167 : GoodIn wsA (wsV RX12 207 RX12 yX12_shown wsX12_shown) := goodIn_app (gA_t gbX12_isShutBy (goodIn_r _ [1, 2, 3, 4] rfl (by decide +kernel))) gbX12_shown
theorem gX12_isShutBy_X12_shown : GoodIn wsX12_isShutBy (wsV RX12 207 RX12 yX12_shown wsX12_shown) := gA_u g4_167
theorem ggX12_isShut_X12_isShutBy : GoodIn wsX12_isShut wsX12_isShutBy := gA_u gbX12_isShutBy
set_option maxRecDepth 20000 in
theorem g4_168 : GoodIn wsA (wsV RX12 210 RX12 yX12_isShutBy wsX12_isShutBy) := goodIn_app (gA_t gbX12_isShut (goodIn_r _ [2, 3, 4, 5] rfl (by decide +kernel))) gbX12_isShutBy
theorem gX12_isShut_X12_isShutBy : GoodIn wsX12_isShut (wsV RX12 210 RX12 yX12_isShutBy wsX12_isShutBy) := gA_u g4_168
theorem ggX12_reckons_X12_bitsOf : GoodIn wsX12_reckons wsX12_bitsOf := gA_u gbX12_bitsOf
set_option maxRecDepth 20000 in
theorem g4_169 : GoodIn wsA (va_wsS RX12 217 yX12_bitsOf wsX12_bitsOf) := goodIn_app (gA_t gbX12_reckons (goodIn_r _ [4, 5, 6] rfl (by decide +kernel))) gbX12_bitsOf
theorem gX12_reckons_X12_bitsOf : GoodIn wsX12_reckons (va_wsS RX12 217 yX12_bitsOf wsX12_bitsOf) := gA_u g4_169
theorem ggX12_reckons_X12_between : GoodIn wsX12_reckons wsX12_between := gA_u gbX12_between
set_option maxRecDepth 20000 in
theorem g4_170 : GoodIn wsA (va_wsS RX12 220 yX12_between wsX12_between) := goodIn_app (gA_t gbX12_reckons (goodIn_r _ [8, 9, 6] rfl (by decide +kernel))) gbX12_between
theorem gX12_reckons_X12_between : GoodIn wsX12_reckons (va_wsS RX12 220 yX12_between wsX12_between) := gA_u g4_170
theorem ggX12_wantsOf_X12_reckons : GoodIn wsX12_wantsOf wsX12_reckons := gA_u gbX12_reckons
set_option maxRecDepth 20000 in
theorem g4_171 : GoodIn wsA (wsV RX12 224 RX12 yX12_reckons wsX12_reckons) := goodIn_app (gA_t gbX12_wantsOf (goodIn_r _ [2, 3, 4, 5] rfl (by decide +kernel))) gbX12_reckons
theorem gX12_wantsOf_X12_reckons : GoodIn wsX12_wantsOf (wsV RX12 224 RX12 yX12_reckons wsX12_reckons) := gA_u g4_171
theorem ggX12_mayBuy_X12_isIn : GoodIn wsX12_mayBuy wsX12_isIn := gA_u gbX12_isIn
set_option maxRecDepth 20000 in
theorem g4_172 : GoodIn wsA (va_wsS RX12 228 yX12_isIn wsX12_isIn) := goodIn_app (gA_t gbX12_mayBuy (goodIn_r _ [2, 3, 4] rfl (by decide +kernel))) gbX12_isIn
theorem gX12_mayBuy_X12_isIn : GoodIn wsX12_mayBuy (va_wsS RX12 228 yX12_isIn wsX12_isIn) := gA_u g4_172
theorem ggX12_mayBuy_X12_reckons : GoodIn wsX12_mayBuy wsX12_reckons := gA_u gbX12_reckons
theorem gX12_mayBuy_X12_reckons : GoodIn wsX12_mayBuy (wsV RX12 224 RX12 yX12_reckons wsX12_reckons) := gA_u g4_171
theorem ggX12_buysOf_X12_isShutBy : GoodIn wsX12_buysOf wsX12_isShutBy := gA_u gbX12_isShutBy
theorem gX12_buysOf_X12_isShutBy : GoodIn wsX12_buysOf (wsV RX12 210 RX12 yX12_isShutBy wsX12_isShutBy) := gA_u g4_168
theorem ggX12_buysOf_X12_mayBuy : GoodIn wsX12_buysOf wsX12_mayBuy := gA_u gbX12_mayBuy
set_option maxRecDepth 20000 in
theorem g4_173 : GoodIn wsA (wsV RX12 232 RX12 yX12_mayBuy wsX12_mayBuy) := goodIn_app (gA_t gbX12_buysOf (goodIn_r _ [15, 16, 17, 5] rfl (by decide +kernel))) gbX12_mayBuy
theorem gX12_buysOf_X12_mayBuy : GoodIn wsX12_buysOf (wsV RX12 232 RX12 yX12_mayBuy wsX12_mayBuy) := gA_u g4_173
theorem ggX12_buysOf_X12_wantsOf : GoodIn wsX12_buysOf wsX12_wantsOf := gA_u gbX12_wantsOf
set_option maxRecDepth 20000 in
theorem g4_174 : GoodIn wsA (wsV RX12 236 RX12 yX12_wantsOf wsX12_wantsOf) := goodIn_app (gA_t gbX12_buysOf (goodIn_r _ [36, 37, 38, 5] rfl (by decide +kernel))) gbX12_wantsOf
theorem gX12_buysOf_X12_wantsOf : GoodIn wsX12_buysOf (wsV RX12 236 RX12 yX12_wantsOf wsX12_wantsOf) := gA_u g4_174
theorem ggX12_buysNow_X12_buysOf : GoodIn wsX12_buysNow wsX12_buysOf := gA_u gbX12_buysOf
set_option maxRecDepth 20000 in
theorem g4_175 : GoodIn wsA (wsV RX12 239 RX12 yX12_buysOf wsX12_buysOf) := goodIn_app (gA_t gbX12_buysNow (goodIn_r _ [2, 3, 4, 5] rfl (by decide +kernel))) gbX12_buysOf
theorem gX12_buysNow_X12_buysOf : GoodIn wsX12_buysNow (wsV RX12 239 RX12 yX12_buysOf wsX12_buysOf) := gA_u g4_175
theorem ggX12_mayNow_X12_mayBuy : GoodIn wsX12_mayNow wsX12_mayBuy := gA_u gbX12_mayBuy
theorem gX12_mayNow_X12_mayBuy : GoodIn wsX12_mayNow (wsV RX12 232 RX12 yX12_mayBuy wsX12_mayBuy) := gA_u g4_173
theorem ggX12_whoBuys_X12_buysNow : GoodIn wsX12_whoBuys wsX12_buysNow := gA_u gbX12_buysNow
set_option maxRecDepth 20000 in
theorem g4_176 : GoodIn wsA (wsV RX12 242 RX12 yX12_buysNow wsX12_buysNow) := goodIn_app (gA_t gbX12_whoBuys (goodIn_r _ [2, 3, 4, 5] rfl (by decide +kernel))) gbX12_buysNow
theorem gX12_whoBuys_X12_buysNow : GoodIn wsX12_whoBuys (wsV RX12 242 RX12 yX12_buysNow wsX12_buysNow) := gA_u g4_176
theorem ggX12_kind_X12_isKind : GoodIn wsX12_kind wsX12_isKind := gA_u gbX12_isKind
set_option maxRecDepth 20000 in
theorem g4_177 : GoodIn wsA (wsV RX12 245 RX12 yX12_isKind wsX12_isKind) := goodIn_app (gA_t gbX12_kind (goodIn_r _ [3, 4, 5, 6] rfl (by decide +kernel))) gbX12_isKind
theorem gX12_kind_X12_isKind : GoodIn wsX12_kind (wsV RX12 245 RX12 yX12_isKind wsX12_isKind) := gA_u g4_177
theorem ggX12_kind_X12_whoBuys : GoodIn wsX12_kind wsX12_whoBuys := gA_u gbX12_whoBuys
set_option maxRecDepth 20000 in
theorem g4_178 : GoodIn wsA (wsV RX12 249 RX12 yX12_whoBuys wsX12_whoBuys) := goodIn_app (gA_t gbX12_kind (goodIn_r _ [11, 12, 13, 6] rfl (by decide +kernel))) gbX12_whoBuys
theorem gX12_kind_X12_whoBuys : GoodIn wsX12_kind (wsV RX12 249 RX12 yX12_whoBuys wsX12_whoBuys) := gA_u g4_178
theorem ggX12_buyer_X12_isBuyer : GoodIn wsX12_buyer wsX12_isBuyer := gA_u gbX12_isBuyer
set_option maxRecDepth 20000 in
theorem g4_179 : GoodIn wsA (wsV RX12 252 RX12 yX12_isBuyer wsX12_isBuyer) := goodIn_app (gA_t gbX12_buyer (goodIn_r _ [3, 4, 5, 6] rfl (by decide +kernel))) gbX12_isBuyer
theorem gX12_buyer_X12_isBuyer : GoodIn wsX12_buyer (wsV RX12 252 RX12 yX12_isBuyer wsX12_isBuyer) := gA_u g4_179
theorem ggX12_buyer_X12_mayNow : GoodIn wsX12_buyer wsX12_mayNow := gA_u gbX12_mayNow
set_option maxRecDepth 20000 in
theorem g4_180 : GoodIn wsA (wsV RX12 255 RX12 yX12_mayNow wsX12_mayNow) := goodIn_app (gA_t gbX12_buyer (goodIn_r _ [11, 12, 13, 6] rfl (by decide +kernel))) gbX12_mayNow
theorem gX12_buyer_X12_mayNow : GoodIn wsX12_buyer (wsV RX12 255 RX12 yX12_mayNow wsX12_mayNow) := gA_u g4_180
theorem ggX12_buyer_X12_buysNow : GoodIn wsX12_buyer wsX12_buysNow := gA_u gbX12_buysNow
theorem gX12_buyer_X12_buysNow : GoodIn wsX12_buyer (wsV RX12 242 RX12 yX12_buysNow wsX12_buysNow) := gA_u g4_176
theorem ggX12_wants_X12_isBuyer : GoodIn wsX12_wants wsX12_isBuyer := gA_u gbX12_isBuyer
theorem gX12_wants_X12_isBuyer : GoodIn wsX12_wants (wsV RX12 252 RX12 yX12_isBuyer wsX12_isBuyer) := gA_u g4_179
theorem ggX12_wants_X12_isKind : GoodIn wsX12_wants wsX12_isKind := gA_u gbX12_isKind
theorem gX12_wants_X12_isKind : GoodIn wsX12_wants (wsV RX12 245 RX12 yX12_isKind wsX12_isKind) := gA_u g4_177
theorem ggX12_wants_X12_wantsOf : GoodIn wsX12_wants wsX12_wantsOf := gA_u gbX12_wantsOf
theorem gX12_wants_X12_wantsOf : GoodIn wsX12_wants (wsV RX12 236 RX12 yX12_wantsOf wsX12_wantsOf) := gA_u g4_174
theorem ggX12_whyVisit_X12_isBuyer : GoodIn wsX12_whyVisit wsX12_isBuyer := gA_u gbX12_isBuyer
theorem gX12_whyVisit_X12_isBuyer : GoodIn wsX12_whyVisit (wsV RX12 252 RX12 yX12_isBuyer wsX12_isBuyer) := gA_u g4_179
theorem ggX12_whyVisit_X12_isShut : GoodIn wsX12_whyVisit wsX12_isShut := gA_u gbX12_isShut
set_option maxRecDepth 20000 in
theorem g4_181 : GoodIn wsA (wsV RX12 259 RX12 yX12_isShut wsX12_isShut) := goodIn_app (gA_t gbX12_whyVisit (goodIn_r _ [10, 11, 12, 4] rfl (by decide +kernel))) gbX12_isShut
theorem gX12_whyVisit_X12_isShut : GoodIn wsX12_whyVisit (wsV RX12 259 RX12 yX12_isShut wsX12_isShut) := gA_u g4_181
theorem ggX12_whyVisit_X12_buysNow : GoodIn wsX12_whyVisit wsX12_buysNow := gA_u gbX12_buysNow
theorem gX12_whyVisit_X12_buysNow : GoodIn wsX12_whyVisit (wsV RX12 242 RX12 yX12_buysNow wsX12_buysNow) := gA_u g4_176
theorem ggX12_whyKind_X12_isKind : GoodIn wsX12_whyKind wsX12_isKind := gA_u gbX12_isKind
theorem gX12_whyKind_X12_isKind : GoodIn wsX12_whyKind (wsV RX12 245 RX12 yX12_isKind wsX12_isKind) := gA_u g4_177
theorem ggX12_whyKind_X12_isShut : GoodIn wsX12_whyKind wsX12_isShut := gA_u gbX12_isShut
theorem gX12_whyKind_X12_isShut : GoodIn wsX12_whyKind (wsV RX12 259 RX12 yX12_isShut wsX12_isShut) := gA_u g4_181
theorem ggX12_isPrice_X12_within : GoodIn wsX12_isPrice wsX12_within := gA_u gbX12_within
theorem gX12_isPrice_X12_within : GoodIn wsX12_isPrice (va_wsS RX12 142 yX12_within wsX12_within) := gA_u g4_147
theorem ggX12_whyPrice_X12_isKind : GoodIn wsX12_whyPrice wsX12_isKind := gA_u gbX12_isKind
theorem gX12_whyPrice_X12_isKind : GoodIn wsX12_whyPrice (wsV RX12 245 RX12 yX12_isKind wsX12_isKind) := gA_u g4_177
theorem ggX12_whyPrice_X12_isPrice : GoodIn wsX12_whyPrice wsX12_isPrice := gA_u gbX12_isPrice
set_option maxRecDepth 20000 in
theorem g4_182 : GoodIn wsA (va_wsS RX12 265 yX12_isPrice wsX12_isPrice) := goodIn_app (gA_t gbX12_whyPrice (goodIn_r _ [10, 11, 4] rfl (by decide +kernel))) gbX12_isPrice
theorem gX12_whyPrice_X12_isPrice : GoodIn wsX12_whyPrice (va_wsS RX12 265 yX12_isPrice wsX12_isPrice) := gA_u g4_182
theorem ggX12_whyPrice_X12_isShut : GoodIn wsX12_whyPrice wsX12_isShut := gA_u gbX12_isShut
theorem gX12_whyPrice_X12_isShut : GoodIn wsX12_whyPrice (wsV RX12 259 RX12 yX12_isShut wsX12_isShut) := gA_u g4_181
theorem ggX12_visits_X12_buysNow : GoodIn wsX12_visits wsX12_buysNow := gA_u gbX12_buysNow
theorem gX12_visits_X12_buysNow : GoodIn wsX12_visits (wsV RX12 242 RX12 yX12_buysNow wsX12_buysNow) := gA_u g4_176
theorem ggX12_goesDay_X12_oddsAll : GoodIn wsX12_goesDay wsX12_oddsAll := gA_u gbX12_oddsAll
set_option maxRecDepth 20000 in
theorem g4_183 : GoodIn wsA (wsV RX12 269 RX12 yX12_oddsAll wsX12_oddsAll) := goodIn_app (gA_t gbX12_goesDay (goodIn_r _ [2, 3, 4, 5] rfl (by decide +kernel))) gbX12_oddsAll
theorem gX12_goesDay_X12_oddsAll : GoodIn wsX12_goesDay (wsV RX12 269 RX12 yX12_oddsAll wsX12_oddsAll) := gA_u g4_183
theorem ggX12_goesDay_X12_draw : GoodIn wsX12_goesDay wsX12_draw := gA_u gbX12_draw
set_option maxRecDepth 20000 in
theorem g4_184 : GoodIn wsA (wsV RX12 272 RX12 yX12_draw wsX12_draw) := goodIn_app (gA_t gbX12_goesDay (goodIn_r _ [7, 8, 9, 5] rfl (by decide +kernel))) gbX12_draw
theorem gX12_goesDay_X12_draw : GoodIn wsX12_goesDay (wsV RX12 272 RX12 yX12_draw wsX12_draw) := gA_u g4_184
theorem ggX12_goesDay_X12_whyVisit : GoodIn wsX12_goesDay wsX12_whyVisit := gA_u gbX12_whyVisit
set_option maxRecDepth 20000 in
theorem g4_185 : GoodIn wsA (wsV RX12 275 RX12 yX12_whyVisit wsX12_whyVisit) := goodIn_app (gA_t gbX12_goesDay (goodIn_r _ [12, 13, 14, 5] rfl (by decide +kernel))) gbX12_whyVisit
theorem gX12_goesDay_X12_whyVisit : GoodIn wsX12_goesDay (wsV RX12 275 RX12 yX12_whyVisit wsX12_whyVisit) := gA_u g4_185
theorem ggX12_goesDay_X12_visits : GoodIn wsX12_goesDay wsX12_visits := gA_u gbX12_visits
set_option maxRecDepth 20000 in
theorem g4_186 : GoodIn wsA (wsV RX12 279 RX12 yX12_visits wsX12_visits) := goodIn_app (gA_t gbX12_goesDay (goodIn_r _ [72, 73, 74, 5] rfl (by decide +kernel))) gbX12_visits
theorem gX12_goesDay_X12_visits : GoodIn wsX12_goesDay (wsV RX12 279 RX12 yX12_visits wsX12_visits) := gA_u g4_186
theorem ggX12_seed_X12_keeps : GoodIn wsX12_seed wsX12_keeps := gA_u gbX12_keeps
set_option maxRecDepth 20000 in
theorem g4_187 : GoodIn wsA (wsV RX12 282 RX12 yX12_keeps wsX12_keeps) := goodIn_app (gA_t gbX12_seed (goodIn_r _ [4, 5, 6, 7] rfl (by decide +kernel))) gbX12_keeps
theorem gX12_seed_X12_keeps : GoodIn wsX12_seed (wsV RX12 282 RX12 yX12_keeps wsX12_keeps) := gA_u g4_187
theorem ggX12_seed_X12_notes : GoodIn wsX12_seed wsX12_notes := gA_u gbX12_notes
set_option maxRecDepth 20000 in
theorem g4_188 : GoodIn wsA (wsV RX12 285 RX12 yX12_notes wsX12_notes) := goodIn_app (gA_t gbX12_seed (goodIn_r _ [9, 10, 11, 7] rfl (by decide +kernel))) gbX12_notes
theorem gX12_seed_X12_notes : GoodIn wsX12_seed (wsV RX12 285 RX12 yX12_notes wsX12_notes) := gA_u g4_188
theorem ggX12_visit_X12_whyVisit : GoodIn wsX12_visit wsX12_whyVisit := gA_u gbX12_whyVisit
theorem gX12_visit_X12_whyVisit : GoodIn wsX12_visit (wsV RX12 275 RX12 yX12_whyVisit wsX12_whyVisit) := gA_u g4_185
theorem ggX12_visit_X12_keeps : GoodIn wsX12_visit wsX12_keeps := gA_u gbX12_keeps
theorem gX12_visit_X12_keeps : GoodIn wsX12_visit (wsV RX12 282 RX12 yX12_keeps wsX12_keeps) := gA_u g4_187
theorem ggX12_visit_X12_visits : GoodIn wsX12_visit wsX12_visits := gA_u gbX12_visits
theorem gX12_visit_X12_visits : GoodIn wsX12_visit (wsV RX12 279 RX12 yX12_visits wsX12_visits) := gA_u g4_186
theorem ggX12_visit_X12_notes : GoodIn wsX12_visit wsX12_notes := gA_u gbX12_notes
theorem gX12_visit_X12_notes : GoodIn wsX12_visit (wsV RX12 285 RX12 yX12_notes wsX12_notes) := gA_u g4_188
theorem ggX12_gift_X12_whyKind : GoodIn wsX12_gift wsX12_whyKind := gA_u gbX12_whyKind
set_option maxRecDepth 20000 in
theorem g4_189 : GoodIn wsA (wsV RX12 288 RX12 yX12_whyKind wsX12_whyKind) := goodIn_app (gA_t gbX12_gift (goodIn_r _ [3, 4, 5, 6] rfl (by decide +kernel))) gbX12_whyKind
theorem gX12_gift_X12_whyKind : GoodIn wsX12_gift (wsV RX12 288 RX12 yX12_whyKind wsX12_whyKind) := gA_u g4_189
theorem ggX12_gift_X12_keeps : GoodIn wsX12_gift wsX12_keeps := gA_u gbX12_keeps
theorem gX12_gift_X12_keeps : GoodIn wsX12_gift (wsV RX12 282 RX12 yX12_keeps wsX12_keeps) := gA_u g4_187
theorem ggX12_gift_X12_notes : GoodIn wsX12_gift wsX12_notes := gA_u gbX12_notes
theorem gX12_gift_X12_notes : GoodIn wsX12_gift (wsV RX12 285 RX12 yX12_notes wsX12_notes) := gA_u g4_188
theorem ggX12_hide_X12_whyKind : GoodIn wsX12_hide wsX12_whyKind := gA_u gbX12_whyKind
theorem gX12_hide_X12_whyKind : GoodIn wsX12_hide (wsV RX12 288 RX12 yX12_whyKind wsX12_whyKind) := gA_u g4_189
theorem ggX12_hide_X12_keeps : GoodIn wsX12_hide wsX12_keeps := gA_u gbX12_keeps
theorem gX12_hide_X12_keeps : GoodIn wsX12_hide (wsV RX12 282 RX12 yX12_keeps wsX12_keeps) := gA_u g4_187
theorem ggX12_hide_X12_notes : GoodIn wsX12_hide wsX12_notes := gA_u gbX12_notes
theorem gX12_hide_X12_notes : GoodIn wsX12_hide (wsV RX12 285 RX12 yX12_notes wsX12_notes) := gA_u g4_188
theorem ggX12_add_X12_isPrice : GoodIn wsX12_add wsX12_isPrice := gA_u gbX12_isPrice
theorem gX12_add_X12_isPrice : GoodIn wsX12_add (va_wsS RX12 265 yX12_isPrice wsX12_isPrice) := gA_u g4_182
theorem ggX12_add_X12_within : GoodIn wsX12_add wsX12_within := gA_u gbX12_within
theorem gX12_add_X12_within : GoodIn wsX12_add (va_wsS RX12 142 yX12_within wsX12_within) := gA_u g4_147
theorem ggX12_add_X12_isShut : GoodIn wsX12_add wsX12_isShut := gA_u gbX12_isShut
theorem gX12_add_X12_isShut : GoodIn wsX12_add (wsV RX12 259 RX12 yX12_isShut wsX12_isShut) := gA_u g4_181
theorem ggX12_add_X12_keeps : GoodIn wsX12_add wsX12_keeps := gA_u gbX12_keeps
theorem gX12_add_X12_keeps : GoodIn wsX12_add (wsV RX12 282 RX12 yX12_keeps wsX12_keeps) := gA_u g4_187
theorem ggX12_add_X12_notes : GoodIn wsX12_add wsX12_notes := gA_u gbX12_notes
theorem gX12_add_X12_notes : GoodIn wsX12_add (wsV RX12 285 RX12 yX12_notes wsX12_notes) := gA_u g4_188
theorem ggX12_price_X12_whyPrice : GoodIn wsX12_price wsX12_whyPrice := gA_u gbX12_whyPrice
set_option maxRecDepth 20000 in
theorem g4_190 : GoodIn wsA (wsV RX12 293 RX12 yX12_whyPrice wsX12_whyPrice) := goodIn_app (gA_t gbX12_price (goodIn_r _ [4, 5, 6, 7] rfl (by decide +kernel))) gbX12_whyPrice
theorem gX12_price_X12_whyPrice : GoodIn wsX12_price (wsV RX12 293 RX12 yX12_whyPrice wsX12_whyPrice) := gA_u g4_190
theorem ggX12_price_X12_keeps : GoodIn wsX12_price wsX12_keeps := gA_u gbX12_keeps
theorem gX12_price_X12_keeps : GoodIn wsX12_price (wsV RX12 282 RX12 yX12_keeps wsX12_keeps) := gA_u g4_187
theorem ggX12_price_X12_notes : GoodIn wsX12_price wsX12_notes := gA_u gbX12_notes
theorem gX12_price_X12_notes : GoodIn wsX12_price (wsV RX12 285 RX12 yX12_notes wsX12_notes) := gA_u g4_188
theorem ggX12_days_X12_within : GoodIn wsX12_days wsX12_within := gA_u gbX12_within
theorem gX12_days_X12_within : GoodIn wsX12_days (va_wsS RX12 142 yX12_within wsX12_within) := gA_u g4_147
theorem ggX12_days_X12_keeps : GoodIn wsX12_days wsX12_keeps := gA_u gbX12_keeps
theorem gX12_days_X12_keeps : GoodIn wsX12_days (wsV RX12 282 RX12 yX12_keeps wsX12_keeps) := gA_u g4_187
theorem ggX12_days_X12_goesDay : GoodIn wsX12_days wsX12_goesDay := gA_u gbX12_goesDay
set_option maxRecDepth 20000 in
theorem g4_191 : GoodIn wsA (wsV RX12 297 RX12 yX12_goesDay wsX12_goesDay) := goodIn_app (gA_t gbX12_days (goodIn_r _ [13, 14, 15, 5] rfl (by decide +kernel))) gbX12_goesDay
theorem gX12_days_X12_goesDay : GoodIn wsX12_days (wsV RX12 297 RX12 yX12_goesDay wsX12_goesDay) := gA_u g4_191
theorem ggX12_days_X12_notes : GoodIn wsX12_days wsX12_notes := gA_u gbX12_notes
theorem gX12_days_X12_notes : GoodIn wsX12_days (wsV RX12 285 RX12 yX12_notes wsX12_notes) := gA_u g4_188
theorem ggX12_undo_X12_within : GoodIn wsX12_undo wsX12_within := gA_u gbX12_within
theorem gX12_undo_X12_within : GoodIn wsX12_undo (va_wsS RX12 142 yX12_within wsX12_within) := gA_u g4_147
theorem ggX12_whyNot_X12_within : GoodIn wsX12_whyNot wsX12_within := gA_u gbX12_within
theorem gX12_whyNot_X12_within : GoodIn wsX12_whyNot (va_wsS RX12 142 yX12_within wsX12_within) := gA_u g4_147
theorem ggX12_whyNot_X12_whyVisit : GoodIn wsX12_whyNot wsX12_whyVisit := gA_u gbX12_whyVisit
theorem gX12_whyNot_X12_whyVisit : GoodIn wsX12_whyNot (wsV RX12 275 RX12 yX12_whyVisit wsX12_whyVisit) := gA_u g4_185
theorem ggX12_whyNot_X12_whyKind : GoodIn wsX12_whyNot wsX12_whyKind := gA_u gbX12_whyKind
theorem gX12_whyNot_X12_whyKind : GoodIn wsX12_whyNot (wsV RX12 288 RX12 yX12_whyKind wsX12_whyKind) := gA_u g4_189
theorem ggX12_whyNot_X12_whyPrice : GoodIn wsX12_whyNot wsX12_whyPrice := gA_u gbX12_whyPrice
theorem gX12_whyNot_X12_whyPrice : GoodIn wsX12_whyNot (wsV RX12 293 RX12 yX12_whyPrice wsX12_whyPrice) := gA_u g4_190
theorem ggX12_does_X12_goesDay : GoodIn wsX12_does wsX12_goesDay := gA_u gbX12_goesDay
theorem gX12_does_X12_goesDay : GoodIn wsX12_does (wsV RX12 297 RX12 yX12_goesDay wsX12_goesDay) := gA_u g4_191
theorem ggX12_does_X12_visits : GoodIn wsX12_does wsX12_visits := gA_u gbX12_visits
theorem gX12_does_X12_visits : GoodIn wsX12_does (wsV RX12 279 RX12 yX12_visits wsX12_visits) := gA_u g4_186
theorem ggX12_tells_X12_whyNot : GoodIn wsX12_tells wsX12_whyNot := gA_u gbX12_whyNot
set_option maxRecDepth 20000 in
theorem g4_192 : GoodIn wsA (wsV RX12 319 RX12 yX12_whyNot wsX12_whyNot) := goodIn_app (gA_t gbX12_tells (goodIn_r _ [4, 5, 6, 7] rfl (by decide +kernel))) gbX12_whyNot
theorem gX12_tells_X12_whyNot : GoodIn wsX12_tells (wsV RX12 319 RX12 yX12_whyNot wsX12_whyNot) := gA_u g4_192
theorem ggX12_tells_X12_does : GoodIn wsX12_tells wsX12_does := gA_u gbX12_does
set_option maxRecDepth 20000 in
theorem g4_193 : GoodIn wsA (wsV RX12 322 RX12 yX12_does wsX12_does) := goodIn_app (gA_t gbX12_tells (goodIn_r _ [94, 95, 96, 7] rfl (by decide +kernel))) gbX12_does
theorem gX12_tells_X12_does : GoodIn wsX12_tells (wsV RX12 322 RX12 yX12_does wsX12_does) := gA_u g4_193
theorem ggX12_noTray_X12_within : GoodIn wsX12_noTray wsX12_within := gA_u gbX12_within
theorem gX12_noTray_X12_within : GoodIn wsX12_noTray (va_wsS RX12 142 yX12_within wsX12_within) := gA_u g4_147
theorem ggX12_judge_X12_within : GoodIn wsX12_judge wsX12_within := gA_u gbX12_within
theorem gX12_judge_X12_within : GoodIn wsX12_judge (va_wsS RX12 142 yX12_within wsX12_within) := gA_u g4_147
theorem ggX12_judge_X12_noTray : GoodIn wsX12_judge wsX12_noTray := gA_u gbX12_noTray
set_option maxRecDepth 20000 in
theorem g4_194 : GoodIn wsA (wsV RX12 327 RX12 yX12_noTray wsX12_noTray) := goodIn_app (gA_t gbX12_judge (goodIn_r _ [9, 10, 11, 7] rfl (by decide +kernel))) gbX12_noTray
theorem gX12_judge_X12_noTray : GoodIn wsX12_judge (wsV RX12 327 RX12 yX12_noTray wsX12_noTray) := gA_u g4_194
theorem ggX12_judge_X12_keeps : GoodIn wsX12_judge wsX12_keeps := gA_u gbX12_keeps
theorem gX12_judge_X12_keeps : GoodIn wsX12_judge (wsV RX12 282 RX12 yX12_keeps wsX12_keeps) := gA_u g4_187
theorem ggX12_judge_X12_tells : GoodIn wsX12_judge wsX12_tells := gA_u gbX12_tells
set_option maxRecDepth 20000 in
theorem g4_195 : GoodIn wsA (wsV RX12 330 RX12 yX12_tells wsX12_tells) := goodIn_app (gA_t gbX12_judge (goodIn_r _ [19, 20, 21, 7] rfl (by decide +kernel))) gbX12_tells
theorem gX12_judge_X12_tells : GoodIn wsX12_judge (wsV RX12 330 RX12 yX12_tells wsX12_tells) := gA_u g4_195
theorem ggX12_judge_X12_isAgain : GoodIn wsX12_judge wsX12_isAgain := gA_u gbX12_isAgain
set_option maxRecDepth 20000 in
theorem g4_196 : GoodIn wsA (wsV RX12 333 RX12 yX12_isAgain wsX12_isAgain) := goodIn_app (gA_t gbX12_judge (goodIn_r _ [131, 132, 133, 7] rfl (by decide +kernel))) gbX12_isAgain
theorem gX12_judge_X12_isAgain : GoodIn wsX12_judge (wsV RX12 333 RX12 yX12_isAgain wsX12_isAgain) := gA_u g4_196
theorem ggX12_perform_X12_noTray : GoodIn wsX12_perform wsX12_noTray := gA_u gbX12_noTray
theorem gX12_perform_X12_noTray : GoodIn wsX12_perform (wsV RX12 327 RX12 yX12_noTray wsX12_noTray) := gA_u g4_194
theorem ggX12_perform_X12_keeps : GoodIn wsX12_perform wsX12_keeps := gA_u gbX12_keeps
theorem gX12_perform_X12_keeps : GoodIn wsX12_perform (wsV RX12 282 RX12 yX12_keeps wsX12_keeps) := gA_u g4_187
theorem ggX12_perform_X12_tells : GoodIn wsX12_perform wsX12_tells := gA_u gbX12_tells
theorem gX12_perform_X12_tells : GoodIn wsX12_perform (wsV RX12 330 RX12 yX12_tells wsX12_tells) := gA_u g4_195
theorem ggX12_perform_X12_notes : GoodIn wsX12_perform wsX12_notes := gA_u gbX12_notes
theorem gX12_perform_X12_notes : GoodIn wsX12_perform (wsV RX12 285 RX12 yX12_notes wsX12_notes) := gA_u g4_188
theorem ggX12_drawn_X12_draw : GoodIn wsX12_drawn wsX12_draw := gA_u gbX12_draw
theorem gX12_drawn_X12_draw : GoodIn wsX12_drawn (wsV RX12 272 RX12 yX12_draw wsX12_draw) := gA_u g4_184
theorem ggX12_season_X12_within : GoodIn wsX12_season wsX12_within := gA_u gbX12_within
theorem gX12_season_X12_within : GoodIn wsX12_season (va_wsS RX12 142 yX12_within wsX12_within) := gA_u g4_147
theorem ggX12_season_X12_keeps : GoodIn wsX12_season wsX12_keeps := gA_u gbX12_keeps
theorem gX12_season_X12_keeps : GoodIn wsX12_season (wsV RX12 282 RX12 yX12_keeps wsX12_keeps) := gA_u g4_187
theorem ggX12_season_X12_drawn : GoodIn wsX12_season wsX12_drawn := gA_u gbX12_drawn
set_option maxRecDepth 20000 in
theorem g4_197 : GoodIn wsA (wsV RX12 338 RX12 yX12_drawn wsX12_drawn) := goodIn_app (gA_t gbX12_season (goodIn_r _ [13, 14, 15, 6] rfl (by decide +kernel))) gbX12_drawn
theorem gX12_season_X12_drawn : GoodIn wsX12_season (wsV RX12 338 RX12 yX12_drawn wsX12_drawn) := gA_u g4_197
theorem ggX12_season_X12_whyNot : GoodIn wsX12_season wsX12_whyNot := gA_u gbX12_whyNot
theorem gX12_season_X12_whyNot : GoodIn wsX12_season (wsV RX12 319 RX12 yX12_whyNot wsX12_whyNot) := gA_u g4_192
theorem ggX12_season_X12_does : GoodIn wsX12_season wsX12_does := gA_u gbX12_does
theorem gX12_season_X12_does : GoodIn wsX12_season (wsV RX12 322 RX12 yX12_does wsX12_does) := gA_u g4_193
theorem ggX12_season_X12_notes : GoodIn wsX12_season wsX12_notes := gA_u gbX12_notes
theorem gX12_season_X12_notes : GoodIn wsX12_season (wsV RX12 285 RX12 yX12_notes wsX12_notes) := gA_u g4_188
theorem ggX12_season_X12_isAgain : GoodIn wsX12_season wsX12_isAgain := gA_u gbX12_isAgain
theorem gX12_season_X12_isAgain : GoodIn wsX12_season (wsV RX12 333 RX12 yX12_isAgain wsX12_isAgain) := gA_u g4_196
theorem ggX12_laysBuys_X12_everyKind : GoodIn wsX12_laysBuys wsX12_everyKind := gA_u gbX12_everyKind
theorem gX12_laysBuys_X12_everyKind : GoodIn wsX12_laysBuys (wsV RX12 204 RX12 yX12_everyKind wsX12_everyKind) := gA_u g4_166
theorem ggX12_laysBuys_X12_buysOf : GoodIn wsX12_laysBuys wsX12_buysOf := gA_u gbX12_buysOf
theorem gX12_laysBuys_X12_buysOf : GoodIn wsX12_laysBuys (wsV RX12 239 RX12 yX12_buysOf wsX12_buysOf) := gA_u g4_175
theorem ggX12_laysEnding_X12_everyKind : GoodIn wsX12_laysEnding wsX12_everyKind := gA_u gbX12_everyKind
theorem gX12_laysEnding_X12_everyKind : GoodIn wsX12_laysEnding (wsV RX12 204 RX12 yX12_everyKind wsX12_everyKind) := gA_u g4_166
theorem ggX12_laysEnding_X12_isShutBy : GoodIn wsX12_laysEnding wsX12_isShutBy := gA_u gbX12_isShutBy
theorem gX12_laysEnding_X12_isShutBy : GoodIn wsX12_laysEnding (wsV RX12 210 RX12 yX12_isShutBy wsX12_isShutBy) := gA_u g4_168
theorem ggX12_laysEnding_X12_boughtBy : GoodIn wsX12_laysEnding wsX12_boughtBy := gA_u gbX12_boughtBy
set_option maxRecDepth 20000 in
theorem g4_198 : GoodIn wsA (wsV RX12 342 RX12 yX12_boughtBy wsX12_boughtBy) := goodIn_app (gA_t gbX12_laysEnding (goodIn_r _ [17, 18, 19, 7] rfl (by decide +kernel))) gbX12_boughtBy
theorem gX12_laysEnding_X12_boughtBy : GoodIn wsX12_laysEnding (wsV RX12 342 RX12 yX12_boughtBy wsX12_boughtBy) := gA_u g4_198
theorem ggX12_laysEnding_X12_isIn : GoodIn wsX12_laysEnding wsX12_isIn := gA_u gbX12_isIn
theorem gX12_laysEnding_X12_isIn : GoodIn wsX12_laysEnding (va_wsS RX12 228 yX12_isIn wsX12_isIn) := gA_u g4_172
theorem ggX12_endingNow_X12_laysBuys : GoodIn wsX12_endingNow wsX12_laysBuys := gA_u gbX12_laysBuys
set_option maxRecDepth 20000 in
theorem g4_199 : GoodIn wsA (wsV RX12 345 RX12 yX12_laysBuys wsX12_laysBuys) := goodIn_app (gA_t gbX12_endingNow (goodIn_r _ [1, 2, 3, 4] rfl (by decide +kernel))) gbX12_laysBuys
theorem gX12_endingNow_X12_laysBuys : GoodIn wsX12_endingNow (wsV RX12 345 RX12 yX12_laysBuys wsX12_laysBuys) := gA_u g4_199
theorem ggX12_endingNow_X12_laysEnding : GoodIn wsX12_endingNow wsX12_laysEnding := gA_u gbX12_laysEnding
set_option maxRecDepth 20000 in
theorem g4_200 : GoodIn wsA (wsV RX12 348 RX12 yX12_laysEnding wsX12_laysEnding) := goodIn_app (gA_t gbX12_endingNow (goodIn_r _ [49, 50, 51, 4] rfl (by decide +kernel))) gbX12_laysEnding
theorem gX12_endingNow_X12_laysEnding : GoodIn wsX12_endingNow (wsV RX12 348 RX12 yX12_laysEnding wsX12_laysEnding) := gA_u g4_200
theorem ggX12_laysEndingRow_X12_endingNow : GoodIn wsX12_laysEndingRow wsX12_endingNow := gA_u gbX12_endingNow
set_option maxRecDepth 20000 in
theorem g4_201 : GoodIn wsA (wsV RX12 351 RX12 yX12_endingNow wsX12_endingNow) := goodIn_app (gA_t gbX12_laysEndingRow (goodIn_r _ [4, 5, 6, 7] rfl (by decide +kernel))) gbX12_endingNow
theorem gX12_laysEndingRow_X12_endingNow : GoodIn wsX12_laysEndingRow (wsV RX12 351 RX12 yX12_endingNow wsX12_endingNow) := gA_u g4_201
theorem ggX12_laysEndingRow_X12_boughtBy : GoodIn wsX12_laysEndingRow wsX12_boughtBy := gA_u gbX12_boughtBy
theorem gX12_laysEndingRow_X12_boughtBy : GoodIn wsX12_laysEndingRow (wsV RX12 342 RX12 yX12_boughtBy wsX12_boughtBy) := gA_u g4_198
theorem ggX12_laysEndingRow_X12_isIn : GoodIn wsX12_laysEndingRow wsX12_isIn := gA_u gbX12_isIn
theorem gX12_laysEndingRow_X12_isIn : GoodIn wsX12_laysEndingRow (va_wsS RX12 228 yX12_isIn wsX12_isIn) := gA_u g4_172
theorem ggX12_ending_X12_endingNow : GoodIn wsX12_ending wsX12_endingNow := gA_u gbX12_endingNow
theorem gX12_ending_X12_endingNow : GoodIn wsX12_ending (wsV RX12 351 RX12 yX12_endingNow wsX12_endingNow) := gA_u g4_201
theorem ggX12_endingBy_X12_laysEndingRow : GoodIn wsX12_endingBy wsX12_laysEndingRow := gA_u gbX12_laysEndingRow
set_option maxRecDepth 20000 in
theorem g4_202 : GoodIn wsA (wsV RX12 354 RX12 yX12_laysEndingRow wsX12_laysEndingRow) := goodIn_app (gA_t gbX12_endingBy (goodIn_r _ [3, 4, 5, 6] rfl (by decide +kernel))) gbX12_laysEndingRow
theorem gX12_endingBy_X12_laysEndingRow : GoodIn wsX12_endingBy (wsV RX12 354 RX12 yX12_laysEndingRow wsX12_laysEndingRow) := gA_u g4_202
theorem ggX12_goesRows_X12_everyKind : GoodIn wsX12_goesRows wsX12_everyKind := gA_u gbX12_everyKind
theorem gX12_goesRows_X12_everyKind : GoodIn wsX12_goesRows (wsV RX12 204 RX12 yX12_everyKind wsX12_everyKind) := gA_u g4_166
theorem ggX12_goesRows_X12_boughtBy : GoodIn wsX12_goesRows wsX12_boughtBy := gA_u gbX12_boughtBy
theorem gX12_goesRows_X12_boughtBy : GoodIn wsX12_goesRows (wsV RX12 342 RX12 yX12_boughtBy wsX12_boughtBy) := gA_u g4_198
theorem ggX12_shutRows_X12_isShutBy : GoodIn wsX12_shutRows wsX12_isShutBy := gA_u gbX12_isShutBy
theorem gX12_shutRows_X12_isShutBy : GoodIn wsX12_shutRows (wsV RX12 210 RX12 yX12_isShutBy wsX12_isShutBy) := gA_u g4_168
theorem ggX12_endings_X12_within : GoodIn wsX12_endings wsX12_within := gA_u gbX12_within
theorem gX12_endings_X12_within : GoodIn wsX12_endings (va_wsS RX12 142 yX12_within wsX12_within) := gA_u g4_147
theorem ggX12_endings_X12_laysBuys : GoodIn wsX12_endings wsX12_laysBuys := gA_u gbX12_laysBuys
theorem gX12_endings_X12_laysBuys : GoodIn wsX12_endings (wsV RX12 345 RX12 yX12_laysBuys wsX12_laysBuys) := gA_u g4_199
theorem ggX12_endings_X12_beginsRows : GoodIn wsX12_endings wsX12_beginsRows := gA_u gbX12_beginsRows
set_option maxRecDepth 20000 in
theorem g4_203 : GoodIn wsA (wsV RX12 361 RX12 yX12_beginsRows wsX12_beginsRows) := goodIn_app (gA_t gbX12_endings (goodIn_r _ [55, 56, 57, 6] rfl (by decide +kernel))) gbX12_beginsRows
theorem gX12_endings_X12_beginsRows : GoodIn wsX12_endings (wsV RX12 361 RX12 yX12_beginsRows wsX12_beginsRows) := gA_u g4_203
theorem ggX12_endings_X12_goesRows : GoodIn wsX12_endings wsX12_goesRows := gA_u gbX12_goesRows
set_option maxRecDepth 20000 in
theorem g4_204 : GoodIn wsA (wsV RX12 364 RX12 yX12_goesRows wsX12_goesRows) := goodIn_app (gA_t gbX12_endings (goodIn_r _ [60, 61, 62, 6] rfl (by decide +kernel))) gbX12_goesRows
theorem gX12_endings_X12_goesRows : GoodIn wsX12_endings (wsV RX12 364 RX12 yX12_goesRows wsX12_goesRows) := gA_u g4_204
theorem ggX12_endings_X12_shutRows : GoodIn wsX12_endings wsX12_shutRows := gA_u gbX12_shutRows
set_option maxRecDepth 20000 in
theorem g4_205 : GoodIn wsA (wsV RX12 368 RX12 yX12_shutRows wsX12_shutRows) := goodIn_app (gA_t gbX12_endings (goodIn_r _ [69, 70, 71, 6] rfl (by decide +kernel))) gbX12_shutRows
theorem gX12_endings_X12_shutRows : GoodIn wsX12_endings (wsV RX12 368 RX12 yX12_shutRows wsX12_shutRows) := gA_u g4_205
theorem ggX12_needed_X12_endingNow : GoodIn wsX12_needed wsX12_endingNow := gA_u gbX12_endingNow
theorem gX12_needed_X12_endingNow : GoodIn wsX12_needed (wsV RX12 351 RX12 yX12_endingNow wsX12_endingNow) := gA_u g4_201
theorem ggX12_needed_X12_laysEnding : GoodIn wsX12_needed wsX12_laysEnding := gA_u gbX12_laysEnding
theorem gX12_needed_X12_laysEnding : GoodIn wsX12_needed (wsV RX12 348 RX12 yX12_laysEnding wsX12_laysEnding) := gA_u g4_200
theorem ggX12_laysComes_X12_laysBuys : GoodIn wsX12_laysComes wsX12_laysBuys := gA_u gbX12_laysBuys
theorem gX12_laysComes_X12_laysBuys : GoodIn wsX12_laysComes (wsV RX12 345 RX12 yX12_laysBuys wsX12_laysBuys) := gA_u g4_199
theorem ggX12_laysComes_X12_everyKind : GoodIn wsX12_laysComes wsX12_everyKind := gA_u gbX12_everyKind
theorem gX12_laysComes_X12_everyKind : GoodIn wsX12_laysComes (wsV RX12 204 RX12 yX12_everyKind wsX12_everyKind) := gA_u g4_166
theorem ggX12_laysComes_X12_boughtBy : GoodIn wsX12_laysComes wsX12_boughtBy := gA_u gbX12_boughtBy
theorem gX12_laysComes_X12_boughtBy : GoodIn wsX12_laysComes (wsV RX12 342 RX12 yX12_boughtBy wsX12_boughtBy) := gA_u g4_198
theorem ggX12_sellable_X12_laysComes : GoodIn wsX12_sellable wsX12_laysComes := gA_u gbX12_laysComes
set_option maxRecDepth 20000 in
theorem g4_206 : GoodIn wsA (wsV RX12 372 RX12 yX12_laysComes wsX12_laysComes) := goodIn_app (gA_t gbX12_sellable (goodIn_r _ [3, 4, 5, 6] rfl (by decide +kernel))) gbX12_laysComes
theorem gX12_sellable_X12_laysComes : GoodIn wsX12_sellable (wsV RX12 372 RX12 yX12_laysComes wsX12_laysComes) := gA_u g4_206
theorem ggX12_guards_X12_endingNow : GoodIn wsX12_guards wsX12_endingNow := gA_u gbX12_endingNow
theorem gX12_guards_X12_endingNow : GoodIn wsX12_guards (wsV RX12 351 RX12 yX12_endingNow wsX12_endingNow) := gA_u g4_201
theorem ggX12_guards_X12_isIn : GoodIn wsX12_guards wsX12_isIn := gA_u gbX12_isIn
theorem gX12_guards_X12_isIn : GoodIn wsX12_guards (va_wsS RX12 228 yX12_isIn wsX12_isIn) := gA_u g4_172
theorem ggX12_last_X12_laysComes : GoodIn wsX12_last wsX12_laysComes := gA_u gbX12_laysComes
theorem gX12_last_X12_laysComes : GoodIn wsX12_last (wsV RX12 372 RX12 yX12_laysComes wsX12_laysComes) := gA_u g4_206
theorem ggX12_last_X12_everyKind : GoodIn wsX12_last wsX12_everyKind := gA_u gbX12_everyKind
theorem gX12_last_X12_everyKind : GoodIn wsX12_last (wsV RX12 204 RX12 yX12_everyKind wsX12_everyKind) := gA_u g4_166
theorem ggX12_last_X12_shown : GoodIn wsX12_last wsX12_shown := gA_u gbX12_shown
theorem gX12_last_X12_shown : GoodIn wsX12_last (wsV RX12 207 RX12 yX12_shown wsX12_shown) := gA_u g4_167
theorem ggX12_last_X12_bitsOf : GoodIn wsX12_last wsX12_bitsOf := gA_u gbX12_bitsOf
theorem gX12_last_X12_bitsOf : GoodIn wsX12_last (va_wsS RX12 217 yX12_bitsOf wsX12_bitsOf) := gA_u g4_169
theorem ggX12_wholeOf_X12_oddsAll : GoodIn wsX12_wholeOf wsX12_oddsAll := gA_u gbX12_oddsAll
theorem gX12_wholeOf_X12_oddsAll : GoodIn wsX12_wholeOf (wsV RX12 269 RX12 yX12_oddsAll wsX12_oddsAll) := gA_u g4_183
theorem ggX12_wholeOf_X12_powerOf : GoodIn wsX12_wholeOf wsX12_powerOf := gA_u gbX12_powerOf
set_option maxRecDepth 20000 in
theorem g4_207 : GoodIn wsA (va_wsS RX12 375 yX12_powerOf wsX12_powerOf) := goodIn_app (gA_t gbX12_wholeOf (goodIn_r _ [7, 8, 4] rfl (by decide +kernel))) gbX12_powerOf
theorem gX12_wholeOf_X12_powerOf : GoodIn wsX12_wholeOf (va_wsS RX12 375 yX12_powerOf wsX12_powerOf) := gA_u g4_207
theorem ggX12_laysDays_X12_beginsRows : GoodIn wsX12_laysDays wsX12_beginsRows := gA_u gbX12_beginsRows
theorem gX12_laysDays_X12_beginsRows : GoodIn wsX12_laysDays (wsV RX12 361 RX12 yX12_beginsRows wsX12_beginsRows) := gA_u g4_203
theorem ggX12_laysDays_X12_oddsAll : GoodIn wsX12_laysDays wsX12_oddsAll := gA_u gbX12_oddsAll
theorem gX12_laysDays_X12_oddsAll : GoodIn wsX12_laysDays (wsV RX12 269 RX12 yX12_oddsAll wsX12_oddsAll) := gA_u g4_183
theorem ggX12_laysDays_X12_everyKind : GoodIn wsX12_laysDays wsX12_everyKind := gA_u gbX12_everyKind
theorem gX12_laysDays_X12_everyKind : GoodIn wsX12_laysDays (wsV RX12 204 RX12 yX12_everyKind wsX12_everyKind) := gA_u g4_166
theorem ggX12_laysDays_X12_goesOdds : GoodIn wsX12_laysDays wsX12_goesOdds := gA_u gbX12_goesOdds
set_option maxRecDepth 20000 in
theorem g4_208 : GoodIn wsA (wsV RX12 383 RX12 yX12_goesOdds wsX12_goesOdds) := goodIn_app (gA_t gbX12_laysDays (goodIn_r _ [19, 20, 21, 8] rfl (by decide +kernel))) gbX12_goesOdds
theorem gX12_laysDays_X12_goesOdds : GoodIn wsX12_laysDays (wsV RX12 383 RX12 yX12_goesOdds wsX12_goesOdds) := gA_u g4_208
theorem ggX12_goesOdds_X12_boughtBy : GoodIn wsX12_goesOdds wsX12_boughtBy := gA_u gbX12_boughtBy
theorem gX12_goesOdds_X12_boughtBy : GoodIn wsX12_goesOdds (wsV RX12 342 RX12 yX12_boughtBy wsX12_boughtBy) := gA_u g4_198
theorem ggX12_goesOdds_X12_isShutBy : GoodIn wsX12_goesOdds wsX12_isShutBy := gA_u gbX12_isShutBy
theorem gX12_goesOdds_X12_isShutBy : GoodIn wsX12_goesOdds (wsV RX12 210 RX12 yX12_isShutBy wsX12_isShutBy) := gA_u g4_168
theorem ggX12_common_X12_common : GoodIn wsX12_common wsX12_common := gA_u gbX12_common
set_option maxRecDepth 20000 in
theorem g4_209 : GoodIn wsA (va_wsS RX12 386 yX12_common wsX12_common) := goodIn_app (gA_t gbX12_common (goodIn_r _ [1, 2, 3] rfl (by decide +kernel))) gbX12_common
theorem gX12_common_X12_common : GoodIn wsX12_common (va_wsS RX12 386 yX12_common wsX12_common) := gA_u g4_209
theorem ggX12_part_X12_common : GoodIn wsX12_part wsX12_common := gA_u gbX12_common
theorem gX12_part_X12_common : GoodIn wsX12_part (va_wsS RX12 386 yX12_common wsX12_common) := gA_u g4_209
theorem ggX12_isLate_X12_within : GoodIn wsX12_isLate wsX12_within := gA_u gbX12_within
theorem gX12_isLate_X12_within : GoodIn wsX12_isLate (va_wsS RX12 142 yX12_within wsX12_within) := gA_u g4_147
theorem ggX12_isPart_X12_within : GoodIn wsX12_isPart wsX12_within := gA_u gbX12_within
theorem gX12_isPart_X12_within : GoodIn wsX12_isPart (va_wsS RX12 142 yX12_within wsX12_within) := gA_u g4_147
theorem ggX12_open_X12_isPart : GoodIn wsX12_open wsX12_isPart := gA_u gbX12_isPart
set_option maxRecDepth 20000 in
theorem g4_210 : GoodIn wsA (va_wsS RX12 390 yX12_isPart wsX12_isPart) := goodIn_app (gA_t gbX12_open (goodIn_r _ [4, 5, 6] rfl (by decide +kernel))) gbX12_isPart
theorem gX12_open_X12_isPart : GoodIn wsX12_open (va_wsS RX12 390 yX12_isPart wsX12_isPart) := gA_u g4_210
theorem ggX12_open_X12_isLate : GoodIn wsX12_open wsX12_isLate := gA_u gbX12_isLate
set_option maxRecDepth 20000 in
theorem g4_211 : GoodIn wsA (va_wsS RX12 395 yX12_isLate wsX12_isLate) := goodIn_app (gA_t gbX12_open (goodIn_r _ [11, 12, 6] rfl (by decide +kernel))) gbX12_isLate
theorem gX12_open_X12_isLate : GoodIn wsX12_open (va_wsS RX12 395 yX12_isLate wsX12_isLate) := gA_u g4_211
theorem ggX12_open_X12_laysBuys : GoodIn wsX12_open wsX12_laysBuys := gA_u gbX12_laysBuys
theorem gX12_open_X12_laysBuys : GoodIn wsX12_open (wsV RX12 345 RX12 yX12_laysBuys wsX12_laysBuys) := gA_u g4_199
theorem ggX12_open_X12_laysDays : GoodIn wsX12_open wsX12_laysDays := gA_u gbX12_laysDays
set_option maxRecDepth 20000 in
theorem g4_212 : GoodIn wsA (wsV RX12 398 RX12 yX12_laysDays wsX12_laysDays) := goodIn_app (gA_t gbX12_open (goodIn_r _ [62, 63, 64, 6] rfl (by decide +kernel))) gbX12_laysDays
theorem gX12_open_X12_laysDays : GoodIn wsX12_open (wsV RX12 398 RX12 yX12_laysDays wsX12_laysDays) := gA_u g4_212
theorem ggX12_open_X12_sumRows : GoodIn wsX12_open wsX12_sumRows := gA_u gbX12_sumRows
set_option maxRecDepth 20000 in
theorem g4_213 : GoodIn wsA (wsV RX12 401 RX12 yX12_sumRows wsX12_sumRows) := goodIn_app (gA_t gbX12_open (goodIn_r _ [86, 87, 88, 6] rfl (by decide +kernel))) gbX12_sumRows
theorem gX12_open_X12_sumRows : GoodIn wsX12_open (wsV RX12 401 RX12 yX12_sumRows wsX12_sumRows) := gA_u g4_213
theorem ggX12_open_X12_shutRows : GoodIn wsX12_open wsX12_shutRows := gA_u gbX12_shutRows
theorem gX12_open_X12_shutRows : GoodIn wsX12_open (wsV RX12 368 RX12 yX12_shutRows wsX12_shutRows) := gA_u g4_205
theorem ggX12_open_X12_wholeOf : GoodIn wsX12_open wsX12_wholeOf := gA_u gbX12_wholeOf
set_option maxRecDepth 20000 in
theorem g4_214 : GoodIn wsA (wsV RX12 404 RX12 yX12_wholeOf wsX12_wholeOf) := goodIn_app (gA_t gbX12_open (goodIn_r _ [94, 95, 96, 6] rfl (by decide +kernel))) gbX12_wholeOf
theorem gX12_open_X12_wholeOf : GoodIn wsX12_open (wsV RX12 404 RX12 yX12_wholeOf wsX12_wholeOf) := gA_u g4_214
theorem ggX12_open_X12_part : GoodIn wsX12_open wsX12_part := gA_u gbX12_part
set_option maxRecDepth 20000 in
theorem g4_215 : GoodIn wsA (va_wsS RX12 408 yX12_part wsX12_part) := goodIn_app (gA_t gbX12_open (goodIn_r _ [101, 102, 6] rfl (by decide +kernel))) gbX12_part
theorem gX12_open_X12_part : GoodIn wsX12_open (va_wsS RX12 408 yX12_part wsX12_part) := gA_u g4_215
theorem ggX12_likely_X12_within : GoodIn wsX12_likely wsX12_within := gA_u gbX12_within
theorem gX12_likely_X12_within : GoodIn wsX12_likely (va_wsS RX12 142 yX12_within wsX12_within) := gA_u g4_147
theorem ggX12_likely_X12_laysBuys : GoodIn wsX12_likely wsX12_laysBuys := gA_u gbX12_laysBuys
theorem gX12_likely_X12_laysBuys : GoodIn wsX12_likely (wsV RX12 345 RX12 yX12_laysBuys wsX12_laysBuys) := gA_u g4_199
theorem ggX12_likely_X12_laysDays : GoodIn wsX12_likely wsX12_laysDays := gA_u gbX12_laysDays
theorem gX12_likely_X12_laysDays : GoodIn wsX12_likely (wsV RX12 398 RX12 yX12_laysDays wsX12_laysDays) := gA_u g4_212
theorem ggX12_likely_X12_shutRows : GoodIn wsX12_likely wsX12_shutRows := gA_u gbX12_shutRows
theorem gX12_likely_X12_shutRows : GoodIn wsX12_likely (wsV RX12 368 RX12 yX12_shutRows wsX12_shutRows) := gA_u g4_205
theorem ggX12_likely_X12_wholeOf : GoodIn wsX12_likely wsX12_wholeOf := gA_u gbX12_wholeOf
theorem gX12_likely_X12_wholeOf : GoodIn wsX12_likely (wsV RX12 404 RX12 yX12_wholeOf wsX12_wholeOf) := gA_u g4_214
theorem ggX12_likely_X12_isMuch : GoodIn wsX12_likely wsX12_isMuch := gA_u gbX12_isMuch
set_option maxRecDepth 20000 in
theorem g4_216 : GoodIn wsA (va_wsS RX12 412 yX12_isMuch wsX12_isMuch) := goodIn_app (gA_t gbX12_likely (goodIn_r _ [89, 90, 5] rfl (by decide +kernel))) gbX12_isMuch
theorem gX12_likely_X12_isMuch : GoodIn wsX12_likely (va_wsS RX12 412 yX12_isMuch wsX12_isMuch) := gA_u g4_216
theorem ggX12_shutsBy_X12_isBuyer : GoodIn wsX12_shutsBy wsX12_isBuyer := gA_u gbX12_isBuyer
theorem gX12_shutsBy_X12_isBuyer : GoodIn wsX12_shutsBy (wsV RX12 252 RX12 yX12_isBuyer wsX12_isBuyer) := gA_u g4_179
theorem ggX12_shutsBy_X12_isPart : GoodIn wsX12_shutsBy wsX12_isPart := gA_u gbX12_isPart
theorem gX12_shutsBy_X12_isPart : GoodIn wsX12_shutsBy (va_wsS RX12 390 yX12_isPart wsX12_isPart) := gA_u g4_210
theorem ggX12_shutsBy_X12_isLate : GoodIn wsX12_shutsBy wsX12_isLate := gA_u gbX12_isLate
theorem gX12_shutsBy_X12_isLate : GoodIn wsX12_shutsBy (va_wsS RX12 395 yX12_isLate wsX12_isLate) := gA_u g4_211
theorem ggX12_shutsBy_X12_laysBuys : GoodIn wsX12_shutsBy wsX12_laysBuys := gA_u gbX12_laysBuys
theorem gX12_shutsBy_X12_laysBuys : GoodIn wsX12_shutsBy (wsV RX12 345 RX12 yX12_laysBuys wsX12_laysBuys) := gA_u g4_199
theorem ggX12_shutsBy_X12_laysDays : GoodIn wsX12_shutsBy wsX12_laysDays := gA_u gbX12_laysDays
theorem gX12_shutsBy_X12_laysDays : GoodIn wsX12_shutsBy (wsV RX12 398 RX12 yX12_laysDays wsX12_laysDays) := gA_u g4_212
theorem ggX12_shutsBy_X12_wholeOf : GoodIn wsX12_shutsBy wsX12_wholeOf := gA_u gbX12_wholeOf
theorem gX12_shutsBy_X12_wholeOf : GoodIn wsX12_shutsBy (wsV RX12 404 RX12 yX12_wholeOf wsX12_wholeOf) := gA_u g4_214
theorem ggX12_shutsBy_X12_part : GoodIn wsX12_shutsBy wsX12_part := gA_u gbX12_part
theorem gX12_shutsBy_X12_part : GoodIn wsX12_shutsBy (va_wsS RX12 408 yX12_part wsX12_part) := gA_u g4_215
theorem ggX12_closer_X12_isLate : GoodIn wsX12_closer wsX12_isLate := gA_u gbX12_isLate
theorem gX12_closer_X12_isLate : GoodIn wsX12_closer (va_wsS RX12 395 yX12_isLate wsX12_isLate) := gA_u g4_211
theorem ggX12_closer_X12_laysBuys : GoodIn wsX12_closer wsX12_laysBuys := gA_u gbX12_laysBuys
theorem gX12_closer_X12_laysBuys : GoodIn wsX12_closer (wsV RX12 345 RX12 yX12_laysBuys wsX12_laysBuys) := gA_u g4_199
theorem ggX12_closer_X12_laysDays : GoodIn wsX12_closer wsX12_laysDays := gA_u gbX12_laysDays
theorem gX12_closer_X12_laysDays : GoodIn wsX12_closer (wsV RX12 398 RX12 yX12_laysDays wsX12_laysDays) := gA_u g4_212
theorem ggX12_soldIn_X12_isKind : GoodIn wsX12_soldIn wsX12_isKind := gA_u gbX12_isKind
theorem gX12_soldIn_X12_isKind : GoodIn wsX12_soldIn (wsV RX12 245 RX12 yX12_isKind wsX12_isKind) := gA_u g4_177
theorem ggX12_soldIn_X12_isPart : GoodIn wsX12_soldIn wsX12_isPart := gA_u gbX12_isPart
theorem gX12_soldIn_X12_isPart : GoodIn wsX12_soldIn (va_wsS RX12 390 yX12_isPart wsX12_isPart) := gA_u g4_210
theorem ggX12_soldIn_X12_isLate : GoodIn wsX12_soldIn wsX12_isLate := gA_u gbX12_isLate
theorem gX12_soldIn_X12_isLate : GoodIn wsX12_soldIn (va_wsS RX12 395 yX12_isLate wsX12_isLate) := gA_u g4_211
theorem ggX12_soldIn_X12_laysBuys : GoodIn wsX12_soldIn wsX12_laysBuys := gA_u gbX12_laysBuys
theorem gX12_soldIn_X12_laysBuys : GoodIn wsX12_soldIn (wsV RX12 345 RX12 yX12_laysBuys wsX12_laysBuys) := gA_u g4_199
theorem ggX12_soldIn_X12_laysDays : GoodIn wsX12_soldIn wsX12_laysDays := gA_u gbX12_laysDays
theorem gX12_soldIn_X12_laysDays : GoodIn wsX12_soldIn (wsV RX12 398 RX12 yX12_laysDays wsX12_laysDays) := gA_u g4_212
theorem ggX12_soldIn_X12_isIn : GoodIn wsX12_soldIn wsX12_isIn := gA_u gbX12_isIn
theorem gX12_soldIn_X12_isIn : GoodIn wsX12_soldIn (va_wsS RX12 228 yX12_isIn wsX12_isIn) := gA_u g4_172
theorem ggX12_soldIn_X12_wholeOf : GoodIn wsX12_soldIn wsX12_wholeOf := gA_u gbX12_wholeOf
theorem gX12_soldIn_X12_wholeOf : GoodIn wsX12_soldIn (wsV RX12 404 RX12 yX12_wholeOf wsX12_wholeOf) := gA_u g4_214
theorem ggX12_soldIn_X12_part : GoodIn wsX12_soldIn wsX12_part := gA_u gbX12_part
theorem gX12_soldIn_X12_part : GoodIn wsX12_soldIn (va_wsS RX12 408 yX12_part wsX12_part) := gA_u g4_215
theorem ggX12_openBy_X12_laysBuys : GoodIn wsX12_openBy wsX12_laysBuys := gA_u gbX12_laysBuys
theorem gX12_openBy_X12_laysBuys : GoodIn wsX12_openBy (wsV RX12 345 RX12 yX12_laysBuys wsX12_laysBuys) := gA_u g4_199
theorem ggX12_openBy_X12_laysDays : GoodIn wsX12_openBy wsX12_laysDays := gA_u gbX12_laysDays
theorem gX12_openBy_X12_laysDays : GoodIn wsX12_openBy (wsV RX12 398 RX12 yX12_laysDays wsX12_laysDays) := gA_u g4_212
theorem ggX12_openBy_X12_sumRows : GoodIn wsX12_openBy wsX12_sumRows := gA_u gbX12_sumRows
theorem gX12_openBy_X12_sumRows : GoodIn wsX12_openBy (wsV RX12 401 RX12 yX12_sumRows wsX12_sumRows) := gA_u g4_213
theorem ggX12_openBy_X12_shutRows : GoodIn wsX12_openBy wsX12_shutRows := gA_u gbX12_shutRows
theorem gX12_openBy_X12_shutRows : GoodIn wsX12_openBy (wsV RX12 368 RX12 yX12_shutRows wsX12_shutRows) := gA_u g4_205
theorem ggX12_hides_X12_isPart : GoodIn wsX12_hides wsX12_isPart := gA_u gbX12_isPart
theorem gX12_hides_X12_isPart : GoodIn wsX12_hides (va_wsS RX12 390 yX12_isPart wsX12_isPart) := gA_u g4_210
theorem ggX12_hides_X12_within : GoodIn wsX12_hides wsX12_within := gA_u gbX12_within
theorem gX12_hides_X12_within : GoodIn wsX12_hides (va_wsS RX12 142 yX12_within wsX12_within) := gA_u g4_147
theorem ggX12_hides_X12_isShut : GoodIn wsX12_hides wsX12_isShut := gA_u gbX12_isShut
theorem gX12_hides_X12_isShut : GoodIn wsX12_hides (wsV RX12 259 RX12 yX12_isShut wsX12_isShut) := gA_u g4_181
theorem ggX12_hides_X12_openBy : GoodIn wsX12_hides wsX12_openBy := gA_u gbX12_openBy
set_option maxRecDepth 20000 in
theorem g4_217 : GoodIn wsA (wsV RX12 418 RX12 yX12_openBy wsX12_openBy) := goodIn_app (gA_t gbX12_hides (goodIn_r _ [28, 29, 30, 6] rfl (by decide +kernel))) gbX12_openBy
theorem gX12_hides_X12_openBy : GoodIn wsX12_hides (wsV RX12 418 RX12 yX12_openBy wsX12_openBy) := gA_u g4_217
theorem ggX12_hides_X12_shown : GoodIn wsX12_hides wsX12_shown := gA_u gbX12_shown
theorem gX12_hides_X12_shown : GoodIn wsX12_hides (wsV RX12 207 RX12 yX12_shown wsX12_shown) := gA_u g4_167
theorem ggX12_hides_X12_bitsOf : GoodIn wsX12_hides wsX12_bitsOf := gA_u gbX12_bitsOf
theorem gX12_hides_X12_bitsOf : GoodIn wsX12_hides (va_wsS RX12 217 yX12_bitsOf wsX12_bitsOf) := gA_u g4_169
theorem ggX12_buyersNow_X12_buysNow : GoodIn wsX12_buyersNow wsX12_buysNow := gA_u gbX12_buysNow
theorem gX12_buyersNow_X12_buysNow : GoodIn wsX12_buyersNow (wsV RX12 242 RX12 yX12_buysNow wsX12_buysNow) := gA_u g4_176
theorem ggX12_staysOpen_X12_buyersNow : GoodIn wsX12_staysOpen wsX12_buyersNow := gA_u gbX12_buyersNow
set_option maxRecDepth 20000 in
theorem g4_218 : GoodIn wsA (wsV RX12 422 RX12 yX12_buyersNow wsX12_buyersNow) := goodIn_app (gA_t gbX12_staysOpen (goodIn_r _ [2, 3, 4, 5] rfl (by decide +kernel))) gbX12_buyersNow
theorem gX12_staysOpen_X12_buyersNow : GoodIn wsX12_staysOpen (wsV RX12 422 RX12 yX12_buyersNow wsX12_buyersNow) := gA_u g4_218
theorem ggX12_staysOpen_X12_endingNow : GoodIn wsX12_staysOpen wsX12_endingNow := gA_u gbX12_endingNow
theorem gX12_staysOpen_X12_endingNow : GoodIn wsX12_staysOpen (wsV RX12 351 RX12 yX12_endingNow wsX12_endingNow) := gA_u g4_201
theorem ggX12_rota_X12_isPart : GoodIn wsX12_rota wsX12_isPart := gA_u gbX12_isPart
theorem gX12_rota_X12_isPart : GoodIn wsX12_rota (va_wsS RX12 390 yX12_isPart wsX12_isPart) := gA_u g4_210
theorem ggX12_rota_X12_isShut : GoodIn wsX12_rota wsX12_isShut := gA_u gbX12_isShut
theorem gX12_rota_X12_isShut : GoodIn wsX12_rota (wsV RX12 259 RX12 yX12_isShut wsX12_isShut) := gA_u g4_181
theorem ggX12_rota_X12_buyersNow : GoodIn wsX12_rota wsX12_buyersNow := gA_u gbX12_buyersNow
theorem gX12_rota_X12_buyersNow : GoodIn wsX12_rota (wsV RX12 422 RX12 yX12_buyersNow wsX12_buyersNow) := gA_u g4_218
theorem ggX12_rota_X12_shown : GoodIn wsX12_rota wsX12_shown := gA_u gbX12_shown
theorem gX12_rota_X12_shown : GoodIn wsX12_rota (wsV RX12 207 RX12 yX12_shown wsX12_shown) := gA_u g4_167
theorem ggX12_rota_X12_bitsOf : GoodIn wsX12_rota wsX12_bitsOf := gA_u gbX12_bitsOf
theorem gX12_rota_X12_bitsOf : GoodIn wsX12_rota (va_wsS RX12 217 yX12_bitsOf wsX12_bitsOf) := gA_u g4_169
theorem ggX12_rota_X12_staysOpen : GoodIn wsX12_rota wsX12_staysOpen := gA_u gbX12_staysOpen
set_option maxRecDepth 20000 in
theorem g4_219 : GoodIn wsA (wsV RX12 425 RX12 yX12_staysOpen wsX12_staysOpen) := goodIn_app (gA_t gbX12_rota (goodIn_r _ [63, 64, 65, 4] rfl (by decide +kernel))) gbX12_staysOpen
theorem gX12_rota_X12_staysOpen : GoodIn wsX12_rota (wsV RX12 425 RX12 yX12_staysOpen wsX12_staysOpen) := gA_u g4_219
theorem ggX12_earns_X12_isPart : GoodIn wsX12_earns wsX12_isPart := gA_u gbX12_isPart
theorem gX12_earns_X12_isPart : GoodIn wsX12_earns (va_wsS RX12 390 yX12_isPart wsX12_isPart) := gA_u g4_210
theorem ggX12_earns_X12_within : GoodIn wsX12_earns wsX12_within := gA_u gbX12_within
theorem gX12_earns_X12_within : GoodIn wsX12_earns (va_wsS RX12 142 yX12_within wsX12_within) := gA_u g4_147
theorem ggX12_earns_X12_laysBuys : GoodIn wsX12_earns wsX12_laysBuys := gA_u gbX12_laysBuys
theorem gX12_earns_X12_laysBuys : GoodIn wsX12_earns (wsV RX12 345 RX12 yX12_laysBuys wsX12_laysBuys) := gA_u g4_199
theorem ggX12_earns_X12_laysDays : GoodIn wsX12_earns wsX12_laysDays := gA_u gbX12_laysDays
theorem gX12_earns_X12_laysDays : GoodIn wsX12_earns (wsV RX12 398 RX12 yX12_laysDays wsX12_laysDays) := gA_u g4_212
theorem ggX12_earns_X12_wholeOf : GoodIn wsX12_earns wsX12_wholeOf := gA_u gbX12_wholeOf
theorem gX12_earns_X12_wholeOf : GoodIn wsX12_earns (wsV RX12 404 RX12 yX12_wholeOf wsX12_wholeOf) := gA_u g4_214
theorem ggX12_earns_X12_part : GoodIn wsX12_earns wsX12_part := gA_u gbX12_part
theorem gX12_earns_X12_part : GoodIn wsX12_earns (va_wsS RX12 408 yX12_part wsX12_part) := gA_u g4_215
theorem ggX12_bestPrice_X12_isKind : GoodIn wsX12_bestPrice wsX12_isKind := gA_u gbX12_isKind
theorem gX12_bestPrice_X12_isKind : GoodIn wsX12_bestPrice (wsV RX12 245 RX12 yX12_isKind wsX12_isKind) := gA_u g4_177
theorem ggX12_bestPrice_X12_within : GoodIn wsX12_bestPrice wsX12_within := gA_u gbX12_within
theorem gX12_bestPrice_X12_within : GoodIn wsX12_bestPrice (va_wsS RX12 142 yX12_within wsX12_within) := gA_u g4_147
theorem ggX12_bestPrice_X12_isShut : GoodIn wsX12_bestPrice wsX12_isShut := gA_u gbX12_isShut
theorem gX12_bestPrice_X12_isShut : GoodIn wsX12_bestPrice (wsV RX12 259 RX12 yX12_isShut wsX12_isShut) := gA_u g4_181
theorem ggX12_bestPrice_X12_laysBuys : GoodIn wsX12_bestPrice wsX12_laysBuys := gA_u gbX12_laysBuys
theorem gX12_bestPrice_X12_laysBuys : GoodIn wsX12_bestPrice (wsV RX12 345 RX12 yX12_laysBuys wsX12_laysBuys) := gA_u g4_199
theorem ggX12_bestPrice_X12_laysDays : GoodIn wsX12_bestPrice wsX12_laysDays := gA_u gbX12_laysDays
theorem gX12_bestPrice_X12_laysDays : GoodIn wsX12_bestPrice (wsV RX12 398 RX12 yX12_laysDays wsX12_laysDays) := gA_u g4_212
theorem ggX12_noSeen_X12_noTray : GoodIn wsX12_noSeen wsX12_noTray := gA_u gbX12_noTray
theorem gX12_noSeen_X12_noTray : GoodIn wsX12_noSeen (wsV RX12 327 RX12 yX12_noTray wsX12_noTray) := gA_u g4_194
theorem ggX12_noSeen_X12_within : GoodIn wsX12_noSeen wsX12_within := gA_u gbX12_within
theorem gX12_noSeen_X12_within : GoodIn wsX12_noSeen (va_wsS RX12 142 yX12_within wsX12_within) := gA_u g4_147
theorem ggX12_noSeen_X12_isBuyer : GoodIn wsX12_noSeen wsX12_isBuyer := gA_u gbX12_isBuyer
theorem gX12_noSeen_X12_isBuyer : GoodIn wsX12_noSeen (wsV RX12 252 RX12 yX12_isBuyer wsX12_isBuyer) := gA_u g4_179
theorem ggX12_noSeen_X12_isKind : GoodIn wsX12_noSeen wsX12_isKind := gA_u gbX12_isKind
theorem gX12_noSeen_X12_isKind : GoodIn wsX12_noSeen (wsV RX12 245 RX12 yX12_isKind wsX12_isKind) := gA_u g4_177
theorem ggX12_laysSeen_X12_laysBuys : GoodIn wsX12_laysSeen wsX12_laysBuys := gA_u gbX12_laysBuys
theorem gX12_laysSeen_X12_laysBuys : GoodIn wsX12_laysSeen (wsV RX12 345 RX12 yX12_laysBuys wsX12_laysBuys) := gA_u g4_199
theorem ggX12_laysSeen_X12_everyKind : GoodIn wsX12_laysSeen wsX12_everyKind := gA_u gbX12_everyKind
theorem gX12_laysSeen_X12_everyKind : GoodIn wsX12_laysSeen (wsV RX12 204 RX12 yX12_everyKind wsX12_everyKind) := gA_u g4_166
theorem ggX12_laysSeen_X12_boughtBy : GoodIn wsX12_laysSeen wsX12_boughtBy := gA_u gbX12_boughtBy
theorem gX12_laysSeen_X12_boughtBy : GoodIn wsX12_laysSeen (wsV RX12 342 RX12 yX12_boughtBy wsX12_boughtBy) := gA_u g4_198
theorem ggX12_seen_X12_noSeen : GoodIn wsX12_seen wsX12_noSeen := gA_u gbX12_noSeen
set_option maxRecDepth 20000 in
theorem g4_220 : GoodIn wsA (wsV RX12 435 RX12 yX12_noSeen wsX12_noSeen) := goodIn_app (gA_t gbX12_seen (goodIn_r _ [2, 3, 4, 5] rfl (by decide +kernel))) gbX12_noSeen
theorem gX12_seen_X12_noSeen : GoodIn wsX12_seen (wsV RX12 435 RX12 yX12_noSeen wsX12_noSeen) := gA_u g4_220
theorem ggX12_seen_X12_laysSeen : GoodIn wsX12_seen wsX12_laysSeen := gA_u gbX12_laysSeen
set_option maxRecDepth 20000 in
theorem g4_221 : GoodIn wsA (wsV RX12 438 RX12 yX12_laysSeen wsX12_laysSeen) := goodIn_app (gA_t gbX12_seen (goodIn_r _ [30, 31, 32, 5] rfl (by decide +kernel))) gbX12_laysSeen
theorem gX12_seen_X12_laysSeen : GoodIn wsX12_seen (wsV RX12 438 RX12 yX12_laysSeen wsX12_laysSeen) := gA_u g4_221
theorem ggX12_sureGone_X12_noSeen : GoodIn wsX12_sureGone wsX12_noSeen := gA_u gbX12_noSeen
theorem gX12_sureGone_X12_noSeen : GoodIn wsX12_sureGone (wsV RX12 435 RX12 yX12_noSeen wsX12_noSeen) := gA_u g4_220
theorem ggX12_sureGone_X12_laysSeen : GoodIn wsX12_sureGone wsX12_laysSeen := gA_u gbX12_laysSeen
theorem gX12_sureGone_X12_laysSeen : GoodIn wsX12_sureGone (wsV RX12 438 RX12 yX12_laysSeen wsX12_laysSeen) := gA_u g4_221
theorem ggX12_sureGone_X12_everyKind : GoodIn wsX12_sureGone wsX12_everyKind := gA_u gbX12_everyKind
theorem gX12_sureGone_X12_everyKind : GoodIn wsX12_sureGone (wsV RX12 204 RX12 yX12_everyKind wsX12_everyKind) := gA_u g4_166
theorem ggX12_mostOften_X12_everyKind : GoodIn wsX12_mostOften wsX12_everyKind := gA_u gbX12_everyKind
theorem gX12_mostOften_X12_everyKind : GoodIn wsX12_mostOften (wsV RX12 204 RX12 yX12_everyKind wsX12_everyKind) := gA_u g4_166
theorem ggX12_mostOften_X12_boughtBy : GoodIn wsX12_mostOften wsX12_boughtBy := gA_u gbX12_boughtBy
theorem gX12_mostOften_X12_boughtBy : GoodIn wsX12_mostOften (wsV RX12 342 RX12 yX12_boughtBy wsX12_boughtBy) := gA_u g4_198
theorem ggX12_ask_X12_noSeen : GoodIn wsX12_ask wsX12_noSeen := gA_u gbX12_noSeen
theorem gX12_ask_X12_noSeen : GoodIn wsX12_ask (wsV RX12 435 RX12 yX12_noSeen wsX12_noSeen) := gA_u g4_220
theorem ggX12_ask_X12_laysSeen : GoodIn wsX12_ask wsX12_laysSeen := gA_u gbX12_laysSeen
theorem gX12_ask_X12_laysSeen : GoodIn wsX12_ask (wsV RX12 438 RX12 yX12_laysSeen wsX12_laysSeen) := gA_u g4_221
theorem ggX12_ask_X12_mostOften : GoodIn wsX12_ask wsX12_mostOften := gA_u gbX12_mostOften
set_option maxRecDepth 20000 in
theorem g4_222 : GoodIn wsA (wsV RX12 441 RX12 yX12_mostOften wsX12_mostOften) := goodIn_app (gA_t gbX12_ask (goodIn_r _ [86, 87, 88, 7] rfl (by decide +kernel))) gbX12_mostOften
theorem gX12_ask_X12_mostOften : GoodIn wsX12_ask (wsV RX12 441 RX12 yX12_mostOften wsX12_mostOften) := gA_u g4_222
theorem ggX12_noGone_X12_noTray : GoodIn wsX12_noGone wsX12_noTray := gA_u gbX12_noTray
theorem gX12_noGone_X12_noTray : GoodIn wsX12_noGone (wsV RX12 327 RX12 yX12_noTray wsX12_noTray) := gA_u g4_194
theorem ggX12_noGone_X12_within : GoodIn wsX12_noGone wsX12_within := gA_u gbX12_within
theorem gX12_noGone_X12_within : GoodIn wsX12_noGone (va_wsS RX12 142 yX12_within wsX12_within) := gA_u g4_147
theorem ggX12_noGone_X12_isKind : GoodIn wsX12_noGone wsX12_isKind := gA_u gbX12_isKind
theorem gX12_noGone_X12_isKind : GoodIn wsX12_noGone (wsV RX12 245 RX12 yX12_isKind wsX12_isKind) := gA_u g4_177
theorem ggX12_cameBy_X12_laysBuys : GoodIn wsX12_cameBy wsX12_laysBuys := gA_u gbX12_laysBuys
theorem gX12_cameBy_X12_laysBuys : GoodIn wsX12_cameBy (wsV RX12 345 RX12 yX12_laysBuys wsX12_laysBuys) := gA_u g4_199
theorem ggX12_cameBy_X12_beginsRows : GoodIn wsX12_cameBy wsX12_beginsRows := gA_u gbX12_beginsRows
theorem gX12_cameBy_X12_beginsRows : GoodIn wsX12_cameBy (wsV RX12 361 RX12 yX12_beginsRows wsX12_beginsRows) := gA_u g4_203
theorem ggX12_cameBy_X12_goesRows : GoodIn wsX12_cameBy wsX12_goesRows := gA_u gbX12_goesRows
theorem gX12_cameBy_X12_goesRows : GoodIn wsX12_cameBy (wsV RX12 364 RX12 yX12_goesRows wsX12_goesRows) := gA_u g4_204
theorem ggX12_cameBy_X12_sumRows : GoodIn wsX12_cameBy wsX12_sumRows := gA_u gbX12_sumRows
theorem gX12_cameBy_X12_sumRows : GoodIn wsX12_cameBy (wsV RX12 401 RX12 yX12_sumRows wsX12_sumRows) := gA_u g4_213
theorem ggX12_came_X12_noGone : GoodIn wsX12_came wsX12_noGone := gA_u gbX12_noGone
set_option maxRecDepth 20000 in
theorem g4_223 : GoodIn wsA (wsV RX12 444 RX12 yX12_noGone wsX12_noGone) := goodIn_app (gA_t gbX12_came (goodIn_r _ [2, 3, 4, 5] rfl (by decide +kernel))) gbX12_noGone
theorem gX12_came_X12_noGone : GoodIn wsX12_came (wsV RX12 444 RX12 yX12_noGone wsX12_noGone) := gA_u g4_223
theorem ggX12_came_X12_cameBy : GoodIn wsX12_came wsX12_cameBy := gA_u gbX12_cameBy
set_option maxRecDepth 20000 in
theorem g4_224 : GoodIn wsA (wsV RX12 447 RX12 yX12_cameBy wsX12_cameBy) := goodIn_app (gA_t gbX12_came (goodIn_r _ [25, 26, 27, 5] rfl (by decide +kernel))) gbX12_cameBy
theorem gX12_came_X12_cameBy : GoodIn wsX12_came (wsV RX12 447 RX12 yX12_cameBy wsX12_cameBy) := gA_u g4_224
theorem ggX12_who_X12_noGone : GoodIn wsX12_who wsX12_noGone := gA_u gbX12_noGone
theorem gX12_who_X12_noGone : GoodIn wsX12_who (wsV RX12 444 RX12 yX12_noGone wsX12_noGone) := gA_u g4_223
theorem ggX12_who_X12_within : GoodIn wsX12_who wsX12_within := gA_u gbX12_within
theorem gX12_who_X12_within : GoodIn wsX12_who (va_wsS RX12 142 yX12_within wsX12_within) := gA_u g4_147
theorem ggX12_who_X12_cameBy : GoodIn wsX12_who wsX12_cameBy := gA_u gbX12_cameBy
theorem gX12_who_X12_cameBy : GoodIn wsX12_who (wsV RX12 447 RX12 yX12_cameBy wsX12_cameBy) := gA_u g4_224
theorem ggX12_numbers_X12_within : GoodIn wsX12_numbers wsX12_within := gA_u gbX12_within
theorem gX12_numbers_X12_within : GoodIn wsX12_numbers (va_wsS RX12 142 yX12_within wsX12_within) := gA_u g4_147
theorem ggX12_write_X12_noTray : GoodIn wsX12_write wsX12_noTray := gA_u gbX12_noTray
theorem gX12_write_X12_noTray : GoodIn wsX12_write (wsV RX12 327 RX12 yX12_noTray wsX12_noTray) := gA_u g4_194
theorem ggX12_write_X12_within : GoodIn wsX12_write wsX12_within := gA_u gbX12_within
theorem gX12_write_X12_within : GoodIn wsX12_write (va_wsS RX12 142 yX12_within wsX12_within) := gA_u g4_147
theorem ggX12_write_X12_cut : GoodIn wsX12_write wsX12_cut := gA_u gbX12_cut
set_option maxRecDepth 20000 in
theorem g4_225 : GoodIn wsA (va_wsS RX12 453 yX12_cut wsX12_cut) := goodIn_app (gA_t gbX12_write (goodIn_r _ [15, 16, 9] rfl (by decide +kernel))) gbX12_cut
theorem gX12_write_X12_cut : GoodIn wsX12_write (va_wsS RX12 453 yX12_cut wsX12_cut) := gA_u g4_225
theorem ggX12_lists_X12_noTray : GoodIn wsX12_lists wsX12_noTray := gA_u gbX12_noTray
theorem gX12_lists_X12_noTray : GoodIn wsX12_lists (wsV RX12 327 RX12 yX12_noTray wsX12_noTray) := gA_u g4_194
theorem ggX12_lists_X12_laysEndingRow : GoodIn wsX12_lists wsX12_laysEndingRow := gA_u gbX12_laysEndingRow
theorem gX12_lists_X12_laysEndingRow : GoodIn wsX12_lists (wsV RX12 354 RX12 yX12_laysEndingRow wsX12_laysEndingRow) := gA_u g4_202
theorem ggX12_image_X12_within : GoodIn wsX12_image wsX12_within := gA_u gbX12_within
theorem gX12_image_X12_within : GoodIn wsX12_image (va_wsS RX12 142 yX12_within wsX12_within) := gA_u g4_147
theorem ggX12_restore_X12_within : GoodIn wsX12_restore wsX12_within := gA_u gbX12_within
theorem gX12_restore_X12_within : GoodIn wsX12_restore (va_wsS RX12 142 yX12_within wsX12_within) := gA_u g4_147
theorem ggX12_count_X12_isShut : GoodIn wsX12_count wsX12_isShut := gA_u gbX12_isShut
theorem gX12_count_X12_isShut : GoodIn wsX12_count (wsV RX12 259 RX12 yX12_isShut wsX12_isShut) := gA_u g4_181
theorem ggX12_count_X12_oddsAll : GoodIn wsX12_count wsX12_oddsAll := gA_u gbX12_oddsAll
theorem gX12_count_X12_oddsAll : GoodIn wsX12_count (wsV RX12 269 RX12 yX12_oddsAll wsX12_oddsAll) := gA_u g4_183
set_option maxRecDepth 20000 in
theorem ggJ0_length_8abf5_J0_coder_7d493 : GoodIn wsJ0_length_8abf5 wsJ0_coder_7d493 := goodIn_r _ [6, 7, 8] rfl (by decide +kernel)
set_option maxRecDepth 20000 in
theorem gJ0_length_8abf5_J0_coder_7d493 : GoodIn wsJ0_length_8abf5 (wsV RJ0 335 RJ0 yJ0_coder_7d493 wsJ0_coder_7d493) := goodIn_app (goodIn_r _ [2, 3, 4, 5] rfl (by decide +kernel)) ggJ0_length_8abf5_J0_coder_7d493
set_option maxRecDepth 20000 in
theorem ggJ0_charAt_5068e_J0_isLatin1_aae02 : GoodIn wsJ0_charAt_5068e wsJ0_isLatin1_aae02 := goodIn_r _ [6, 7, 8] rfl (by decide +kernel)
set_option maxRecDepth 20000 in
theorem gJ0_charAt_5068e_J0_isLatin1_aae02 : GoodIn wsJ0_charAt_5068e (wsV RJ0 492 RJ0 yJ0_isLatin1_aae02 wsJ0_isLatin1_aae02) := goodIn_app (goodIn_r _ [2, 3, 4, 5] rfl (by decide +kernel)) ggJ0_charAt_5068e_J0_isLatin1_aae02
set_option maxRecDepth 20000 in
theorem ggJ0_charAt_5068e_J1_charAt_3b067 : GoodIn wsJ0_charAt_5068e wsJ1_charAt_3b067 := goodIn_r _ [12, 13, 14, 5, 15, 16, 17, 18, 19, 20] rfl (by decide +kernel)
set_option maxRecDepth 20000 in
theorem gJ0_charAt_5068e_J1_charAt_3b067 : GoodIn wsJ0_charAt_5068e (va_wsS RJ0 495 yJ1_charAt_3b067 wsJ1_charAt_3b067) := goodIn_app (goodIn_r _ [9, 10, 11] rfl (by decide +kernel)) ggJ0_charAt_5068e_J1_charAt_3b067
set_option maxRecDepth 20000 in
theorem ggJ0_charAt_5068e_J2_charAt_3b067 : GoodIn wsJ0_charAt_5068e wsJ2_charAt_3b067 := goodIn_r _ [24, 25, 26, 23, 27, 28, 29, 30, 31, 14, 5, 15, 16, 17, 18, 19, 20, 32, 33, 34, 35, 36, 37] rfl (by decide +kernel)
set_option maxRecDepth 20000 in
theorem gJ0_charAt_5068e_J2_charAt_3b067 : GoodIn wsJ0_charAt_5068e (va_wsS RJ0 498 yJ2_charAt_3b067 wsJ2_charAt_3b067) := goodIn_app (goodIn_r _ [21, 22, 23] rfl (by decide +kernel)) ggJ0_charAt_5068e_J2_charAt_3b067
set_option maxRecDepth 20000 in
theorem ggJ0_indexOf_0f7a4_J0_indexOf_7cf53 : GoodIn wsJ0_indexOf_0f7a4 wsJ0_indexOf_7cf53 := goodIn_r _ [5, 6, 7, 8, 9, 4, 10, 11, 12, 13, 14, 15, 16, 17, 18, 19, 20, 21, 22, 23, 24, 25, 26, 27, 28, 29, 30, 31, 32, 33, 34, 35, 36, 37, 38, 39, 40, 41, 42, 43, 44, 45, 46, 47, 48, 49, 50, 51, 52, 53, 54, 55, 56, 57, 58, 59, 60, 61, 62, 63, 64, 65, 66, 67, 68, 69, 70, 71, 72, 73, 74, 75, 76, 77, 78, 79, 80, 81, 82, 83, 84, 85] rfl (by decide +kernel)
set_option maxRecDepth 20000 in
theorem gJ0_indexOf_0f7a4_J0_indexOf_7cf53 : GoodIn wsJ0_indexOf_0f7a4 (wsV RJ0 633 RJ0 yJ0_indexOf_7cf53 wsJ0_indexOf_7cf53) := goodIn_app (goodIn_r _ [1, 2, 3, 4] rfl (by decide +kernel)) ggJ0_indexOf_0f7a4_J0_indexOf_7cf53
set_option maxRecDepth 20000 in
theorem ggJ0_indexOf_7cf53_J0_isLatin1_aae02 : GoodIn wsJ0_indexOf_7cf53 wsJ0_isLatin1_aae02 := goodIn_r _ [6, 7, 8] rfl (by decide +kernel)
set_option maxRecDepth 20000 in
theorem gJ0_indexOf_7cf53_J0_isLatin1_aae02 : GoodIn wsJ0_indexOf_7cf53 (wsV RJ0 492 RJ0 yJ0_isLatin1_aae02 wsJ0_isLatin1_aae02) := goodIn_app (goodIn_r _ [2, 3, 4, 5] rfl (by decide +kernel)) ggJ0_indexOf_7cf53_J0_isLatin1_aae02
set_option maxRecDepth 20000 in
theorem ggJ0_indexOf_7cf53_J0_length_8abf5 : GoodIn wsJ0_indexOf_7cf53 wsJ0_length_8abf5 := goodIn_r _ [12, 1, 13, 14, 15, 5, 16, 7, 8] rfl (by decide +kernel)
set_option maxRecDepth 20000 in
theorem gJ0_indexOf_7cf53_J0_length_8abf5 : GoodIn wsJ0_indexOf_7cf53 (wsV RJ0 505 RJ0 yJ0_length_8abf5 wsJ0_length_8abf5) := goodIn_app (goodIn_r _ [9, 10, 11, 5] rfl (by decide +kernel)) ggJ0_indexOf_7cf53_J0_length_8abf5
set_option maxRecDepth 20000 in
theorem ggJ0_indexOf_7cf53_J1_indexOf_4cfef : GoodIn wsJ0_indexOf_7cf53 wsJ1_indexOf_4cfef := goodIn_r _ [20, 21, 22, 23, 24, 25, 26, 27, 28, 29, 19, 30, 31, 32, 33] rfl (by decide +kernel)
set_option maxRecDepth 20000 in
theorem gJ0_indexOf_7cf53_J1_indexOf_4cfef : GoodIn wsJ0_indexOf_7cf53 (va_wsS RJ0 637 yJ1_indexOf_4cfef wsJ1_indexOf_4cfef) := goodIn_app (goodIn_r _ [17, 18, 19] rfl (by decide +kernel)) ggJ0_indexOf_7cf53_J1_indexOf_4cfef
set_option maxRecDepth 20000 in
theorem ggJ0_indexOf_7cf53_J2_indexOf_4cfef : GoodIn wsJ0_indexOf_7cf53 wsJ2_indexOf_4cfef := goodIn_r _ [37, 38, 22, 23, 24, 39, 26, 27, 40, 41, 42, 36, 43, 44, 45, 46, 47, 48, 49, 50, 51, 5, 52, 53, 54, 55, 56, 57, 58, 59, 60, 61, 62, 63, 64, 65, 66, 67, 68, 69, 70, 71, 72, 73, 74, 75, 76, 77, 78, 79, 80, 81] rfl (by decide +kernel)
set_option maxRecDepth 20000 in
theorem gJ0_indexOf_7cf53_J2_indexOf_4cfef : GoodIn wsJ0_indexOf_7cf53 (va_wsS RJ0 640 yJ2_indexOf_4cfef wsJ2_indexOf_4cfef) := goodIn_app (goodIn_r _ [34, 35, 36] rfl (by decide +kernel)) ggJ0_indexOf_7cf53_J2_indexOf_4cfef
set_option maxRecDepth 20000 in
theorem ggJ0_checkIndex_df160_J3_checkIndex_8e157 : GoodIn wsJ0_checkIndex_df160 wsJ3_checkIndex_8e157 := goodIn_r _ [5] rfl (by decide +kernel)
set_option maxRecDepth 20000 in
theorem gJ0_checkIndex_df160_J3_checkIndex_8e157 : GoodIn wsJ0_checkIndex_df160 (va_wsS RJ0 1059 yJ3_checkIndex_8e157 wsJ3_checkIndex_8e157) := goodIn_app (goodIn_r _ [2, 3, 4] rfl (by decide +kernel)) ggJ0_checkIndex_df160_J3_checkIndex_8e157
set_option maxRecDepth 20000 in
theorem ggJ0_checkBoundsBeginEnd_23922_J3_checkFromToIndex_8c36e : GoodIn wsJ0_checkBoundsBeginEnd_23922 wsJ3_checkFromToIndex_8c36e := goodIn_r _ [5] rfl (by decide +kernel)
set_option maxRecDepth 20000 in
theorem gJ0_checkBoundsBeginEnd_23922_J3_checkFromToIndex_8c36e : GoodIn wsJ0_checkBoundsBeginEnd_23922 (va_wsS RJ0 1062 yJ3_checkFromToIndex_8c36e wsJ3_checkFromToIndex_8c36e) := goodIn_app (goodIn_r _ [2, 3, 4] rfl (by decide +kernel)) ggJ0_checkBoundsBeginEnd_23922_J3_checkFromToIndex_8c36e
set_option maxRecDepth 20000 in
theorem ggJ1_charAt_3b067_J0_checkIndex_df160 : GoodIn wsJ1_charAt_3b067 wsJ0_checkIndex_df160 := goodIn_r _ [4, 5, 6, 7, 8, 9] rfl (by decide +kernel)
set_option maxRecDepth 20000 in
theorem gJ1_charAt_3b067_J0_checkIndex_df160 : GoodIn wsJ1_charAt_3b067 (va_wsS RJ1 9 yJ0_checkIndex_df160 wsJ0_checkIndex_df160) := goodIn_app (goodIn_r _ [1, 2, 3] rfl (by decide +kernel)) ggJ1_charAt_3b067_J0_checkIndex_df160
set_option maxRecDepth 20000 in
theorem ggJ1_indexOf_4cfef_J1_canEncode_9a6ad : GoodIn wsJ1_indexOf_4cfef wsJ1_canEncode_9a6ad := goodIn_r _ [11] rfl (by decide +kernel)
set_option maxRecDepth 20000 in
theorem gJ1_indexOf_4cfef_J1_canEncode_9a6ad : GoodIn wsJ1_indexOf_4cfef (va_wsS RJ1 88 yJ1_canEncode_9a6ad wsJ1_canEncode_9a6ad) := goodIn_app (goodIn_r _ [8, 9, 10] rfl (by decide +kernel)) ggJ1_indexOf_4cfef_J1_canEncode_9a6ad
set_option maxRecDepth 20000 in
theorem ggJ1_indexOf_4cfef_J1_indexOfChar_4cfef : GoodIn wsJ1_indexOf_4cfef wsJ1_indexOfChar_4cfef := goodIn_r _ [14] rfl (by decide +kernel)
set_option maxRecDepth 20000 in
theorem gJ1_indexOf_4cfef_J1_indexOfChar_4cfef : GoodIn wsJ1_indexOf_4cfef (va_wsS RJ1 95 yJ1_indexOfChar_4cfef wsJ1_indexOfChar_4cfef) := goodIn_app (goodIn_r _ [12, 13, 10] rfl (by decide +kernel)) ggJ1_indexOf_4cfef_J1_indexOfChar_4cfef
set_option maxRecDepth 20000 in
theorem ggJ2_getChar_3b067_J2_length_9d52b : GoodIn wsJ2_getChar_3b067 wsJ2_length_9d52b := goodIn_r _ [7] rfl (by decide +kernel)
set_option maxRecDepth 20000 in
theorem gJ2_getChar_3b067_J2_length_9d52b : GoodIn wsJ2_getChar_3b067 (va_wsS RJ2 48 yJ2_length_9d52b wsJ2_length_9d52b) := goodIn_app (goodIn_r _ [4, 5, 6] rfl (by decide +kernel)) ggJ2_getChar_3b067_J2_length_9d52b
set_option maxRecDepth 20000 in
theorem ggJ2_indexOf_4cfef_J2_indexOfChar_4cfef : GoodIn wsJ2_indexOf_4cfef wsJ2_indexOfChar_4cfef := goodIn_r _ [12, 13, 14, 11, 15, 16, 17, 18, 19, 20, 21, 22, 23, 24, 25, 26, 27, 28, 29, 30, 31, 32, 33, 34, 35, 36] rfl (by decide +kernel)
set_option maxRecDepth 20000 in
theorem gJ2_indexOf_4cfef_J2_indexOfChar_4cfef : GoodIn wsJ2_indexOf_4cfef (va_wsS RJ2 228 yJ2_indexOfChar_4cfef wsJ2_indexOfChar_4cfef) := goodIn_app (goodIn_r _ [9, 10, 11] rfl (by decide +kernel)) ggJ2_indexOf_4cfef_J2_indexOfChar_4cfef
set_option maxRecDepth 20000 in
theorem ggJ2_indexOf_4cfef_J2_indexOfSupplementary_4cfef : GoodIn wsJ2_indexOf_4cfef wsJ2_indexOfSupplementary_4cfef := goodIn_r _ [39, 40, 41, 42, 43, 44, 45, 46, 47, 48, 49, 50, 51, 13, 14, 11, 15, 16, 17, 18, 19, 20, 21, 22, 23, 24, 25, 26, 27, 31, 32, 33, 34, 35, 36] rfl (by decide +kernel)
set_option maxRecDepth 20000 in
theorem gJ2_indexOf_4cfef_J2_indexOfSupplementary_4cfef : GoodIn wsJ2_indexOf_4cfef (va_wsS RJ2 232 yJ2_indexOfSupplementary_4cfef wsJ2_indexOfSupplementary_4cfef) := goodIn_app (goodIn_r _ [37, 38, 11] rfl (by decide +kernel)) ggJ2_indexOf_4cfef_J2_indexOfSupplementary_4cfef
set_option maxRecDepth 20000 in
theorem ggJ2_indexOfChar_4cfef_J2_checkBoundsBeginEnd_d044e : GoodIn wsJ2_indexOfChar_4cfef wsJ2_checkBoundsBeginEnd_d044e := goodIn_r _ [4, 5, 6, 3, 7, 8, 9, 10, 11, 12, 13, 14, 15, 16] rfl (by decide +kernel)
set_option maxRecDepth 20000 in
theorem gJ2_indexOfChar_4cfef_J2_checkBoundsBeginEnd_d044e : GoodIn wsJ2_indexOfChar_4cfef (va_wsS RJ2 96 yJ2_checkBoundsBeginEnd_d044e wsJ2_checkBoundsBeginEnd_d044e) := goodIn_app (goodIn_r _ [1, 2, 3] rfl (by decide +kernel)) ggJ2_indexOfChar_4cfef_J2_checkBoundsBeginEnd_d044e
set_option maxRecDepth 20000 in
theorem ggJ2_indexOfChar_4cfef_J2_indexOfCharUnsafe_4cfef : GoodIn wsJ2_indexOfChar_4cfef wsJ2_indexOfCharUnsafe_4cfef := goodIn_r _ [19, 20, 21, 3, 22, 23, 24, 25, 5, 6, 7] rfl (by decide +kernel)
set_option maxRecDepth 20000 in
theorem gJ2_indexOfChar_4cfef_J2_indexOfCharUnsafe_4cfef : GoodIn wsJ2_indexOfChar_4cfef (va_wsS RJ2 244 yJ2_indexOfCharUnsafe_4cfef wsJ2_indexOfCharUnsafe_4cfef) := goodIn_app (goodIn_r _ [17, 18, 3] rfl (by decide +kernel)) ggJ2_indexOfChar_4cfef_J2_indexOfCharUnsafe_4cfef
set_option maxRecDepth 20000 in
theorem ggJ2_indexOfCharUnsafe_4cfef_J2_getChar_3b067 : GoodIn wsJ2_indexOfCharUnsafe_4cfef wsJ2_getChar_3b067 := goodIn_r _ [4, 5, 6, 7, 8, 9, 3, 10] rfl (by decide +kernel)
set_option maxRecDepth 20000 in
theorem gJ2_indexOfCharUnsafe_4cfef_J2_getChar_3b067 : GoodIn wsJ2_indexOfCharUnsafe_4cfef (va_wsS RJ2 71 yJ2_getChar_3b067 wsJ2_getChar_3b067) := goodIn_app (goodIn_r _ [1, 2, 3] rfl (by decide +kernel)) ggJ2_indexOfCharUnsafe_4cfef_J2_getChar_3b067
set_option maxRecDepth 20000 in
theorem ggJ2_indexOfSupplementary_4cfef_J11_isValidCodePoint_9a6ad : GoodIn wsJ2_indexOfSupplementary_4cfef wsJ11_isValidCodePoint_9a6ad := goodIn_r _ [4] rfl (by decide +kernel)
set_option maxRecDepth 20000 in
theorem gJ2_indexOfSupplementary_4cfef_J11_isValidCodePoint_9a6ad : GoodIn wsJ2_indexOfSupplementary_4cfef (va_wsS RJ2 164 yJ11_isValidCodePoint_9a6ad wsJ11_isValidCodePoint_9a6ad) := goodIn_app (goodIn_r _ [1, 2, 3] rfl (by decide +kernel)) ggJ2_indexOfSupplementary_4cfef_J11_isValidCodePoint_9a6ad
set_option maxRecDepth 20000 in
theorem ggJ2_indexOfSupplementary_4cfef_J11_highSurrogate_5068e : GoodIn wsJ2_indexOfSupplementary_4cfef wsJ11_highSurrogate_5068e := goodIn_r _ [7, 8] rfl (by decide +kernel)
set_option maxRecDepth 20000 in
theorem gJ2_indexOfSupplementary_4cfef_J11_highSurrogate_5068e : GoodIn wsJ2_indexOfSupplementary_4cfef (va_wsS RJ2 157 yJ11_highSurrogate_5068e wsJ11_highSurrogate_5068e) := goodIn_app (goodIn_r _ [5, 6, 3] rfl (by decide +kernel)) ggJ2_indexOfSupplementary_4cfef_J11_highSurrogate_5068e
set_option maxRecDepth 20000 in
theorem ggJ2_indexOfSupplementary_4cfef_J11_lowSurrogate_5068e : GoodIn wsJ2_indexOfSupplementary_4cfef wsJ11_lowSurrogate_5068e := goodIn_r _ [11, 12] rfl (by decide +kernel)
set_option maxRecDepth 20000 in
theorem gJ2_indexOfSupplementary_4cfef_J11_lowSurrogate_5068e : GoodIn wsJ2_indexOfSupplementary_4cfef (va_wsS RJ2 161 yJ11_lowSurrogate_5068e wsJ11_lowSurrogate_5068e) := goodIn_app (goodIn_r _ [9, 10, 3] rfl (by decide +kernel)) ggJ2_indexOfSupplementary_4cfef_J11_lowSurrogate_5068e
set_option maxRecDepth 20000 in
theorem ggJ2_indexOfSupplementary_4cfef_J2_checkBoundsBeginEnd_d044e : GoodIn wsJ2_indexOfSupplementary_4cfef wsJ2_checkBoundsBeginEnd_d044e := goodIn_r _ [16, 17, 18, 15, 19, 20, 21, 22, 23, 24, 25, 26, 27, 28] rfl (by decide +kernel)
set_option maxRecDepth 20000 in
theorem gJ2_indexOfSupplementary_4cfef_J2_checkBoundsBeginEnd_d044e : GoodIn wsJ2_indexOfSupplementary_4cfef (va_wsS RJ2 96 yJ2_checkBoundsBeginEnd_d044e wsJ2_checkBoundsBeginEnd_d044e) := goodIn_app (goodIn_r _ [13, 14, 15] rfl (by decide +kernel)) ggJ2_indexOfSupplementary_4cfef_J2_checkBoundsBeginEnd_d044e
set_option maxRecDepth 20000 in
theorem ggJ2_indexOfSupplementary_4cfef_J2_getChar_3b067 : GoodIn wsJ2_indexOfSupplementary_4cfef wsJ2_getChar_3b067 := goodIn_r _ [31, 32, 33, 34, 17, 18, 15, 19] rfl (by decide +kernel)
set_option maxRecDepth 20000 in
theorem gJ2_indexOfSupplementary_4cfef_J2_getChar_3b067 : GoodIn wsJ2_indexOfSupplementary_4cfef (va_wsS RJ2 71 yJ2_getChar_3b067 wsJ2_getChar_3b067) := goodIn_app (goodIn_r _ [29, 30, 15] rfl (by decide +kernel)) ggJ2_indexOfSupplementary_4cfef_J2_getChar_3b067
set_option maxRecDepth 20000 in
theorem ggJ2_charAt_3b067_J2_checkIndex_2214a : GoodIn wsJ2_charAt_3b067 wsJ2_checkIndex_2214a := goodIn_r _ [4, 5, 6, 3, 7, 8, 9, 10, 11, 12, 13, 14, 15, 16] rfl (by decide +kernel)
set_option maxRecDepth 20000 in
theorem gJ2_charAt_3b067_J2_checkIndex_2214a : GoodIn wsJ2_charAt_3b067 (va_wsS RJ2 67 yJ2_checkIndex_2214a wsJ2_checkIndex_2214a) := goodIn_app (goodIn_r _ [1, 2, 3] rfl (by decide +kernel)) ggJ2_charAt_3b067_J2_checkIndex_2214a
set_option maxRecDepth 20000 in
theorem ggJ2_charAt_3b067_J2_getChar_3b067 : GoodIn wsJ2_charAt_3b067 wsJ2_getChar_3b067 := goodIn_r _ [19, 20, 21, 22, 5, 6, 3, 7] rfl (by decide +kernel)
set_option maxRecDepth 20000 in
theorem gJ2_charAt_3b067_J2_getChar_3b067 : GoodIn wsJ2_charAt_3b067 (va_wsS RJ2 71 yJ2_getChar_3b067 wsJ2_getChar_3b067) := goodIn_app (goodIn_r _ [17, 18, 3] rfl (by decide +kernel)) ggJ2_charAt_3b067_J2_getChar_3b067
set_option maxRecDepth 20000 in
theorem ggJ2_checkIndex_2214a_J2_length_9d52b : GoodIn wsJ2_checkIndex_2214a wsJ2_length_9d52b := goodIn_r _ [4] rfl (by decide +kernel)
set_option maxRecDepth 20000 in
theorem gJ2_checkIndex_2214a_J2_length_9d52b : GoodIn wsJ2_checkIndex_2214a (va_wsS RJ2 48 yJ2_length_9d52b wsJ2_length_9d52b) := goodIn_app (goodIn_r _ [1, 2, 3] rfl (by decide +kernel)) ggJ2_checkIndex_2214a_J2_length_9d52b
set_option maxRecDepth 20000 in
theorem ggJ2_checkIndex_2214a_J0_checkIndex_df160 : GoodIn wsJ2_checkIndex_2214a wsJ0_checkIndex_df160 := goodIn_r _ [8, 9, 10, 11, 12, 13] rfl (by decide +kernel)
set_option maxRecDepth 20000 in
theorem gJ2_checkIndex_2214a_J0_checkIndex_df160 : GoodIn wsJ2_checkIndex_2214a (va_wsS RJ2 414 yJ0_checkIndex_df160 wsJ0_checkIndex_df160) := goodIn_app (goodIn_r _ [5, 6, 7] rfl (by decide +kernel)) ggJ2_checkIndex_2214a_J0_checkIndex_df160
set_option maxRecDepth 20000 in
theorem ggJ2_checkBoundsBeginEnd_d044e_J2_length_9d52b : GoodIn wsJ2_checkBoundsBeginEnd_d044e wsJ2_length_9d52b := goodIn_r _ [4] rfl (by decide +kernel)
set_option maxRecDepth 20000 in
theorem gJ2_checkBoundsBeginEnd_d044e_J2_length_9d52b : GoodIn wsJ2_checkBoundsBeginEnd_d044e (va_wsS RJ2 48 yJ2_length_9d52b wsJ2_length_9d52b) := goodIn_app (goodIn_r _ [1, 2, 3] rfl (by decide +kernel)) ggJ2_checkBoundsBeginEnd_d044e_J2_length_9d52b
set_option maxRecDepth 20000 in
theorem ggJ2_checkBoundsBeginEnd_d044e_J0_checkBoundsBeginEnd_23922 : GoodIn wsJ2_checkBoundsBeginEnd_d044e wsJ0_checkBoundsBeginEnd_23922 := goodIn_r _ [8, 9, 10, 11, 12, 13] rfl (by decide +kernel)
set_option maxRecDepth 20000 in
theorem gJ2_checkBoundsBeginEnd_d044e_J0_checkBoundsBeginEnd_23922 : GoodIn wsJ2_checkBoundsBeginEnd_d044e (va_wsS RJ2 241 yJ0_checkBoundsBeginEnd_23922 wsJ0_checkBoundsBeginEnd_23922) := goodIn_app (goodIn_r _ [5, 6, 7] rfl (by decide +kernel)) ggJ2_checkBoundsBeginEnd_d044e_J0_checkBoundsBeginEnd_23922
set_option maxRecDepth 20000 in
theorem gX2_init_X7_init_n15 : GoodIn wsX2_init (wsX7_init) := ggX2_init_X7_init
set_option maxRecDepth 20000 in
theorem gX2_init_X9_init_n22 : GoodIn wsX2_init (wsX9_init) := ggX2_init_X9_init
set_option maxRecDepth 20000 in
theorem gX6_init_X9_init_n24 : GoodIn wsX6_init (wsX9_init) := ggX6_init_X9_init
set_option maxRecDepth 20000 in
theorem gX11_init_X7_init_n25 : GoodIn wsX11_init (wsX7_init) := ggX11_init_X7_init
set_option maxRecDepth 20000 in
theorem gX11_init_X9_init_n35 : GoodIn wsX11_init (wsX9_init) := ggX11_init_X9_init
set_option maxRecDepth 20000 in
theorem gX11_init_X10_init_n107 : GoodIn wsX11_init (wsX10_init) := ggX11_init_X10_init
set_option maxRecDepth 20000 in
theorem gX11_init_X2_init_n108 : GoodIn wsX11_init (wsX2_init) := ggX11_init_X2_init
