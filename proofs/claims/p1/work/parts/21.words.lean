set_option maxRecDepth 20000 in
theorem ggX1_visitBy_X9_isShut : GoodIn wsX1_visitBy wsX9_isShut := goodIn_r _ [11, 12, 13, 14, 15, 16, 10, 17, 18, 91, 92, 93, 94, 95, 96, 97, 98, 99] rfl (by decide +kernel)
set_option maxRecDepth 20000 in
theorem gX1_visitBy_X9_isShut : GoodIn wsX1_visitBy (wsV RX1 21 RX9 yX9_isShut wsX9_isShut) := goodIn_app (goodIn_r _ [7, 8, 9, 10] rfl (by decide +kernel)) ggX1_visitBy_X9_isShut
set_option maxRecDepth 20000 in
theorem ggX1_visitBy_X4_tune : GoodIn wsX1_visitBy wsX4_tune := goodIn_r _ [23, 24, 25, 26, 27, 28, 29, 30, 31, 100, 101, 102, 103, 104, 105, 106, 91, 92, 93, 94, 95, 96, 97, 98, 99] rfl (by decide +kernel)
set_option maxRecDepth 20000 in
theorem gX1_visitBy_X4_tune : GoodIn wsX1_visitBy (wsV RX1 27 RX4 yX4_tune wsX4_tune) := goodIn_app (goodIn_r _ [19, 20, 21, 22] rfl (by decide +kernel)) ggX1_visitBy_X4_tune
set_option maxRecDepth 20000 in
theorem ggX1_giveAway_X9_holds : GoodIn wsX1_giveAway wsX9_holds := goodIn_r _ [6, 7, 18, 19, 20, 21, 22, 23, 24, 25, 26] rfl (by decide +kernel)
set_option maxRecDepth 20000 in
theorem gX1_giveAway_X9_holds : GoodIn wsX1_giveAway (wsV RX1 50 RX9 yX9_holds wsX9_holds) := goodIn_app (goodIn_r _ [2, 3, 4, 5] rfl (by decide +kernel)) ggX1_giveAway_X9_holds
set_option maxRecDepth 20000 in
theorem ggX1_giveAway_X9_isShut : GoodIn wsX1_giveAway wsX9_isShut := goodIn_r _ [11, 12, 13, 14, 15, 16, 5, 17, 7, 18, 19, 20, 21, 22, 23, 24, 25, 26] rfl (by decide +kernel)
set_option maxRecDepth 20000 in
theorem gX1_giveAway_X9_isShut : GoodIn wsX1_giveAway (wsV RX1 21 RX9 yX9_isShut wsX9_isShut) := goodIn_app (goodIn_r _ [8, 9, 10, 5] rfl (by decide +kernel)) ggX1_giveAway_X9_isShut
set_option maxRecDepth 20000 in
theorem ggX1_turn_X9_holds : GoodIn wsX1_turn wsX9_holds := goodIn_r _ [6, 7, 18, 19, 20, 21, 22, 23, 24, 25, 26] rfl (by decide +kernel)
set_option maxRecDepth 20000 in
theorem gX1_turn_X9_holds : GoodIn wsX1_turn (wsV RX1 50 RX9 yX9_holds wsX9_holds) := goodIn_app (goodIn_r _ [2, 3, 4, 5] rfl (by decide +kernel)) ggX1_turn_X9_holds
set_option maxRecDepth 20000 in
theorem ggX1_turn_X9_isShut : GoodIn wsX1_turn wsX9_isShut := goodIn_r _ [11, 12, 13, 14, 15, 16, 5, 17, 7, 18, 19, 20, 21, 22, 23, 24, 25, 26] rfl (by decide +kernel)
set_option maxRecDepth 20000 in
theorem gX1_turn_X9_isShut : GoodIn wsX1_turn (wsV RX1 21 RX9 yX9_isShut wsX9_isShut) := goodIn_app (goodIn_r _ [8, 9, 10, 5] rfl (by decide +kernel)) ggX1_turn_X9_isShut
set_option maxRecDepth 20000 in
theorem ggX1_bringIn_X9_isShut : GoodIn wsX1_bringIn wsX9_isShut := goodIn_r _ [8, 9, 10, 11, 12, 13, 7, 14, 15, 16, 17, 18, 19, 20, 21, 22, 23, 24] rfl (by decide +kernel)
set_option maxRecDepth 20000 in
theorem gX1_bringIn_X9_isShut : GoodIn wsX1_bringIn (wsV RX1 21 RX9 yX9_isShut wsX9_isShut) := goodIn_app (goodIn_r _ [4, 5, 6, 7] rfl (by decide +kernel)) ggX1_bringIn_X9_isShut
set_option maxRecDepth 20000 in
theorem ggX1_reprice_X9_holds : GoodIn wsX1_reprice wsX9_holds := goodIn_r _ [6, 7, 18, 19, 20, 21, 22, 23, 24, 25, 26] rfl (by decide +kernel)
set_option maxRecDepth 20000 in
theorem gX1_reprice_X9_holds : GoodIn wsX1_reprice (wsV RX1 50 RX9 yX9_holds wsX9_holds) := goodIn_app (goodIn_r _ [2, 3, 4, 5] rfl (by decide +kernel)) ggX1_reprice_X9_holds
set_option maxRecDepth 20000 in
theorem ggX1_reprice_X9_isShut : GoodIn wsX1_reprice wsX9_isShut := goodIn_r _ [11, 12, 13, 14, 15, 16, 5, 17, 7, 18, 19, 20, 21, 22, 23, 24, 25, 26] rfl (by decide +kernel)
set_option maxRecDepth 20000 in
theorem gX1_reprice_X9_isShut : GoodIn wsX1_reprice (wsV RX1 21 RX9 yX9_isShut wsX9_isShut) := goodIn_app (goodIn_r _ [8, 9, 10, 5] rfl (by decide +kernel)) ggX1_reprice_X9_isShut
set_option maxRecDepth 20000 in
theorem ggX1_passDay_X7_together : GoodIn wsX1_passDay wsX7_together := goodIn_r _ [6, 7, 8, 29, 30, 31, 32, 33, 34, 35, 36, 37, 38, 39] rfl (by decide +kernel)
set_option maxRecDepth 20000 in
theorem gX1_passDay_X7_together : GoodIn wsX1_passDay (wsV RX1 66 RX7 yX7_together wsX7_together) := goodIn_app (goodIn_r _ [2, 3, 4, 5] rfl (by decide +kernel)) ggX1_passDay_X7_together
set_option maxRecDepth 20000 in
theorem ggX1_passDay_X9_draw : GoodIn wsX1_passDay wsX9_draw := goodIn_r _ [13, 14, 15, 20, 21, 22, 23, 24, 25, 26, 27, 28] rfl (by decide +kernel)
set_option maxRecDepth 20000 in
theorem gX1_passDay_X9_draw : GoodIn wsX1_passDay (wsV RX1 70 RX9 yX9_draw wsX9_draw) := goodIn_app (goodIn_r _ [9, 10, 11, 12] rfl (by decide +kernel)) ggX1_passDay_X9_draw
set_option maxRecDepth 20000 in
theorem ggX1_carryOut_X1_passDay : GoodIn wsX1_carryOut wsX1_passDay := goodIn_r _ [7, 8, 9, 10, 11, 12, 13, 14, 15, 16, 17, 18, 19, 20, 21, 22, 23, 24, 25, 26, 125, 126, 127, 128, 129, 130, 131, 132, 133, 134, 135, 136, 137, 138, 139, 140, 141, 142, 143, 144] rfl (by decide +kernel)
set_option maxRecDepth 20000 in
theorem gX1_carryOut_X1_passDay : GoodIn wsX1_carryOut (wsV RX1 81 RX1 yX1_passDay wsX1_passDay) := goodIn_app (goodIn_r _ [3, 4, 5, 6] rfl (by decide +kernel)) ggX1_carryOut_X1_passDay
set_option maxRecDepth 20000 in
theorem ggX1_carryOut_X1_visitBy : GoodIn wsX1_carryOut wsX1_visitBy := goodIn_r _ [30, 31, 32, 33, 34, 35, 36, 37, 38, 39, 19, 40, 41, 42, 43, 44, 45, 46, 47, 48, 49, 50, 51, 52, 53, 54, 55, 56, 57, 58, 59, 60, 61, 62, 63, 64, 65, 66, 67, 68, 69, 70, 71, 72, 73, 74, 75, 76, 77, 78, 79, 80, 81, 82, 83, 84, 85, 86, 87, 88, 89, 90, 91, 92, 93, 94, 95, 96, 97, 98, 99, 100, 101, 102, 103, 104, 105, 106, 107, 134, 135, 136, 137, 138, 139, 140, 141, 142, 143, 144, 145, 125, 126, 127, 128, 129, 130, 131, 132, 133, 146, 147, 148, 149, 150, 151, 152] rfl (by decide +kernel)
set_option maxRecDepth 20000 in
theorem gX1_carryOut_X1_visitBy : GoodIn wsX1_carryOut (wsV RX1 85 RX1 yX1_visitBy wsX1_visitBy) := goodIn_app (goodIn_r _ [27, 28, 29, 6] rfl (by decide +kernel)) ggX1_carryOut_X1_visitBy
set_option maxRecDepth 20000 in
theorem ggX1_carryOut_X1_giveAway : GoodIn wsX1_carryOut wsX1_giveAway := goodIn_r _ [111, 112, 113, 114, 115, 19, 116, 47, 37, 38, 39, 40, 41, 42, 43, 44, 45, 46, 125, 126, 127, 128, 129, 130, 131, 132, 133] rfl (by decide +kernel)
set_option maxRecDepth 20000 in
theorem gX1_carryOut_X1_giveAway : GoodIn wsX1_carryOut (wsV RX1 89 RX1 yX1_giveAway wsX1_giveAway) := goodIn_app (goodIn_r _ [108, 109, 110, 6] rfl (by decide +kernel)) ggX1_carryOut_X1_giveAway
set_option maxRecDepth 20000 in
theorem ggX1_carryOut_X1_turn : GoodIn wsX1_carryOut wsX1_turn := goodIn_r _ [120, 34, 113, 114, 115, 19, 116, 47, 37, 38, 39, 40, 41, 42, 43, 44, 45, 46, 125, 126, 127, 128, 129, 130, 131, 132, 133] rfl (by decide +kernel)
set_option maxRecDepth 20000 in
theorem gX1_carryOut_X1_turn : GoodIn wsX1_carryOut (wsV RX1 93 RX1 yX1_turn wsX1_turn) := goodIn_app (goodIn_r _ [117, 118, 119, 6] rfl (by decide +kernel)) ggX1_carryOut_X1_turn
set_option maxRecDepth 20000 in
theorem ggX1_carryOut_X1_reprice : GoodIn wsX1_carryOut wsX1_reprice := goodIn_r _ [124, 36, 113, 114, 115, 19, 116, 47, 37, 38, 39, 40, 41, 42, 43, 44, 45, 46, 125, 126, 127, 128, 129, 130, 131, 132, 133] rfl (by decide +kernel)
set_option maxRecDepth 20000 in
theorem gX1_carryOut_X1_reprice : GoodIn wsX1_carryOut (wsV RX1 96 RX1 yX1_reprice wsX1_reprice) := goodIn_app (goodIn_r _ [121, 122, 123, 6] rfl (by decide +kernel)) ggX1_carryOut_X1_reprice
set_option maxRecDepth 20000 in
theorem ggX1_drawDeed_X9_draw : GoodIn wsX1_drawDeed wsX9_draw := goodIn_r _ [5, 6, 7, 8, 9, 10, 11, 12, 13, 14, 15, 16] rfl (by decide +kernel)
set_option maxRecDepth 20000 in
theorem gX1_drawDeed_X9_draw : GoodIn wsX1_drawDeed (wsV RX1 70 RX9 yX9_draw wsX9_draw) := goodIn_app (goodIn_r _ [1, 2, 3, 4] rfl (by decide +kernel)) ggX1_drawDeed_X9_draw
set_option maxRecDepth 20000 in
theorem ggX5_aim_X9_everyKind : GoodIn wsX5_aim wsX9_everyKind := goodIn_r _ [12, 13, 41, 42, 43, 44, 45, 46, 47, 48, 49] rfl (by decide +kernel)
set_option maxRecDepth 20000 in
theorem gX5_aim_X9_everyKind : GoodIn wsX5_aim (wsV RX5 60 RX9 yX9_everyKind wsX9_everyKind) := goodIn_app (goodIn_r _ [8, 9, 10, 11] rfl (by decide +kernel)) ggX5_aim_X9_everyKind
set_option maxRecDepth 20000 in
theorem ggX5_aim_X4_tune : GoodIn wsX5_aim wsX4_tune := goodIn_r _ [18, 19, 20, 21, 22, 23, 24, 25, 26, 50, 51, 52, 53, 54, 55, 56, 41, 42, 43, 44, 45, 46, 47, 48, 49] rfl (by decide +kernel)
set_option maxRecDepth 20000 in
theorem gX5_aim_X4_tune : GoodIn wsX5_aim (wsV RX5 69 RX4 yX4_tune wsX4_tune) := goodIn_app (goodIn_r _ [14, 15, 16, 17] rfl (by decide +kernel)) ggX5_aim_X4_tune
set_option maxRecDepth 20000 in
theorem ggX5_look_X5_aim : GoodIn wsX5_look wsX5_aim := goodIn_r _ [8, 9, 10, 3, 11, 12, 2, 13, 14, 15, 16, 17, 18, 19, 20, 21, 22, 23, 24, 25, 26, 27, 28, 29, 30, 31, 32, 90, 91, 92, 93, 94, 95, 96, 97, 98, 99, 100, 101, 102, 103, 104, 105, 106, 107, 108, 109, 110, 111, 112, 113, 114, 115, 116, 117, 118, 119] rfl (by decide +kernel)
set_option maxRecDepth 20000 in
theorem gX5_look_X5_aim : GoodIn wsX5_look (wsV RX5 75 RX5 yX5_aim wsX5_aim) := goodIn_app (goodIn_r _ [4, 5, 6, 7] rfl (by decide +kernel)) ggX5_look_X5_aim
set_option maxRecDepth 20000 in
theorem ggX5_look_J7_fill_53178 : GoodIn wsX5_look wsJ7_fill_53178 := goodIn_r _ [36] rfl (by decide +kernel)
set_option maxRecDepth 20000 in
theorem gX5_look_J7_fill_53178 : GoodIn wsX5_look (va_wsS RX5 79 yJ7_fill_53178 wsJ7_fill_53178) := goodIn_app (goodIn_r _ [33, 34, 35] rfl (by decide +kernel)) ggX5_look_J7_fill_53178
set_option maxRecDepth 20000 in
theorem ggX5_look_X5_meet : GoodIn wsX5_look wsX5_meet := goodIn_r _ [40, 1, 9, 41, 13, 42, 43, 44, 45, 23, 46, 27, 32, 47, 48, 49, 50, 51, 52, 53, 54, 55, 56, 57, 58, 59, 60, 61, 28, 25, 62, 63, 64, 65, 66, 67, 68, 69, 70, 30, 71, 72, 73, 74, 75, 76, 77, 78, 79, 80, 81, 82, 83, 84, 85, 86, 87, 88, 89, 90, 91, 92, 93, 94, 95, 96, 97, 98, 99, 100, 101, 102, 103, 120, 121, 122, 123, 124, 125, 126, 127, 128, 129, 130, 113, 114, 115, 116, 117, 118, 119] rfl (by decide +kernel)
set_option maxRecDepth 20000 in
theorem gX5_look_X5_meet : GoodIn wsX5_look (wsV RX5 85 RX5 yX5_meet wsX5_meet) := goodIn_app (goodIn_r _ [37, 38, 39, 7] rfl (by decide +kernel)) ggX5_look_X5_meet
set_option maxRecDepth 20000 in
theorem ggX5_shortest_X5_measure : GoodIn wsX5_shortest wsX5_measure := goodIn_r _ [7, 8, 9, 10, 11, 12, 13, 14, 6, 15, 16, 17, 18, 19, 20, 1, 2, 21, 22, 23, 24, 25, 26, 27, 28, 29, 30, 31, 32, 33, 34, 35, 36, 37, 38, 39, 40, 41, 42, 43, 44, 45, 46, 47, 48, 49, 50] rfl (by decide +kernel)
set_option maxRecDepth 20000 in
theorem gX5_shortest_X5_measure : GoodIn wsX5_shortest (wsV RX5 105 RX5 yX5_measure wsX5_measure) := goodIn_app (goodIn_r _ [3, 4, 5, 6] rfl (by decide +kernel)) ggX5_shortest_X5_measure
set_option maxRecDepth 20000 in
theorem ggX5_measure_X5_isShutAt : GoodIn wsX5_measure wsX5_isShutAt := goodIn_r _ [9, 10, 22, 23, 24, 25, 26, 27, 28, 29, 30, 31, 32, 33, 34, 35] rfl (by decide +kernel)
set_option maxRecDepth 20000 in
theorem gX5_measure_X5_isShutAt : GoodIn wsX5_measure (wsV RX5 109 RX5 yX5_isShutAt wsX5_isShutAt) := goodIn_app (goodIn_r _ [5, 6, 7, 8] rfl (by decide +kernel)) ggX5_measure_X5_isShutAt
set_option maxRecDepth 20000 in
theorem ggX5_neededBuyers_X5_measure : GoodIn wsX5_neededBuyers wsX5_measure := goodIn_r _ [7, 8, 9, 10, 11, 12, 13, 14, 6, 15, 16, 17, 18, 19, 20, 1, 2, 21, 22, 23, 24, 25, 26, 27, 28, 29, 30, 31, 32, 33, 34, 35, 36, 37, 38, 39, 40, 41, 42, 43, 44, 45, 46, 47, 48, 49, 50] rfl (by decide +kernel)
set_option maxRecDepth 20000 in
theorem gX5_neededBuyers_X5_measure : GoodIn wsX5_neededBuyers (wsV RX5 105 RX5 yX5_measure wsX5_measure) := goodIn_app (goodIn_r _ [3, 4, 5, 6] rfl (by decide +kernel)) ggX5_neededBuyers_X5_measure
set_option maxRecDepth 20000 in
theorem ggX5_lastLeft_J6_bitCount_0f7a4 : GoodIn wsX5_lastLeft wsJ6_bitCount_0f7a4 := goodIn_r _ [8, 9, 10, 11] rfl (by decide +kernel)
set_option maxRecDepth 20000 in
theorem gX5_lastLeft_J6_bitCount_0f7a4 : GoodIn wsX5_lastLeft (va_wsS RX5 119 yJ6_bitCount_0f7a4 wsJ6_bitCount_0f7a4) := goodIn_app (goodIn_r _ [5, 6, 7] rfl (by decide +kernel)) ggX5_lastLeft_J6_bitCount_0f7a4
set_option maxRecDepth 20000 in
theorem ggX5_beginRows_J7_fill_d0a16 : GoodIn wsX5_beginRows wsJ7_fill_d0a16 := goodIn_r _ [6] rfl (by decide +kernel)
set_option maxRecDepth 20000 in
theorem gX5_beginRows_J7_fill_d0a16 : GoodIn wsX5_beginRows (va_wsS RX5 124 yJ7_fill_d0a16 wsJ7_fill_d0a16) := goodIn_app (goodIn_r _ [3, 4, 5] rfl (by decide +kernel)) ggX5_beginRows_J7_fill_d0a16
set_option maxRecDepth 20000 in
theorem ggX5_lengthenRows_J7_fill_d0a16 : GoodIn wsX5_lengthenRows wsJ7_fill_d0a16 := goodIn_r _ [10] rfl (by decide +kernel)
set_option maxRecDepth 20000 in
theorem gX5_lengthenRows_J7_fill_d0a16 : GoodIn wsX5_lengthenRows (va_wsS RX5 124 yJ7_fill_d0a16 wsJ7_fill_d0a16) := goodIn_app (goodIn_r _ [7, 8, 9] rfl (by decide +kernel)) ggX5_lengthenRows_J7_fill_d0a16
set_option maxRecDepth 20000 in
theorem ggX5_lengthenRows_X5_swapWays : GoodIn wsX5_lengthenRows wsX5_swapWays := goodIn_r _ [20, 6, 1, 21, 22, 23, 24, 25, 26, 27, 28, 29, 30, 31, 32, 33, 34] rfl (by decide +kernel)
set_option maxRecDepth 20000 in
theorem gX5_lengthenRows_X5_swapWays : GoodIn wsX5_lengthenRows (wsV RX5 127 RX5 yX5_swapWays wsX5_swapWays) := goodIn_app (goodIn_r _ [17, 18, 19, 14] rfl (by decide +kernel)) ggX5_lengthenRows_X5_swapWays
set_option maxRecDepth 20000 in
theorem ggX5_openWays_X5_isShutAt : GoodIn wsX5_openWays wsX5_isShutAt := goodIn_r _ [8, 9, 10, 11, 12, 13, 14, 15, 16, 17, 18, 19, 20, 21, 22, 23] rfl (by decide +kernel)
set_option maxRecDepth 20000 in
theorem gX5_openWays_X5_isShutAt : GoodIn wsX5_openWays (wsV RX5 109 RX5 yX5_isShutAt wsX5_isShutAt) := goodIn_app (goodIn_r _ [4, 5, 6, 7] rfl (by decide +kernel)) ggX5_openWays_X5_isShutAt
set_option maxRecDepth 20000 in
theorem ggX5_rowsToShut_X5_beginRows : GoodIn wsX5_rowsToShut wsX5_beginRows := goodIn_r _ [5, 6, 7, 8, 9, 10, 11, 42, 43, 44, 45, 46, 47, 48, 49, 50, 51, 52, 53, 54, 55] rfl (by decide +kernel)
set_option maxRecDepth 20000 in
theorem gX5_rowsToShut_X5_beginRows : GoodIn wsX5_rowsToShut (wsV RX5 130 RX5 yX5_beginRows wsX5_beginRows) := goodIn_app (goodIn_r _ [1, 2, 3, 4] rfl (by decide +kernel)) ggX5_rowsToShut_X5_beginRows
set_option maxRecDepth 20000 in
theorem ggX5_rowsToShut_X5_lengthenRows : GoodIn wsX5_rowsToShut wsX5_lengthenRows := goodIn_r _ [15, 16, 7, 17, 18, 19, 6, 8, 9, 10, 11, 20, 21, 22, 4, 23, 24, 25, 26, 27, 28, 42, 43, 44, 45, 46, 47, 48, 49, 50, 51, 52, 53, 54, 55, 56, 57, 58, 59, 60, 61, 62, 63, 64, 65, 66] rfl (by decide +kernel)
set_option maxRecDepth 20000 in
theorem gX5_rowsToShut_X5_lengthenRows : GoodIn wsX5_rowsToShut (wsV RX5 133 RX5 yX5_lengthenRows wsX5_lengthenRows) := goodIn_app (goodIn_r _ [12, 13, 14, 4] rfl (by decide +kernel)) ggX5_rowsToShut_X5_lengthenRows
set_option maxRecDepth 20000 in
theorem ggX5_rowsToShut_X5_allWays : GoodIn wsX5_rowsToShut wsX5_allWays := goodIn_r _ [32, 7, 17, 6, 42, 43, 44, 45, 46, 47, 48, 49, 50, 51, 52, 53, 54, 55] rfl (by decide +kernel)
set_option maxRecDepth 20000 in
theorem gX5_rowsToShut_X5_allWays : GoodIn wsX5_rowsToShut (wsV RX5 137 RX5 yX5_allWays wsX5_allWays) := goodIn_app (goodIn_r _ [29, 30, 31, 4] rfl (by decide +kernel)) ggX5_rowsToShut_X5_allWays
set_option maxRecDepth 20000 in
theorem ggX5_rowsToShut_X5_openWays : GoodIn wsX5_rowsToShut wsX5_openWays := goodIn_r _ [36, 7, 17, 6, 37, 38, 39, 4, 40, 41, 42, 43, 44, 45, 46, 47, 48, 49, 50, 51, 52, 53, 54, 55] rfl (by decide +kernel)
set_option maxRecDepth 20000 in
theorem gX5_rowsToShut_X5_openWays : GoodIn wsX5_rowsToShut (wsV RX5 141 RX5 yX5_openWays wsX5_openWays) := goodIn_app (goodIn_r _ [33, 34, 35, 4] rfl (by decide +kernel)) ggX5_rowsToShut_X5_openWays
set_option maxRecDepth 20000 in
theorem ggX5_passDays_X5_beginRows : GoodIn wsX5_passDays wsX5_beginRows := goodIn_r _ [9, 10, 11, 12, 13, 14, 15, 51, 52, 53, 54, 55, 56, 57, 58, 59, 60, 61, 62, 63, 64] rfl (by decide +kernel)
set_option maxRecDepth 20000 in
theorem gX5_passDays_X5_beginRows : GoodIn wsX5_passDays (wsV RX5 130 RX5 yX5_beginRows wsX5_beginRows) := goodIn_app (goodIn_r _ [5, 6, 7, 8] rfl (by decide +kernel)) ggX5_passDays_X5_beginRows
set_option maxRecDepth 20000 in
theorem ggX5_passDays_J7_fill_d0a16 : GoodIn wsX5_passDays wsJ7_fill_d0a16 := goodIn_r _ [15] rfl (by decide +kernel)
set_option maxRecDepth 20000 in
theorem gX5_passDays_J7_fill_d0a16 : GoodIn wsX5_passDays (va_wsS RX5 124 yJ7_fill_d0a16 wsJ7_fill_d0a16) := goodIn_app (goodIn_r _ [12, 13, 14] rfl (by decide +kernel)) ggX5_passDays_J7_fill_d0a16
set_option maxRecDepth 20000 in
theorem ggX5_passDays_X7_together : GoodIn wsX5_passDays wsX7_together := goodIn_r _ [20, 21, 22, 65, 66, 67, 68, 69, 70, 71, 72, 73, 74, 75] rfl (by decide +kernel)
set_option maxRecDepth 20000 in
theorem gX5_passDays_X7_together : GoodIn wsX5_passDays (wsV RX5 144 RX7 yX7_together wsX7_together) := goodIn_app (goodIn_r _ [16, 17, 18, 19] rfl (by decide +kernel)) ggX5_passDays_X7_together
set_option maxRecDepth 20000 in
theorem ggX6_keep_X9_copyFrom : GoodIn wsX6_keep wsX9_copyFrom := goodIn_r _ [12, 13, 14, 15, 16, 17, 18, 19, 20, 21, 25, 26, 27, 28, 29, 30, 31, 32, 33] rfl (by decide +kernel)
set_option maxRecDepth 20000 in
theorem gX6_keep_X9_copyFrom : GoodIn wsX6_keep (wsV RX6 25 RX9 yX9_copyFrom wsX9_copyFrom) := goodIn_app (goodIn_r _ [8, 9, 10, 11] rfl (by decide +kernel)) ggX6_keep_X9_copyFrom
set_option maxRecDepth 20000 in
theorem ggX8_read_X7_clear : GoodIn wsX8_read wsX7_clear := goodIn_r _ [10, 11, 12, 13, 14, 15, 16, 17, 264, 265, 266, 267, 268, 269, 270, 271, 272, 273, 274] rfl (by decide +kernel)
set_option maxRecDepth 20000 in
theorem gX8_read_X7_clear : GoodIn wsX8_read (wsV RX8 36 RX7 yX7_clear wsX7_clear) := goodIn_app (goodIn_r _ [6, 7, 8, 9] rfl (by decide +kernel)) ggX8_read_X7_clear
set_option maxRecDepth 20000 in
theorem ggX8_read_X9_clear : GoodIn wsX8_read wsX9_clear := goodIn_r _ [22, 23, 24, 25, 26, 27, 28, 29, 275, 276, 277, 278, 279, 280, 281, 282, 283] rfl (by decide +kernel)
set_option maxRecDepth 20000 in
theorem gX8_read_X9_clear : GoodIn wsX8_read (wsV RX8 41 RX9 yX9_clear wsX9_clear) := goodIn_app (goodIn_r _ [18, 19, 20, 21] rfl (by decide +kernel)) ggX8_read_X9_clear
set_option maxRecDepth 20000 in
theorem ggX8_read_X8_split : GoodIn wsX8_read wsX8_split := goodIn_r _ [34, 35, 36, 37, 38, 39, 40, 41, 42, 43, 44, 45, 46, 47, 48, 49, 50, 51, 52, 53, 54, 55, 56, 57, 58, 59, 60, 61, 62, 63, 64, 65, 66, 67, 68, 69, 70, 71, 72, 73, 74, 75, 76, 77, 78, 79, 80, 81, 82, 83, 84, 85, 86, 87, 88, 89, 90, 91, 92, 93, 94, 95, 96, 97, 98, 99, 100, 101, 102, 103, 104, 105, 106, 107, 108, 109, 110, 111, 112, 113, 114, 115, 116, 117, 118, 119, 120, 121, 122, 123, 124, 125, 126, 127, 128, 129, 130, 131, 132, 133, 134, 135, 136, 137, 138, 139, 140, 141, 142, 143, 144, 145, 146, 147, 148, 149, 150, 151, 152, 153, 154, 155, 156, 157, 158, 159, 160, 161, 162, 163, 164, 165, 166, 167, 168, 257, 258, 259, 260, 261, 262, 263] rfl (by decide +kernel)
set_option maxRecDepth 20000 in
theorem gX8_read_X8_split : GoodIn wsX8_read (wsV RX8 44 RX8 yX8_split wsX8_split) := goodIn_app (goodIn_r _ [30, 31, 32, 33] rfl (by decide +kernel)) ggX8_read_X8_split
set_option maxRecDepth 20000 in
theorem ggX8_read_X8_expect : GoodIn wsX8_read wsX8_expect := goodIn_r _ [172, 4, 3, 173, 174, 175, 33, 176, 36, 177, 178, 179, 180, 35, 5, 257, 258, 259, 260, 261, 262, 263] rfl (by decide +kernel)
set_option maxRecDepth 20000 in
theorem gX8_read_X8_expect : GoodIn wsX8_read (wsV RX8 50 RX8 yX8_expect wsX8_expect) := goodIn_app (goodIn_r _ [169, 170, 171, 33] rfl (by decide +kernel)) ggX8_read_X8_expect
set_option maxRecDepth 20000 in
theorem ggX8_read_X8_endLine : GoodIn wsX8_read wsX8_endLine := goodIn_r _ [184, 1, 185, 169, 170, 171, 33, 172, 4, 3, 173, 174, 175, 176, 36, 177, 178, 179, 180, 35, 5, 257, 258, 259, 260, 261, 262, 263, 264, 265, 266, 267, 268, 269, 270, 271, 272, 273, 274] rfl (by decide +kernel)
set_option maxRecDepth 20000 in
theorem gX8_read_X8_endLine : GoodIn wsX8_read (wsV RX8 54 RX8 yX8_endLine wsX8_endLine) := goodIn_app (goodIn_r _ [181, 182, 183, 33] rfl (by decide +kernel)) ggX8_read_X8_endLine
set_option maxRecDepth 20000 in
theorem ggX8_read_X8_token : GoodIn wsX8_read wsX8_token := goodIn_r _ [176, 3, 36, 257, 258, 259, 260, 261, 262, 263] rfl (by decide +kernel)
set_option maxRecDepth 20000 in
theorem gX8_read_X8_token : GoodIn wsX8_read (wsV RX8 57 RX8 yX8_token wsX8_token) := goodIn_app (goodIn_r _ [173, 174, 175, 33] rfl (by decide +kernel)) ggX8_read_X8_token
set_option maxRecDepth 20000 in
theorem ggX8_expect_X8_token : GoodIn wsX8_expect wsX8_token := goodIn_r _ [7, 2, 8, 15, 16, 17, 18, 19, 20, 21] rfl (by decide +kernel)
set_option maxRecDepth 20000 in
theorem gX8_expect_X8_token : GoodIn wsX8_expect (wsV RX8 57 RX8 yX8_token wsX8_token) := goodIn_app (goodIn_r _ [3, 4, 5, 6] rfl (by decide +kernel)) ggX8_expect_X8_token
set_option maxRecDepth 20000 in
theorem ggX8_expect_X8_fail : GoodIn wsX8_expect wsX8_fail := goodIn_r _ [12, 1, 2, 8, 13, 14, 15, 16, 17, 18, 19, 20, 21] rfl (by decide +kernel)
set_option maxRecDepth 20000 in
theorem gX8_expect_X8_fail : GoodIn wsX8_expect (wsV RX8 81 RX8 yX8_fail wsX8_fail) := goodIn_app (goodIn_r _ [9, 10, 11, 6] rfl (by decide +kernel)) ggX8_expect_X8_fail
set_option maxRecDepth 20000 in
theorem ggX8_endLine_X8_expect : GoodIn wsX8_endLine wsX8_expect := goodIn_r _ [7, 8, 9, 10, 11, 12, 6, 13, 14, 15, 16, 17, 18, 19, 20, 21, 22, 23, 24, 25, 26, 27] rfl (by decide +kernel)
set_option maxRecDepth 20000 in
theorem gX8_endLine_X8_expect : GoodIn wsX8_endLine (wsV RX8 50 RX8 yX8_expect wsX8_expect) := goodIn_app (goodIn_r _ [3, 4, 5, 6] rfl (by decide +kernel)) ggX8_endLine_X8_expect
set_option maxRecDepth 20000 in
theorem ggX9_isShut_X9_everyKind : GoodIn wsX9_isShut wsX9_everyKind := goodIn_r _ [7, 8, 9, 10, 11, 12, 13, 14, 15, 16, 17] rfl (by decide +kernel)
set_option maxRecDepth 20000 in
theorem gX9_isShut_X9_everyKind : GoodIn wsX9_isShut (wsV RX9 40 RX9 yX9_everyKind wsX9_everyKind) := goodIn_app (goodIn_r _ [3, 4, 5, 6] rfl (by decide +kernel)) ggX9_isShut_X9_everyKind
set_option maxRecDepth 20000 in
theorem ggX10_layOut_J7_fill_d0a16 : GoodIn wsX10_layOut wsJ7_fill_d0a16 := goodIn_r _ [7] rfl (by decide +kernel)
set_option maxRecDepth 20000 in
theorem gX10_layOut_J7_fill_d0a16 : GoodIn wsX10_layOut (va_wsS RX10 28 yJ7_fill_d0a16 wsJ7_fill_d0a16) := goodIn_app (goodIn_r _ [4, 5, 6] rfl (by decide +kernel)) ggX10_layOut_J7_fill_d0a16
set_option maxRecDepth 20000 in
theorem ggX11_feed_X11_putBytes : GoodIn wsX11_feed wsX11_putBytes := goodIn_r _ [6, 1, 7, 8, 9, 10, 11, 12, 13, 14, 15, 16, 17, 18, 19, 20, 21, 22, 23] rfl (by decide +kernel)
set_option maxRecDepth 20000 in
theorem gX11_feed_X11_putBytes : GoodIn wsX11_feed (wsV RX11 109 RX11 yX11_putBytes wsX11_putBytes) := goodIn_app (goodIn_r _ [2, 3, 4, 5] rfl (by decide +kernel)) ggX11_feed_X11_putBytes
set_option maxRecDepth 20000 in
theorem ggX11_shop_X8_read : GoodIn wsX11_shop wsX8_read := goodIn_r _ [18, 19, 20, 21, 22, 23, 24, 25, 26, 27, 28, 29, 30, 31, 32, 33, 34, 35, 36, 37, 38, 39, 40, 41, 42, 43, 44, 45, 46, 47, 48, 49, 50, 17, 51, 52, 53, 54, 55, 56, 57, 58, 59, 60, 61, 62, 63, 64, 65, 66, 67, 68, 69, 70, 71, 72, 73, 74, 75, 76, 77, 78, 79, 80, 81, 82, 83, 84, 85, 86, 87, 88, 89, 90, 91, 92, 93, 94, 95, 96, 97, 98, 99, 100, 101, 102, 103, 104, 105, 106, 107, 108, 109, 110, 111, 112, 113, 114, 115, 116, 117, 118, 119, 120, 121, 122, 123, 124, 125, 126, 127, 128, 129, 130, 131, 132, 133, 134, 135, 136, 137, 138, 139, 140, 141, 142, 143, 144, 145, 146, 147, 148, 149, 150, 151, 152, 153, 154, 155, 156, 157, 158, 159, 160, 161, 162, 163, 164, 165, 166, 167, 168, 169, 170, 171, 172, 173, 174, 175, 176, 177, 178, 179, 180, 181, 182, 183, 184, 185, 186, 187, 188, 189, 190, 191, 192, 193, 194, 195, 196, 197, 198, 199, 200, 201, 202, 203, 204, 205, 206, 207, 208, 209, 210, 211, 212, 213, 214, 215, 216, 217, 218, 219, 220, 221, 222, 223, 224, 225, 226, 227, 228, 229, 230, 231, 232, 233, 234, 235, 236, 237, 238, 239, 240, 241, 242, 243, 244, 245, 246, 247, 248, 249, 250, 251, 252, 253, 254, 255, 256, 257, 258, 259, 260, 261, 262, 263, 264, 265, 266, 267, 268, 269, 270, 271, 272, 273, 319, 320, 321, 322, 323, 324, 325, 335, 336, 337, 338, 339, 340, 341, 342, 343, 344, 345, 326, 327, 328, 329, 330, 331, 332, 333, 334] rfl (by decide +kernel)
set_option maxRecDepth 20000 in
theorem gX11_shop_X8_read : GoodIn wsX11_shop (wsV RX11 113 RX8 yX8_read wsX8_read) := goodIn_app (goodIn_r _ [14, 15, 16, 17] rfl (by decide +kernel)) ggX11_shop_X8_read
set_option maxRecDepth 20000 in
theorem ggX11_shop_X9_copyFrom : GoodIn wsX11_shop wsX9_copyFrom := goodIn_r _ [277, 41, 278, 279, 42, 43, 44, 45, 46, 47, 326, 327, 328, 329, 330, 331, 332, 333, 334] rfl (by decide +kernel)
set_option maxRecDepth 20000 in
theorem gX11_shop_X9_copyFrom : GoodIn wsX11_shop (wsV RX11 124 RX9 yX9_copyFrom wsX9_copyFrom) := goodIn_app (goodIn_r _ [274, 275, 276, 39] rfl (by decide +kernel)) ggX11_shop_X9_copyFrom
set_option maxRecDepth 20000 in
theorem ggX11_kind_X11_isKind : GoodIn wsX11_kind wsX11_isKind := goodIn_r _ [10, 1, 11, 79, 80, 81, 82, 83, 84, 85, 86, 87, 88, 89, 90, 91, 92, 93, 94, 95, 96, 97, 98, 99, 100, 101, 102, 103] rfl (by decide +kernel)
set_option maxRecDepth 20000 in
theorem gX11_kind_X11_isKind : GoodIn wsX11_kind (wsV RX11 140 RX11 yX11_isKind wsX11_isKind) := goodIn_app (goodIn_r _ [6, 7, 8, 9] rfl (by decide +kernel)) ggX11_kind_X11_isKind
set_option maxRecDepth 20000 in
theorem ggX11_buyer_X11_isBuyer : GoodIn wsX11_buyer wsX11_isBuyer := goodIn_r _ [13, 2, 14, 79, 80, 81, 82, 83, 84, 85, 86, 87, 88, 89, 90, 91, 92, 93, 94, 95, 96, 97, 98, 99, 100, 101, 102, 103, 104, 105] rfl (by decide +kernel)
set_option maxRecDepth 20000 in
theorem gX11_buyer_X11_isBuyer : GoodIn wsX11_buyer (wsV RX11 173 RX11 yX11_isBuyer wsX11_isBuyer) := goodIn_app (goodIn_r _ [9, 10, 11, 12] rfl (by decide +kernel)) ggX11_buyer_X11_isBuyer
set_option maxRecDepth 20000 in
theorem ggX11_buyer_X4_tune : GoodIn wsX11_buyer wsX4_tune := goodIn_r _ [19, 20, 21, 22, 23, 24, 25, 26, 27, 115, 116, 117, 118, 119, 120, 121, 106, 107, 108, 109, 110, 111, 112, 113, 114] rfl (by decide +kernel)
set_option maxRecDepth 20000 in
theorem gX11_buyer_X4_tune : GoodIn wsX11_buyer (wsV RX11 166 RX4 yX4_tune wsX4_tune) := goodIn_app (goodIn_r _ [15, 16, 17, 18] rfl (by decide +kernel)) ggX11_buyer_X4_tune
set_option maxRecDepth 20000 in
theorem ggX11_wants_X11_isBuyer : GoodIn wsX11_wants wsX11_isBuyer := goodIn_r _ [10, 3, 11, 63, 64, 65, 66, 67, 68, 69, 70, 71, 72, 73, 74, 75, 76, 77, 78, 88, 89, 90, 91, 92, 93, 94, 95, 96, 97, 98] rfl (by decide +kernel)
set_option maxRecDepth 20000 in
theorem gX11_wants_X11_isBuyer : GoodIn wsX11_wants (wsV RX11 173 RX11 yX11_isBuyer wsX11_isBuyer) := goodIn_app (goodIn_r _ [6, 7, 8, 9] rfl (by decide +kernel)) ggX11_wants_X11_isBuyer
set_option maxRecDepth 20000 in
theorem ggX11_wants_X11_isKind : GoodIn wsX11_wants wsX11_isKind := goodIn_r _ [15, 4, 16, 63, 64, 65, 66, 67, 68, 69, 70, 71, 72, 73, 74, 75, 76, 77, 78, 79, 80, 81, 82, 83, 84, 85, 86, 87] rfl (by decide +kernel)
set_option maxRecDepth 20000 in
theorem gX11_wants_X11_isKind : GoodIn wsX11_wants (wsV RX11 140 RX11 yX11_isKind wsX11_isKind) := goodIn_app (goodIn_r _ [12, 13, 14, 9] rfl (by decide +kernel)) ggX11_wants_X11_isKind
set_option maxRecDepth 20000 in
theorem ggX11_wants_X4_tune : GoodIn wsX11_wants wsX4_tune := goodIn_r _ [21, 22, 23, 24, 25, 26, 27, 28, 29, 99, 100, 101, 102, 103, 104, 105, 79, 80, 81, 82, 83, 84, 85, 86, 87] rfl (by decide +kernel)
set_option maxRecDepth 20000 in
theorem gX11_wants_X4_tune : GoodIn wsX11_wants (wsV RX11 166 RX4 yX4_tune wsX4_tune) := goodIn_app (goodIn_r _ [17, 18, 19, 20] rfl (by decide +kernel)) ggX11_wants_X4_tune
set_option maxRecDepth 20000 in
theorem ggX11_seed_X6_keep : GoodIn wsX11_seed wsX6_keep := goodIn_r _ [8, 9, 10, 11, 12, 13, 14, 15, 16, 17, 18, 19, 20, 21, 22, 23, 24, 25, 26, 27, 28, 29, 55, 56, 57, 46, 47, 48, 49, 50, 51, 52, 53, 54] rfl (by decide +kernel)
set_option maxRecDepth 20000 in
theorem gX11_seed_X6_keep : GoodIn wsX11_seed (wsV RX11 192 RX6 yX6_keep wsX6_keep) := goodIn_app (goodIn_r _ [4, 5, 6, 7] rfl (by decide +kernel)) ggX11_seed_X6_keep
set_option maxRecDepth 20000 in
theorem ggX11_visit_X9_copyFrom : GoodIn wsX11_visit wsX9_copyFrom := goodIn_r _ [9, 10, 11, 12, 13, 14, 15, 16, 17, 18, 132, 133, 134, 135, 136, 137, 138, 139, 140] rfl (by decide +kernel)
set_option maxRecDepth 20000 in
theorem gX11_visit_X9_copyFrom : GoodIn wsX11_visit (wsV RX11 124 RX9 yX9_copyFrom wsX9_copyFrom) := goodIn_app (goodIn_r _ [5, 6, 7, 8] rfl (by decide +kernel)) ggX11_visit_X9_copyFrom
set_option maxRecDepth 20000 in
theorem ggX11_visit_X1_visitBy : GoodIn wsX11_visit wsX1_visitBy := goodIn_r _ [23, 24, 25, 26, 27, 28, 29, 30, 31, 32, 8, 33, 14, 13, 34, 35, 36, 37, 10, 38, 39, 40, 41, 42, 43, 44, 45, 46, 47, 48, 49, 50, 51, 52, 53, 54, 55, 56, 57, 58, 59, 60, 61, 62, 63, 64, 65, 66, 67, 68, 69, 70, 71, 72, 73, 74, 75, 76, 77, 78, 79, 80, 81, 82, 83, 84, 85, 86, 87, 88, 89, 90, 91, 92, 93, 94, 95, 96, 97, 141, 142, 143, 144, 145, 146, 147, 148, 149, 150, 151, 152, 132, 133, 134, 135, 136, 137, 138, 139, 140, 153, 154, 155, 156, 157, 158, 159] rfl (by decide +kernel)
set_option maxRecDepth 20000 in
theorem gX11_visit_X1_visitBy : GoodIn wsX11_visit (wsV RX11 198 RX1 yX1_visitBy wsX1_visitBy) := goodIn_app (goodIn_r _ [19, 20, 21, 22] rfl (by decide +kernel)) ggX11_visit_X1_visitBy
set_option maxRecDepth 20000 in
theorem ggX11_visit_X11_settle : GoodIn wsX11_visit wsX11_settle := goodIn_r _ [102, 103, 1, 104, 105, 106, 107, 108, 109, 110, 111, 112, 113, 57, 114, 115, 6, 7, 8, 9, 10, 11, 12, 13, 14, 15, 16, 17, 18, 116, 117, 118, 119, 120, 121, 122, 123, 124, 125, 126, 127, 128, 129, 130, 131, 160, 161, 162, 132, 133, 134, 135, 136, 137, 138, 139, 140] rfl (by decide +kernel)
set_option maxRecDepth 20000 in
theorem gX11_visit_X11_settle : GoodIn wsX11_visit (wsV RX11 202 RX11 yX11_settle wsX11_settle) := goodIn_app (goodIn_r _ [98, 99, 100, 101] rfl (by decide +kernel)) ggX11_visit_X11_settle
set_option maxRecDepth 20000 in
theorem ggX11_gift_X9_copyFrom : GoodIn wsX11_gift wsX9_copyFrom := goodIn_r _ [8, 9, 10, 11, 12, 13, 14, 15, 16, 17, 71, 72, 73, 74, 75, 76, 77, 78, 79] rfl (by decide +kernel)
set_option maxRecDepth 20000 in
theorem gX11_gift_X9_copyFrom : GoodIn wsX11_gift (wsV RX11 124 RX9 yX9_copyFrom wsX9_copyFrom) := goodIn_app (goodIn_r _ [4, 5, 6, 7] rfl (by decide +kernel)) ggX11_gift_X9_copyFrom
set_option maxRecDepth 20000 in
theorem ggX11_gift_X1_giveAway : GoodIn wsX11_gift wsX1_giveAway := goodIn_r _ [22, 23, 24, 25, 26, 7, 27, 9, 28, 29, 30, 31, 13, 12, 32, 33, 34, 35, 71, 72, 73, 74, 75, 76, 77, 78, 79] rfl (by decide +kernel)
set_option maxRecDepth 20000 in
theorem gX11_gift_X1_giveAway : GoodIn wsX11_gift (wsV RX11 205 RX1 yX1_giveAway wsX1_giveAway) := goodIn_app (goodIn_r _ [18, 19, 20, 21] rfl (by decide +kernel)) ggX11_gift_X1_giveAway
set_option maxRecDepth 20000 in
theorem ggX11_gift_X11_settle : GoodIn wsX11_gift wsX11_settle := goodIn_r _ [40, 41, 1, 42, 43, 44, 45, 46, 47, 48, 49, 50, 51, 52, 53, 54, 5, 6, 7, 8, 9, 10, 11, 12, 13, 14, 15, 16, 17, 55, 56, 57, 58, 59, 60, 61, 62, 63, 64, 65, 66, 67, 68, 69, 70, 80, 81, 82, 71, 72, 73, 74, 75, 76, 77, 78, 79] rfl (by decide +kernel)
set_option maxRecDepth 20000 in
theorem gX11_gift_X11_settle : GoodIn wsX11_gift (wsV RX11 202 RX11 yX11_settle wsX11_settle) := goodIn_app (goodIn_r _ [36, 37, 38, 39] rfl (by decide +kernel)) ggX11_gift_X11_settle
set_option maxRecDepth 20000 in
theorem ggX11_hide_X9_copyFrom : GoodIn wsX11_hide wsX9_copyFrom := goodIn_r _ [8, 9, 10, 11, 12, 13, 14, 15, 16, 17, 71, 72, 73, 74, 75, 76, 77, 78, 79] rfl (by decide +kernel)
set_option maxRecDepth 20000 in
theorem gX11_hide_X9_copyFrom : GoodIn wsX11_hide (wsV RX11 124 RX9 yX9_copyFrom wsX9_copyFrom) := goodIn_app (goodIn_r _ [4, 5, 6, 7] rfl (by decide +kernel)) ggX11_hide_X9_copyFrom
set_option maxRecDepth 20000 in
theorem ggX11_hide_X1_turn : GoodIn wsX11_hide wsX1_turn := goodIn_r _ [22, 23, 24, 25, 26, 7, 27, 9, 28, 29, 30, 31, 13, 12, 32, 33, 34, 35, 71, 72, 73, 74, 75, 76, 77, 78, 79] rfl (by decide +kernel)
set_option maxRecDepth 20000 in
theorem gX11_hide_X1_turn : GoodIn wsX11_hide (wsV RX11 209 RX1 yX1_turn wsX1_turn) := goodIn_app (goodIn_r _ [18, 19, 20, 21] rfl (by decide +kernel)) ggX11_hide_X1_turn
set_option maxRecDepth 20000 in
theorem ggX11_hide_X11_settle : GoodIn wsX11_hide wsX11_settle := goodIn_r _ [40, 41, 1, 42, 43, 44, 45, 46, 47, 48, 49, 50, 51, 52, 53, 54, 5, 6, 7, 8, 9, 10, 11, 12, 13, 14, 15, 16, 17, 55, 56, 57, 58, 59, 60, 61, 62, 63, 64, 65, 66, 67, 68, 69, 70, 80, 81, 82, 71, 72, 73, 74, 75, 76, 77, 78, 79] rfl (by decide +kernel)
set_option maxRecDepth 20000 in
theorem gX11_hide_X11_settle : GoodIn wsX11_hide (wsV RX11 202 RX11 yX11_settle wsX11_settle) := goodIn_app (goodIn_r _ [36, 37, 38, 39] rfl (by decide +kernel)) ggX11_hide_X11_settle
set_option maxRecDepth 20000 in
theorem ggX11_add_X9_copyFrom : GoodIn wsX11_add wsX9_copyFrom := goodIn_r _ [8, 9, 10, 11, 12, 13, 14, 15, 16, 17, 69, 70, 71, 72, 73, 74, 75, 76, 77] rfl (by decide +kernel)
set_option maxRecDepth 20000 in
theorem gX11_add_X9_copyFrom : GoodIn wsX11_add (wsV RX11 124 RX9 yX9_copyFrom wsX9_copyFrom) := goodIn_app (goodIn_r _ [4, 5, 6, 7] rfl (by decide +kernel)) ggX11_add_X9_copyFrom
set_option maxRecDepth 20000 in
theorem ggX11_add_X1_bringIn : GoodIn wsX11_add wsX1_bringIn := goodIn_r _ [22, 23, 24, 25, 26, 27, 28, 7, 29, 13, 12, 30, 31, 32, 33, 9, 69, 70, 71, 72, 73, 74, 75, 76, 77] rfl (by decide +kernel)
set_option maxRecDepth 20000 in
theorem gX11_add_X1_bringIn : GoodIn wsX11_add (wsV RX11 212 RX1 yX1_bringIn wsX1_bringIn) := goodIn_app (goodIn_r _ [18, 19, 20, 21] rfl (by decide +kernel)) ggX11_add_X1_bringIn
set_option maxRecDepth 20000 in
theorem ggX11_add_X11_settle : GoodIn wsX11_add wsX11_settle := goodIn_r _ [38, 39, 1, 40, 41, 42, 43, 44, 45, 46, 47, 48, 49, 50, 51, 52, 5, 6, 7, 8, 9, 10, 11, 12, 13, 14, 15, 16, 17, 53, 54, 55, 56, 57, 58, 59, 60, 61, 62, 63, 64, 65, 66, 67, 68, 78, 79, 80, 69, 70, 71, 72, 73, 74, 75, 76, 77] rfl (by decide +kernel)
set_option maxRecDepth 20000 in
theorem gX11_add_X11_settle : GoodIn wsX11_add (wsV RX11 202 RX11 yX11_settle wsX11_settle) := goodIn_app (goodIn_r _ [34, 35, 36, 37] rfl (by decide +kernel)) ggX11_add_X11_settle
set_option maxRecDepth 20000 in
theorem ggX11_price_X9_copyFrom : GoodIn wsX11_price wsX9_copyFrom := goodIn_r _ [8, 9, 10, 11, 12, 13, 14, 15, 16, 17, 71, 72, 73, 74, 75, 76, 77, 78, 79] rfl (by decide +kernel)
set_option maxRecDepth 20000 in
theorem gX11_price_X9_copyFrom : GoodIn wsX11_price (wsV RX11 124 RX9 yX9_copyFrom wsX9_copyFrom) := goodIn_app (goodIn_r _ [4, 5, 6, 7] rfl (by decide +kernel)) ggX11_price_X9_copyFrom
set_option maxRecDepth 20000 in
theorem ggX11_price_X1_reprice : GoodIn wsX11_price wsX1_reprice := goodIn_r _ [22, 23, 24, 25, 26, 7, 27, 9, 28, 29, 30, 31, 13, 12, 32, 33, 34, 35, 71, 72, 73, 74, 75, 76, 77, 78, 79] rfl (by decide +kernel)
set_option maxRecDepth 20000 in
theorem gX11_price_X1_reprice : GoodIn wsX11_price (wsV RX11 216 RX1 yX1_reprice wsX1_reprice) := goodIn_app (goodIn_r _ [18, 19, 20, 21] rfl (by decide +kernel)) ggX11_price_X1_reprice
set_option maxRecDepth 20000 in
theorem ggX11_price_X11_settle : GoodIn wsX11_price wsX11_settle := goodIn_r _ [40, 41, 1, 42, 43, 44, 45, 46, 47, 48, 49, 50, 51, 52, 53, 54, 5, 6, 7, 8, 9, 10, 11, 12, 13, 14, 15, 16, 17, 55, 56, 57, 58, 59, 60, 61, 62, 63, 64, 65, 66, 67, 68, 69, 70, 80, 81, 82, 71, 72, 73, 74, 75, 76, 77, 78, 79] rfl (by decide +kernel)
set_option maxRecDepth 20000 in
theorem gX11_price_X11_settle : GoodIn wsX11_price (wsV RX11 202 RX11 yX11_settle wsX11_settle) := goodIn_app (goodIn_r _ [36, 37, 38, 39] rfl (by decide +kernel)) ggX11_price_X11_settle
set_option maxRecDepth 20000 in
theorem ggX11_settle_X6_keep : GoodIn wsX11_settle wsX6_keep := goodIn_r _ [7, 8, 9, 10, 11, 12, 13, 14, 15, 16, 17, 18, 19, 20, 21, 22, 23, 24, 25, 26, 27, 28, 45, 46, 47, 48, 49, 50, 51, 52, 53, 54, 55, 56] rfl (by decide +kernel)
set_option maxRecDepth 20000 in
theorem gX11_settle_X6_keep : GoodIn wsX11_settle (wsV RX11 192 RX6 yX6_keep wsX6_keep) := goodIn_app (goodIn_r _ [3, 4, 5, 6] rfl (by decide +kernel)) ggX11_settle_X6_keep
set_option maxRecDepth 20000 in
theorem ggX11_days_X9_copyFrom : GoodIn wsX11_days wsX9_copyFrom := goodIn_r _ [11, 12, 13, 14, 15, 16, 17, 18, 19, 20, 172, 173, 174, 175, 176, 177, 178, 179, 180] rfl (by decide +kernel)
set_option maxRecDepth 20000 in
theorem gX11_days_X9_copyFrom : GoodIn wsX11_days (wsV RX11 124 RX9 yX9_copyFrom wsX9_copyFrom) := goodIn_app (goodIn_r _ [7, 8, 9, 10] rfl (by decide +kernel)) ggX11_days_X9_copyFrom
set_option maxRecDepth 20000 in
theorem ggX11_days_X1_carryOut : GoodIn wsX11_days wsX1_carryOut := goodIn_r _ [25, 26, 27, 28, 29, 30, 24, 31, 32, 33, 34, 35, 36, 37, 38, 39, 40, 41, 42, 10, 43, 44, 20, 45, 46, 47, 48, 49, 50, 51, 52, 53, 54, 55, 56, 57, 58, 59, 60, 61, 62, 16, 15, 63, 64, 65, 66, 12, 67, 68, 69, 70, 71, 72, 73, 74, 75, 76, 77, 78, 79, 80, 81, 82, 83, 84, 85, 86, 87, 88, 89, 90, 91, 92, 93, 94, 95, 96, 97, 98, 99, 100, 101, 102, 103, 104, 105, 106, 107, 108, 109, 110, 111, 112, 113, 114, 115, 116, 117, 118, 119, 120, 121, 122, 123, 124, 125, 126, 127, 128, 129, 130, 131, 132, 133, 134, 135, 136, 137, 138, 139, 140, 141, 142, 143, 172, 173, 174, 175, 176, 177, 178, 179, 180, 181, 182, 183, 184, 185, 186, 187, 188, 189, 190, 191, 192, 193, 194, 195, 196, 197, 198, 199] rfl (by decide +kernel)
set_option maxRecDepth 20000 in
theorem gX11_days_X1_carryOut : GoodIn wsX11_days (wsV RX11 221 RX1 yX1_carryOut wsX1_carryOut) := goodIn_app (goodIn_r _ [21, 22, 23, 24] rfl (by decide +kernel)) ggX11_days_X1_carryOut
set_option maxRecDepth 20000 in
theorem ggX11_days_X6_keep : GoodIn wsX11_days wsX6_keep := goodIn_r _ [148, 149, 150, 151, 152, 153, 86, 154, 155, 8, 9, 10, 11, 12, 13, 14, 15, 16, 17, 18, 19, 20, 200, 201, 202, 172, 173, 174, 175, 176, 177, 178, 179, 180] rfl (by decide +kernel)
set_option maxRecDepth 20000 in
theorem gX11_days_X6_keep : GoodIn wsX11_days (wsV RX11 192 RX6 yX6_keep wsX6_keep) := goodIn_app (goodIn_r _ [144, 145, 146, 147] rfl (by decide +kernel)) ggX11_days_X6_keep
set_option maxRecDepth 20000 in
theorem ggX11_judge_X11_isTray : GoodIn wsX11_judge wsX11_isTray := goodIn_r _ [15] rfl (by decide +kernel)
set_option maxRecDepth 20000 in
theorem gX11_judge_X11_isTray : GoodIn wsX11_judge (va_wsS RX11 232 yX11_isTray wsX11_isTray) := goodIn_app (goodIn_r _ [12, 13, 14] rfl (by decide +kernel)) ggX11_judge_X11_isTray
set_option maxRecDepth 20000 in
theorem ggX11_judge_X10_isMissing : GoodIn wsX11_judge wsX10_isMissing := goodIn_r _ [20, 21, 197, 198, 199] rfl (by decide +kernel)
set_option maxRecDepth 20000 in
theorem gX11_judge_X10_isMissing : GoodIn wsX11_judge (wsV RX11 235 RX10 yX10_isMissing wsX10_isMissing) := goodIn_app (goodIn_r _ [16, 17, 18, 19] rfl (by decide +kernel)) ggX11_judge_X10_isMissing
set_option maxRecDepth 20000 in
theorem ggX11_judge_X9_copyFrom : GoodIn wsX11_judge wsX9_copyFrom := goodIn_r _ [26, 27, 28, 29, 30, 31, 32, 33, 34, 35, 188, 189, 190, 191, 192, 193, 194, 195, 196] rfl (by decide +kernel)
set_option maxRecDepth 20000 in
theorem gX11_judge_X9_copyFrom : GoodIn wsX11_judge (wsV RX11 124 RX9 yX9_copyFrom wsX9_copyFrom) := goodIn_app (goodIn_r _ [22, 23, 24, 25] rfl (by decide +kernel)) ggX11_judge_X9_copyFrom
set_option maxRecDepth 20000 in
theorem ggX11_judge_X1_carryOut : GoodIn wsX11_judge wsX1_carryOut := goodIn_r _ [56, 57, 58, 59, 60, 61, 55, 62, 63, 64, 65, 66, 67, 68, 69, 70, 71, 72, 73, 25, 74, 75, 35, 76, 77, 78, 79, 80, 81, 82, 83, 84, 85, 86, 87, 88, 89, 90, 91, 92, 93, 31, 30, 94, 95, 96, 97, 27, 98, 99, 100, 101, 102, 103, 104, 105, 106, 107, 108, 109, 110, 111, 112, 113, 114, 115, 41, 8, 42, 116, 117, 118, 119, 120, 121, 122, 123, 124, 125, 126, 127, 128, 129, 130, 131, 132, 133, 134, 135, 136, 137, 138, 139, 140, 141, 142, 143, 144, 145, 146, 147, 148, 149, 150, 151, 152, 153, 154, 155, 156, 157, 158, 159, 160, 161, 162, 163, 164, 165, 166, 167, 168, 169, 170, 171, 188, 189, 190, 191, 192, 193, 194, 195, 196, 200, 201, 202, 203, 204, 205, 206, 207, 208, 209, 210, 211, 212, 213, 214, 215, 216, 217, 218] rfl (by decide +kernel)
set_option maxRecDepth 20000 in
theorem gX11_judge_X1_carryOut : GoodIn wsX11_judge (wsV RX11 221 RX1 yX1_carryOut wsX1_carryOut) := goodIn_app (goodIn_r _ [52, 53, 54, 55] rfl (by decide +kernel)) ggX11_judge_X1_carryOut
set_option maxRecDepth 20000 in
theorem ggX11_perform_X11_trayRefusal : GoodIn wsX11_perform wsX11_trayRefusal := goodIn_r _ [11, 1, 12, 13, 10, 14, 15, 16, 17, 18, 19, 20, 184, 185, 186, 187, 188, 189, 190, 191, 192, 193, 194, 195, 196, 197, 198, 199, 200, 201, 202] rfl (by decide +kernel)
set_option maxRecDepth 20000 in
theorem gX11_perform_X11_trayRefusal : GoodIn wsX11_perform (wsV RX11 255 RX11 yX11_trayRefusal wsX11_trayRefusal) := goodIn_app (goodIn_r _ [7, 8, 9, 10] rfl (by decide +kernel)) ggX11_perform_X11_trayRefusal
set_option maxRecDepth 20000 in
theorem ggX11_perform_X9_copyFrom : GoodIn wsX11_perform wsX9_copyFrom := goodIn_r _ [25, 26, 27, 28, 29, 30, 31, 32, 33, 34, 203, 204, 205, 206, 207, 208, 209, 210, 211] rfl (by decide +kernel)
set_option maxRecDepth 20000 in
theorem gX11_perform_X9_copyFrom : GoodIn wsX11_perform (wsV RX11 124 RX9 yX9_copyFrom wsX9_copyFrom) := goodIn_app (goodIn_r _ [21, 22, 23, 24] rfl (by decide +kernel)) ggX11_perform_X9_copyFrom
set_option maxRecDepth 20000 in
theorem ggX11_perform_X1_carryOut : GoodIn wsX11_perform wsX1_carryOut := goodIn_r _ [56, 57, 58, 59, 60, 61, 55, 62, 63, 64, 65, 66, 67, 68, 69, 70, 71, 72, 73, 24, 74, 75, 34, 76, 77, 78, 79, 80, 81, 82, 83, 84, 85, 86, 87, 88, 89, 90, 91, 92, 93, 30, 29, 94, 95, 96, 97, 26, 98, 99, 100, 101, 102, 103, 104, 105, 106, 107, 108, 109, 110, 111, 112, 113, 114, 115, 40, 41, 42, 116, 117, 118, 119, 120, 121, 122, 123, 124, 125, 126, 127, 128, 129, 130, 131, 132, 133, 134, 135, 136, 137, 138, 139, 140, 141, 142, 143, 144, 145, 146, 147, 148, 149, 150, 151, 152, 153, 154, 155, 156, 157, 158, 159, 160, 161, 162, 163, 164, 165, 166, 167, 168, 169, 170, 171, 203, 204, 205, 206, 207, 208, 209, 210, 211, 212, 213, 214, 215, 216, 217, 218, 219, 220, 221, 222, 223, 224, 225, 226, 227, 228, 229, 230] rfl (by decide +kernel)
set_option maxRecDepth 20000 in
theorem gX11_perform_X1_carryOut : GoodIn wsX11_perform (wsV RX11 221 RX1 yX1_carryOut wsX1_carryOut) := goodIn_app (goodIn_r _ [52, 53, 54, 55] rfl (by decide +kernel)) ggX11_perform_X1_carryOut
set_option maxRecDepth 20000 in
theorem ggX11_perform_X6_keep : GoodIn wsX11_perform wsX6_keep := goodIn_r _ [176, 177, 178, 179, 180, 181, 41, 182, 183, 22, 23, 24, 25, 26, 27, 28, 29, 30, 31, 32, 33, 34, 231, 232, 233, 203, 204, 205, 206, 207, 208, 209, 210, 211] rfl (by decide +kernel)
set_option maxRecDepth 20000 in
theorem gX11_perform_X6_keep : GoodIn wsX11_perform (wsV RX11 192 RX6 yX6_keep wsX6_keep) := goodIn_app (goodIn_r _ [172, 173, 174, 175] rfl (by decide +kernel)) ggX11_perform_X6_keep
set_option maxRecDepth 20000 in
theorem ggX11_season_X9_copyFrom : GoodIn wsX11_season wsX9_copyFrom := goodIn_r _ [11, 12, 13, 14, 15, 16, 17, 18, 19, 20, 176, 177, 178, 179, 180, 181, 182, 183, 184] rfl (by decide +kernel)
set_option maxRecDepth 20000 in
theorem gX11_season_X9_copyFrom : GoodIn wsX11_season (wsV RX11 124 RX9 yX9_copyFrom wsX9_copyFrom) := goodIn_app (goodIn_r _ [7, 8, 9, 10] rfl (by decide +kernel)) ggX11_season_X9_copyFrom
set_option maxRecDepth 20000 in
theorem ggX11_season_X1_drawDeed : GoodIn wsX11_season wsX1_drawDeed := goodIn_r _ [25, 26, 27, 28, 10, 29, 30, 20, 176, 177, 178, 179, 180, 181, 182, 183, 184] rfl (by decide +kernel)
set_option maxRecDepth 20000 in
theorem gX11_season_X1_drawDeed : GoodIn wsX11_season (wsV RX11 258 RX1 yX1_drawDeed wsX1_drawDeed) := goodIn_app (goodIn_r _ [21, 22, 23, 24] rfl (by decide +kernel)) ggX11_season_X1_drawDeed
set_option maxRecDepth 20000 in
theorem ggX11_season_X1_carryOut : GoodIn wsX11_season wsX1_carryOut := goodIn_r _ [34, 35, 36, 37, 38, 39, 24, 40, 41, 42, 43, 44, 45, 46, 47, 48, 26, 27, 28, 10, 29, 30, 20, 49, 50, 51, 52, 53, 54, 55, 56, 57, 58, 59, 60, 61, 62, 63, 64, 65, 66, 16, 15, 67, 68, 69, 70, 12, 71, 72, 73, 74, 75, 76, 77, 78, 79, 80, 81, 82, 83, 84, 85, 86, 87, 88, 89, 90, 91, 92, 93, 94, 95, 96, 97, 98, 99, 100, 101, 102, 103, 104, 105, 106, 107, 108, 109, 110, 111, 112, 113, 114, 115, 116, 117, 118, 119, 120, 121, 122, 123, 124, 125, 126, 127, 128, 129, 130, 131, 132, 133, 134, 135, 136, 137, 138, 139, 140, 141, 142, 143, 144, 145, 146, 147, 176, 177, 178, 179, 180, 181, 182, 183, 184, 185, 186, 187, 188, 189, 190, 191, 192, 193, 194, 195, 196, 197, 198, 199, 200, 201, 202, 203] rfl (by decide +kernel)
set_option maxRecDepth 20000 in
theorem gX11_season_X1_carryOut : GoodIn wsX11_season (wsV RX11 221 RX1 yX1_carryOut wsX1_carryOut) := goodIn_app (goodIn_r _ [31, 32, 33, 24] rfl (by decide +kernel)) ggX11_season_X1_carryOut
set_option maxRecDepth 20000 in
theorem ggX11_season_X6_keep : GoodIn wsX11_season wsX6_keep := goodIn_r _ [152, 153, 154, 155, 156, 157, 90, 158, 159, 8, 9, 10, 11, 12, 13, 14, 15, 16, 17, 18, 19, 20, 204, 205, 206, 176, 177, 178, 179, 180, 181, 182, 183, 184] rfl (by decide +kernel)
set_option maxRecDepth 20000 in
theorem gX11_season_X6_keep : GoodIn wsX11_season (wsV RX11 192 RX6 yX6_keep wsX6_keep) := goodIn_app (goodIn_r _ [148, 149, 150, 151] rfl (by decide +kernel)) ggX11_season_X6_keep
set_option maxRecDepth 20000 in
theorem ggX11_ending_X5_look : GoodIn wsX11_ending wsX5_look := goodIn_r _ [9, 10, 11, 12, 13, 14, 15, 8, 16, 17, 18, 19, 20, 21, 22, 23, 24, 25, 26, 27, 28, 29, 30, 31, 32, 33, 34, 35, 36, 37, 38, 39, 40, 41, 42, 43, 44, 45, 46, 47, 48, 49, 50, 51, 52, 53, 54, 55, 56, 57, 58, 59, 60, 61, 62, 63, 64, 65, 66, 67, 68, 69, 70, 71, 72, 73, 74, 75, 76, 77, 78, 79, 80, 81, 82, 83, 84, 85, 86, 87, 88, 89, 90, 91, 92, 93, 94, 95, 96, 97, 144, 145, 146, 147, 148, 149, 150, 151, 152, 153, 154, 155, 156, 157, 135, 136, 137, 138, 139, 140, 141, 142, 143, 158, 159, 160, 161, 162, 163, 164, 165, 166, 167, 168, 169, 170, 171, 172, 173, 174, 175] rfl (by decide +kernel)
set_option maxRecDepth 20000 in
theorem gX11_ending_X5_look : GoodIn wsX11_ending (wsV RX11 262 RX5 yX5_look wsX5_look) := goodIn_app (goodIn_r _ [5, 6, 7, 8] rfl (by decide +kernel)) ggX11_ending_X5_look
set_option maxRecDepth 20000 in
theorem ggX11_ending_X5_shortest : GoodIn wsX11_ending wsX5_shortest := goodIn_r _ [101, 17, 49, 102, 103, 104, 8, 105, 12, 11, 10, 106, 107, 108, 109, 110, 19, 111, 112, 113, 114, 115, 116, 117, 118, 50, 144, 145, 146, 147, 148, 149, 150, 151, 152, 153, 154, 155, 156, 157, 165, 166, 167, 168, 169, 170, 171, 172, 173, 174, 175] rfl (by decide +kernel)
set_option maxRecDepth 20000 in
theorem gX11_ending_X5_shortest : GoodIn wsX11_ending (wsV RX11 266 RX5 yX5_shortest wsX5_shortest) := goodIn_app (goodIn_r _ [98, 99, 100, 8] rfl (by decide +kernel)) ggX11_ending_X5_shortest
set_option maxRecDepth 20000 in
theorem ggX11_endingBy_X5_look : GoodIn wsX11_endingBy wsX5_look := goodIn_r _ [9, 10, 11, 12, 13, 14, 15, 8, 16, 17, 18, 19, 20, 21, 22, 23, 24, 25, 26, 27, 28, 29, 30, 31, 32, 33, 34, 35, 36, 37, 38, 39, 40, 41, 42, 43, 44, 45, 46, 47, 48, 49, 50, 51, 52, 53, 54, 55, 56, 57, 58, 59, 60, 61, 62, 63, 64, 65, 66, 67, 68, 69, 70, 71, 72, 73, 74, 75, 76, 77, 78, 79, 80, 81, 82, 83, 84, 85, 86, 87, 88, 89, 90, 91, 92, 93, 94, 95, 96, 97, 152, 153, 154, 155, 156, 157, 158, 159, 160, 161, 162, 163, 164, 165, 143, 144, 145, 146, 147, 148, 149, 150, 151, 166, 167, 168, 169, 170, 171, 172, 173, 174, 175, 176, 177, 178, 179, 180, 181, 182, 183] rfl (by decide +kernel)
set_option maxRecDepth 20000 in
theorem gX11_endingBy_X5_look : GoodIn wsX11_endingBy (wsV RX11 262 RX5 yX5_look wsX5_look) := goodIn_app (goodIn_r _ [5, 6, 7, 8] rfl (by decide +kernel)) ggX11_endingBy_X5_look
set_option maxRecDepth 20000 in
theorem ggX11_endingBy_X5_shortest : GoodIn wsX11_endingBy wsX5_shortest := goodIn_r _ [101, 17, 49, 102, 103, 104, 8, 105, 12, 11, 10, 106, 107, 108, 109, 110, 19, 111, 112, 113, 114, 115, 116, 117, 118, 50, 152, 153, 154, 155, 156, 157, 158, 159, 160, 161, 162, 163, 164, 165, 173, 174, 175, 176, 177, 178, 179, 180, 181, 182, 183] rfl (by decide +kernel)
set_option maxRecDepth 20000 in
theorem gX11_endingBy_X5_shortest : GoodIn wsX11_endingBy (wsV RX11 266 RX5 yX5_shortest wsX5_shortest) := goodIn_app (goodIn_r _ [98, 99, 100, 8] rfl (by decide +kernel)) ggX11_endingBy_X5_shortest
set_option maxRecDepth 20000 in
theorem ggX11_endings_X5_look : GoodIn wsX11_endings wsX5_look := goodIn_r _ [10, 11, 12, 13, 14, 15, 16, 9, 17, 18, 19, 20, 21, 22, 23, 24, 25, 26, 27, 28, 29, 30, 31, 32, 33, 34, 35, 36, 37, 38, 39, 40, 41, 42, 43, 44, 45, 46, 47, 48, 49, 50, 51, 52, 53, 54, 55, 56, 57, 58, 59, 60, 61, 62, 63, 64, 65, 66, 67, 68, 69, 70, 71, 72, 73, 74, 75, 76, 77, 78, 79, 80, 81, 82, 83, 84, 85, 86, 87, 88, 89, 90, 91, 92, 93, 94, 95, 96, 97, 98, 161, 162, 163, 164, 165, 166, 167, 168, 169, 170, 171, 172, 173, 174, 152, 153, 154, 155, 156, 157, 158, 159, 160, 175, 176, 177, 178, 179, 180, 181, 182, 183, 184, 185, 186, 187, 188, 189, 190, 191, 192] rfl (by decide +kernel)
set_option maxRecDepth 20000 in
theorem gX11_endings_X5_look : GoodIn wsX11_endings (wsV RX11 262 RX5 yX5_look wsX5_look) := goodIn_app (goodIn_r _ [6, 7, 8, 9] rfl (by decide +kernel)) ggX11_endings_X5_look
set_option maxRecDepth 20000 in
theorem ggX11_endings_X5_rowsToShut : GoodIn wsX11_endings wsX5_rowsToShut := goodIn_r _ [102, 103, 104, 105, 9, 106, 107, 12, 108, 109, 44, 110, 111, 112, 113, 114, 115, 13, 18, 50, 116, 117, 118, 119, 51, 120, 121, 122, 123, 124, 125, 126, 127, 128, 129, 130, 131, 132, 133, 134, 135, 20, 161, 162, 163, 164, 165, 166, 167, 168, 169, 170, 171, 172, 173, 174, 182, 183, 184, 185, 186, 187, 188, 189, 190, 191, 192] rfl (by decide +kernel)
set_option maxRecDepth 20000 in
theorem gX11_endings_X5_rowsToShut : GoodIn wsX11_endings (wsV RX11 274 RX5 yX5_rowsToShut wsX5_rowsToShut) := goodIn_app (goodIn_r _ [99, 100, 101, 9] rfl (by decide +kernel)) ggX11_endings_X5_rowsToShut
set_option maxRecDepth 20000 in
theorem ggX11_needed_X5_look : GoodIn wsX11_needed wsX5_look := goodIn_r _ [9, 10, 11, 12, 13, 14, 15, 8, 16, 17, 18, 19, 20, 21, 22, 23, 24, 25, 26, 27, 28, 29, 30, 31, 32, 33, 34, 35, 36, 37, 38, 39, 40, 41, 42, 43, 44, 45, 46, 47, 48, 49, 50, 51, 52, 53, 54, 55, 56, 57, 58, 59, 60, 61, 62, 63, 64, 65, 66, 67, 68, 69, 70, 71, 72, 73, 74, 75, 76, 77, 78, 79, 80, 81, 82, 83, 84, 85, 86, 87, 88, 89, 90, 91, 92, 93, 94, 95, 96, 97, 144, 145, 146, 147, 148, 149, 150, 151, 152, 153, 154, 155, 156, 157, 135, 136, 137, 138, 139, 140, 141, 142, 143, 158, 159, 160, 161, 162, 163, 164, 165, 166, 167, 168, 169, 170, 171, 172, 173, 174, 175] rfl (by decide +kernel)
set_option maxRecDepth 20000 in
theorem gX11_needed_X5_look : GoodIn wsX11_needed (wsV RX11 262 RX5 yX5_look wsX5_look) := goodIn_app (goodIn_r _ [5, 6, 7, 8] rfl (by decide +kernel)) ggX11_needed_X5_look
set_option maxRecDepth 20000 in
theorem ggX11_needed_X5_neededBuyers : GoodIn wsX11_needed wsX5_neededBuyers := goodIn_r _ [101, 17, 49, 102, 103, 104, 8, 105, 12, 11, 10, 106, 107, 108, 109, 110, 19, 111, 112, 113, 114, 115, 116, 117, 118, 50, 144, 145, 146, 147, 148, 149, 150, 151, 152, 153, 154, 155, 156, 157, 165, 166, 167, 168, 169, 170, 171, 172, 173, 174, 175] rfl (by decide +kernel)
set_option maxRecDepth 20000 in
theorem gX11_needed_X5_neededBuyers : GoodIn wsX11_needed (wsV RX11 277 RX5 yX5_neededBuyers wsX5_neededBuyers) := goodIn_app (goodIn_r _ [98, 99, 100, 8] rfl (by decide +kernel)) ggX11_needed_X5_neededBuyers
set_option maxRecDepth 20000 in
theorem ggX11_sellable_X5_look : GoodIn wsX11_sellable wsX5_look := goodIn_r _ [9, 10, 11, 12, 13, 14, 15, 8, 16, 17, 18, 19, 20, 21, 22, 23, 24, 25, 26, 27, 28, 29, 30, 31, 32, 33, 34, 35, 36, 37, 38, 39, 40, 41, 42, 43, 44, 45, 46, 47, 48, 49, 50, 51, 52, 53, 54, 55, 56, 57, 58, 59, 60, 61, 62, 63, 64, 65, 66, 67, 68, 69, 70, 71, 72, 73, 74, 75, 76, 77, 78, 79, 80, 81, 82, 83, 84, 85, 86, 87, 88, 89, 90, 91, 92, 93, 94, 95, 96, 97, 127, 128, 129, 130, 131, 132, 133, 134, 135, 136, 137, 138, 139, 140, 118, 119, 120, 121, 122, 123, 124, 125, 126, 141, 142, 143, 144, 145, 146, 147, 148, 149, 150, 151, 152, 153, 154, 155, 156, 157, 158] rfl (by decide +kernel)
set_option maxRecDepth 20000 in
theorem gX11_sellable_X5_look : GoodIn wsX11_sellable (wsV RX11 262 RX5 yX5_look wsX5_look) := goodIn_app (goodIn_r _ [5, 6, 7, 8] rfl (by decide +kernel)) ggX11_sellable_X5_look
set_option maxRecDepth 20000 in
theorem ggX11_sellable_X5_everSold : GoodIn wsX11_sellable wsX5_everSold := goodIn_r _ [101, 11, 12, 10, 127, 128, 129, 130, 131, 132, 133, 134, 135, 136, 137, 138, 139, 140] rfl (by decide +kernel)
set_option maxRecDepth 20000 in
theorem gX11_sellable_X5_everSold : GoodIn wsX11_sellable (wsV RX11 280 RX5 yX5_everSold wsX5_everSold) := goodIn_app (goodIn_r _ [98, 99, 100, 8] rfl (by decide +kernel)) ggX11_sellable_X5_everSold
set_option maxRecDepth 20000 in
theorem ggX11_guards_X5_look : GoodIn wsX11_guards wsX5_look := goodIn_r _ [10, 11, 12, 13, 14, 15, 16, 9, 17, 18, 19, 20, 21, 22, 23, 24, 25, 26, 27, 28, 29, 30, 31, 32, 33, 34, 35, 36, 37, 38, 39, 40, 41, 42, 43, 44, 45, 46, 47, 48, 49, 50, 51, 52, 53, 54, 55, 56, 57, 58, 59, 60, 61, 62, 63, 64, 65, 66, 67, 68, 69, 70, 71, 72, 73, 74, 75, 76, 77, 78, 79, 80, 81, 82, 83, 84, 85, 86, 87, 88, 89, 90, 91, 92, 93, 94, 95, 96, 97, 98, 145, 146, 147, 148, 149, 150, 151, 152, 153, 154, 155, 156, 157, 158, 136, 137, 138, 139, 140, 141, 142, 143, 144, 159, 160, 161, 162, 163, 164, 165, 166, 167, 168, 169, 170, 171, 172, 173, 174, 175, 176] rfl (by decide +kernel)
set_option maxRecDepth 20000 in
theorem gX11_guards_X5_look : GoodIn wsX11_guards (wsV RX11 262 RX5 yX5_look wsX5_look) := goodIn_app (goodIn_r _ [6, 7, 8, 9] rfl (by decide +kernel)) ggX11_guards_X5_look
set_option maxRecDepth 20000 in
theorem ggX11_guards_X5_shortest : GoodIn wsX11_guards wsX5_shortest := goodIn_r _ [102, 18, 50, 103, 104, 105, 9, 106, 13, 12, 11, 107, 108, 109, 110, 111, 20, 112, 113, 114, 115, 116, 117, 118, 119, 51, 145, 146, 147, 148, 149, 150, 151, 152, 153, 154, 155, 156, 157, 158, 166, 167, 168, 169, 170, 171, 172, 173, 174, 175, 176] rfl (by decide +kernel)
set_option maxRecDepth 20000 in
theorem gX11_guards_X5_shortest : GoodIn wsX11_guards (wsV RX11 266 RX5 yX5_shortest wsX5_shortest) := goodIn_app (goodIn_r _ [99, 100, 101, 9] rfl (by decide +kernel)) ggX11_guards_X5_shortest
set_option maxRecDepth 20000 in
theorem ggX11_last_X5_look : GoodIn wsX11_last wsX5_look := goodIn_r _ [9, 10, 11, 12, 13, 14, 15, 8, 16, 17, 18, 19, 20, 21, 22, 23, 24, 25, 26, 27, 28, 29, 30, 31, 32, 33, 34, 35, 36, 37, 38, 39, 40, 41, 42, 43, 44, 45, 46, 47, 48, 49, 50, 51, 52, 53, 54, 55, 56, 57, 58, 59, 60, 61, 62, 63, 64, 65, 66, 67, 68, 69, 70, 71, 72, 73, 74, 75, 76, 77, 78, 79, 80, 81, 82, 83, 84, 85, 86, 87, 88, 89, 90, 91, 92, 93, 94, 95, 96, 97, 128, 129, 130, 131, 132, 133, 134, 135, 136, 137, 138, 139, 140, 141, 119, 120, 121, 122, 123, 124, 125, 126, 127, 142, 143, 144, 145, 146, 147, 148, 149, 150, 151, 152, 153, 154, 155, 156, 157, 158, 159] rfl (by decide +kernel)
set_option maxRecDepth 20000 in
theorem gX11_last_X5_look : GoodIn wsX11_last (wsV RX11 262 RX5 yX5_look wsX5_look) := goodIn_app (goodIn_r _ [5, 6, 7, 8] rfl (by decide +kernel)) ggX11_last_X5_look
set_option maxRecDepth 20000 in
theorem ggX11_last_X5_lastLeft : GoodIn wsX11_last wsX5_lastLeft := goodIn_r _ [101, 11, 12, 19, 10, 102, 60, 61, 62, 63, 64, 65, 128, 129, 130, 131, 132, 133, 134, 135, 136, 137, 138, 139, 140, 141] rfl (by decide +kernel)
set_option maxRecDepth 20000 in
theorem gX11_last_X5_lastLeft : GoodIn wsX11_last (wsV RX11 283 RX5 yX5_lastLeft wsX5_lastLeft) := goodIn_app (goodIn_r _ [98, 99, 100, 8] rfl (by decide +kernel)) ggX11_last_X5_lastLeft
set_option maxRecDepth 20000 in
theorem ggX11_open_X11_chanceRefusal : GoodIn wsX11_open wsX11_chanceRefusal := goodIn_r _ [9] rfl (by decide +kernel)
set_option maxRecDepth 20000 in
theorem gX11_open_X11_chanceRefusal : GoodIn wsX11_open (va_wsS RX11 286 yX11_chanceRefusal wsX11_chanceRefusal) := goodIn_app (goodIn_r _ [6, 7, 8] rfl (by decide +kernel)) ggX11_open_X11_chanceRefusal
set_option maxRecDepth 20000 in
theorem ggX11_open_X5_look : GoodIn wsX11_open wsX5_look := goodIn_r _ [14, 15, 16, 17, 18, 19, 20, 13, 21, 22, 23, 24, 25, 26, 27, 28, 29, 30, 31, 32, 33, 34, 35, 36, 37, 38, 39, 40, 41, 42, 43, 44, 45, 46, 47, 48, 49, 50, 51, 52, 53, 54, 55, 56, 57, 58, 59, 60, 61, 62, 63, 64, 65, 66, 67, 68, 69, 70, 71, 72, 73, 74, 75, 76, 77, 78, 79, 80, 81, 82, 83, 84, 85, 86, 87, 88, 89, 90, 91, 92, 93, 94, 95, 96, 97, 98, 99, 100, 101, 102, 183, 184, 185, 186, 187, 188, 189, 190, 191, 192, 193, 194, 195, 196, 174, 175, 176, 177, 178, 179, 180, 181, 182, 197, 198, 199, 200, 201, 202, 203, 204, 205, 206, 207, 208, 209, 210, 211, 212, 213, 214] rfl (by decide +kernel)
set_option maxRecDepth 20000 in
theorem gX11_open_X5_look : GoodIn wsX11_open (wsV RX11 262 RX5 yX5_look wsX5_look) := goodIn_app (goodIn_r _ [10, 11, 12, 13] rfl (by decide +kernel)) ggX11_open_X5_look
set_option maxRecDepth 20000 in
theorem ggX11_open_X5_passDays : GoodIn wsX11_open wsX5_passDays := goodIn_r _ [106, 107, 108, 109, 22, 110, 111, 112, 13, 113, 114, 16, 115, 116, 48, 117, 118, 119, 120, 121, 122, 123, 124, 125, 126, 127, 128, 129, 54, 17, 130, 131, 132, 133, 134, 23, 135, 136, 137, 138, 139, 55, 140, 141, 142, 143, 24, 144, 145, 146, 147, 183, 184, 185, 186, 187, 188, 189, 190, 191, 192, 193, 194, 195, 196, 204, 205, 206, 207, 208, 209, 210, 211, 212, 213, 214, 174, 175, 176, 177, 178, 179, 180, 181, 182] rfl (by decide +kernel)
set_option maxRecDepth 20000 in
theorem gX11_open_X5_passDays : GoodIn wsX11_open (wsV RX11 289 RX5 yX5_passDays wsX5_passDays) := goodIn_app (goodIn_r _ [103, 104, 105, 13] rfl (by decide +kernel)) ggX11_open_X5_passDays
set_option maxRecDepth 20000 in
theorem ggX11_open_X5_openWays : GoodIn wsX11_open wsX5_openWays := goodIn_r _ [151, 16, 17, 114, 140, 141, 142, 13, 143, 24, 183, 184, 185, 186, 187, 188, 189, 190, 191, 192, 193, 194, 195, 196] rfl (by decide +kernel)
set_option maxRecDepth 20000 in
theorem gX11_open_X5_openWays : GoodIn wsX11_open (wsV RX11 292 RX5 yX5_openWays wsX5_openWays) := goodIn_app (goodIn_r _ [148, 149, 150, 13] rfl (by decide +kernel)) ggX11_open_X5_openWays
set_option maxRecDepth 20000 in
theorem ggX11_open_X11_inLowestTerms : GoodIn wsX11_open wsX11_inLowestTerms := goodIn_r _ [154, 155, 156, 8, 157] rfl (by decide +kernel)
set_option maxRecDepth 20000 in
theorem gX11_open_X11_inLowestTerms : GoodIn wsX11_open (va_wsS RX11 300 yX11_inLowestTerms wsX11_inLowestTerms) := goodIn_app (goodIn_r _ [152, 153, 8] rfl (by decide +kernel)) ggX11_open_X11_inLowestTerms
set_option maxRecDepth 20000 in
theorem ggX11_likely_X5_look : GoodIn wsX11_likely wsX5_look := goodIn_r _ [10, 11, 12, 13, 14, 15, 16, 9, 17, 18, 19, 20, 21, 22, 23, 24, 25, 26, 27, 28, 29, 30, 31, 32, 33, 34, 35, 36, 37, 38, 39, 40, 41, 42, 43, 44, 45, 46, 47, 48, 49, 50, 51, 52, 53, 54, 55, 56, 57, 58, 59, 60, 61, 62, 63, 64, 65, 66, 67, 68, 69, 70, 71, 72, 73, 74, 75, 76, 77, 78, 79, 80, 81, 82, 83, 84, 85, 86, 87, 88, 89, 90, 91, 92, 93, 94, 95, 96, 97, 98, 178, 179, 180, 181, 182, 183, 184, 185, 186, 187, 188, 189, 190, 191, 169, 170, 171, 172, 173, 174, 175, 176, 177, 192, 193, 194, 195, 196, 197, 198, 199, 200, 201, 202, 203, 204, 205, 206, 207, 208, 209] rfl (by decide +kernel)
set_option maxRecDepth 20000 in
theorem gX11_likely_X5_look : GoodIn wsX11_likely (wsV RX11 262 RX5 yX5_look wsX5_look) := goodIn_app (goodIn_r _ [6, 7, 8, 9] rfl (by decide +kernel)) ggX11_likely_X5_look
set_option maxRecDepth 20000 in
theorem ggX11_likely_X5_passDays : GoodIn wsX11_likely wsX5_passDays := goodIn_r _ [102, 103, 104, 105, 18, 106, 107, 108, 9, 109, 110, 12, 111, 112, 44, 113, 114, 115, 116, 117, 118, 119, 120, 121, 122, 123, 124, 125, 50, 13, 126, 127, 128, 129, 130, 19, 131, 132, 133, 134, 135, 51, 136, 137, 138, 139, 20, 140, 141, 142, 143, 178, 179, 180, 181, 182, 183, 184, 185, 186, 187, 188, 189, 190, 191, 199, 200, 201, 202, 203, 204, 205, 206, 207, 208, 209, 169, 170, 171, 172, 173, 174, 175, 176, 177] rfl (by decide +kernel)
set_option maxRecDepth 20000 in
theorem gX11_likely_X5_passDays : GoodIn wsX11_likely (wsV RX11 289 RX5 yX5_passDays wsX5_passDays) := goodIn_app (goodIn_r _ [99, 100, 101, 9] rfl (by decide +kernel)) ggX11_likely_X5_passDays
set_option maxRecDepth 20000 in
theorem ggX11_likely_X5_openWays : GoodIn wsX11_likely wsX5_openWays := goodIn_r _ [147, 12, 13, 110, 136, 137, 138, 9, 139, 20, 178, 179, 180, 181, 182, 183, 184, 185, 186, 187, 188, 189, 190, 191] rfl (by decide +kernel)
set_option maxRecDepth 20000 in
theorem gX11_likely_X5_openWays : GoodIn wsX11_likely (wsV RX11 292 RX5 yX5_openWays wsX5_openWays) := goodIn_app (goodIn_r _ [144, 145, 146, 9] rfl (by decide +kernel)) ggX11_likely_X5_openWays
set_option maxRecDepth 20000 in
theorem ggX11_likely_X11_hundredths : GoodIn wsX11_likely wsX11_hundredths := goodIn_r _ [151, 152] rfl (by decide +kernel)
set_option maxRecDepth 20000 in
theorem gX11_likely_X11_hundredths : GoodIn wsX11_likely (va_wsS RX11 304 yX11_hundredths wsX11_hundredths) := goodIn_app (goodIn_r _ [148, 149, 150] rfl (by decide +kernel)) ggX11_likely_X11_hundredths
set_option maxRecDepth 20000 in
theorem ggX11_shutsBy_X11_isBuyer : GoodIn wsX11_shutsBy wsX11_isBuyer := goodIn_r _ [11, 2, 12, 160, 161, 162, 163, 164, 165, 166, 167, 168, 169, 170, 171, 172, 173, 174, 175, 199, 200, 201, 202, 203, 204, 205, 206, 207, 208, 209] rfl (by decide +kernel)
set_option maxRecDepth 20000 in
theorem gX11_shutsBy_X11_isBuyer : GoodIn wsX11_shutsBy (wsV RX11 173 RX11 yX11_isBuyer wsX11_isBuyer) := goodIn_app (goodIn_r _ [7, 8, 9, 10] rfl (by decide +kernel)) ggX11_shutsBy_X11_isBuyer
set_option maxRecDepth 20000 in
theorem ggX11_shutsBy_X11_chanceRefusal : GoodIn wsX11_shutsBy wsX11_chanceRefusal := goodIn_r _ [15] rfl (by decide +kernel)
set_option maxRecDepth 20000 in
theorem gX11_shutsBy_X11_chanceRefusal : GoodIn wsX11_shutsBy (va_wsS RX11 286 yX11_chanceRefusal wsX11_chanceRefusal) := goodIn_app (goodIn_r _ [13, 14, 10] rfl (by decide +kernel)) ggX11_shutsBy_X11_chanceRefusal
set_option maxRecDepth 20000 in
theorem ggX11_shutsBy_X5_look : GoodIn wsX11_shutsBy wsX5_look := goodIn_r _ [20, 21, 22, 23, 24, 25, 26, 19, 27, 28, 29, 30, 31, 32, 33, 34, 35, 36, 37, 38, 39, 40, 41, 42, 43, 44, 45, 46, 47, 48, 49, 50, 51, 52, 53, 54, 55, 56, 57, 58, 59, 60, 61, 62, 63, 64, 65, 66, 67, 68, 69, 70, 71, 72, 73, 74, 75, 76, 77, 78, 79, 80, 81, 82, 83, 84, 85, 86, 87, 88, 89, 90, 91, 92, 93, 94, 95, 96, 97, 98, 99, 100, 101, 102, 103, 104, 105, 106, 107, 108, 185, 186, 187, 188, 189, 190, 191, 192, 193, 194, 195, 196, 197, 198, 176, 177, 178, 179, 180, 181, 182, 183, 184, 210, 211, 212, 213, 214, 215, 216, 199, 200, 201, 202, 203, 204, 205, 206, 207, 208, 209] rfl (by decide +kernel)
set_option maxRecDepth 20000 in
theorem gX11_shutsBy_X5_look : GoodIn wsX11_shutsBy (wsV RX11 262 RX5 yX5_look wsX5_look) := goodIn_app (goodIn_r _ [16, 17, 18, 19] rfl (by decide +kernel)) ggX11_shutsBy_X5_look
set_option maxRecDepth 20000 in
theorem ggX11_shutsBy_X5_passDays : GoodIn wsX11_shutsBy wsX5_passDays := goodIn_r _ [112, 113, 114, 115, 28, 116, 117, 118, 19, 119, 120, 22, 121, 122, 54, 123, 124, 125, 126, 127, 128, 129, 130, 131, 132, 133, 134, 135, 60, 23, 136, 137, 138, 139, 140, 29, 141, 142, 143, 144, 145, 61, 146, 147, 148, 149, 30, 150, 151, 152, 153, 185, 186, 187, 188, 189, 190, 191, 192, 193, 194, 195, 196, 197, 198, 199, 200, 201, 202, 203, 204, 205, 206, 207, 208, 209, 176, 177, 178, 179, 180, 181, 182, 183, 184] rfl (by decide +kernel)
set_option maxRecDepth 20000 in
theorem gX11_shutsBy_X5_passDays : GoodIn wsX11_shutsBy (wsV RX11 289 RX5 yX5_passDays wsX5_passDays) := goodIn_app (goodIn_r _ [109, 110, 111, 19] rfl (by decide +kernel)) ggX11_shutsBy_X5_passDays
set_option maxRecDepth 20000 in
theorem ggX11_shutsBy_X11_inLowestTerms : GoodIn wsX11_shutsBy wsX11_inLowestTerms := goodIn_r _ [156, 157, 158, 10, 159] rfl (by decide +kernel)
set_option maxRecDepth 20000 in
theorem gX11_shutsBy_X11_inLowestTerms : GoodIn wsX11_shutsBy (va_wsS RX11 300 yX11_inLowestTerms wsX11_inLowestTerms) := goodIn_app (goodIn_r _ [154, 155, 10] rfl (by decide +kernel)) ggX11_shutsBy_X11_inLowestTerms
set_option maxRecDepth 20000 in
theorem ggX11_closer_X5_look : GoodIn wsX11_closer wsX5_look := goodIn_r _ [11, 12, 13, 14, 15, 16, 17, 10, 18, 19, 20, 21, 22, 23, 24, 25, 26, 27, 28, 29, 30, 31, 32, 33, 34, 35, 36, 37, 38, 39, 40, 41, 42, 43, 44, 45, 46, 47, 48, 49, 50, 51, 52, 53, 54, 55, 56, 57, 58, 59, 60, 61, 62, 63, 64, 65, 66, 67, 68, 69, 70, 71, 72, 73, 74, 75, 76, 77, 78, 79, 80, 81, 82, 83, 84, 85, 86, 87, 88, 89, 90, 91, 92, 93, 94, 95, 96, 97, 98, 99, 181, 182, 183, 184, 185, 186, 187, 188, 189, 190, 191, 192, 193, 194, 161, 162, 163, 164, 165, 166, 167, 168, 169, 195, 196, 197, 198, 199, 200, 201, 170, 171, 172, 173, 174, 175, 176, 177, 178, 179, 180] rfl (by decide +kernel)
set_option maxRecDepth 20000 in
theorem gX11_closer_X5_look : GoodIn wsX11_closer (wsV RX11 262 RX5 yX5_look wsX5_look) := goodIn_app (goodIn_r _ [7, 8, 9, 10] rfl (by decide +kernel)) ggX11_closer_X5_look
set_option maxRecDepth 20000 in
theorem ggX11_closer_X5_passDays : GoodIn wsX11_closer wsX5_passDays := goodIn_r _ [103, 104, 105, 106, 19, 107, 108, 109, 10, 110, 111, 13, 112, 113, 45, 114, 115, 116, 117, 118, 119, 120, 121, 122, 123, 124, 125, 126, 51, 14, 127, 128, 129, 130, 131, 20, 132, 133, 134, 135, 136, 52, 137, 138, 139, 140, 21, 141, 142, 143, 144, 181, 182, 183, 184, 185, 186, 187, 188, 189, 190, 191, 192, 193, 194, 170, 171, 172, 173, 174, 175, 176, 177, 178, 179, 180, 161, 162, 163, 164, 165, 166, 167, 168, 169] rfl (by decide +kernel)
set_option maxRecDepth 20000 in
theorem gX11_closer_X5_passDays : GoodIn wsX11_closer (wsV RX11 289 RX5 yX5_passDays wsX5_passDays) := goodIn_app (goodIn_r _ [100, 101, 102, 10] rfl (by decide +kernel)) ggX11_closer_X5_passDays
set_option maxRecDepth 20000 in
theorem ggX11_soldIn_X11_isKind : GoodIn wsX11_soldIn wsX11_isKind := goodIn_r _ [10, 3, 11, 163, 164, 165, 166, 167, 168, 169, 170, 171, 172, 173, 174, 175, 176, 177, 178, 179, 180, 181, 182, 183, 184, 185, 186, 187] rfl (by decide +kernel)
set_option maxRecDepth 20000 in
theorem gX11_soldIn_X11_isKind : GoodIn wsX11_soldIn (wsV RX11 140 RX11 yX11_isKind wsX11_isKind) := goodIn_app (goodIn_r _ [6, 7, 8, 9] rfl (by decide +kernel)) ggX11_soldIn_X11_isKind
set_option maxRecDepth 20000 in
theorem ggX11_soldIn_X11_chanceRefusal : GoodIn wsX11_soldIn wsX11_chanceRefusal := goodIn_r _ [14] rfl (by decide +kernel)
set_option maxRecDepth 20000 in
theorem gX11_soldIn_X11_chanceRefusal : GoodIn wsX11_soldIn (va_wsS RX11 286 yX11_chanceRefusal wsX11_chanceRefusal) := goodIn_app (goodIn_r _ [12, 13, 9] rfl (by decide +kernel)) ggX11_soldIn_X11_chanceRefusal
set_option maxRecDepth 20000 in
theorem ggX11_soldIn_X5_look : GoodIn wsX11_soldIn wsX5_look := goodIn_r _ [19, 20, 21, 22, 23, 24, 25, 18, 26, 27, 28, 29, 30, 31, 32, 33, 34, 35, 36, 37, 38, 39, 40, 41, 42, 43, 44, 45, 46, 47, 48, 49, 50, 51, 52, 53, 54, 55, 56, 57, 58, 59, 60, 61, 62, 63, 64, 65, 66, 67, 68, 69, 70, 71, 72, 73, 74, 75, 76, 77, 78, 79, 80, 81, 82, 83, 84, 85, 86, 87, 88, 89, 90, 91, 92, 93, 94, 95, 96, 97, 98, 99, 100, 101, 102, 103, 104, 105, 106, 107, 188, 189, 190, 191, 192, 193, 194, 195, 196, 197, 198, 199, 200, 201, 179, 180, 181, 182, 183, 184, 185, 186, 187, 202, 203, 204, 205, 206, 207, 208, 209, 210, 211, 212, 213, 214, 215, 216, 217, 218, 219] rfl (by decide +kernel)
set_option maxRecDepth 20000 in
theorem gX11_soldIn_X5_look : GoodIn wsX11_soldIn (wsV RX11 262 RX5 yX5_look wsX5_look) := goodIn_app (goodIn_r _ [15, 16, 17, 18] rfl (by decide +kernel)) ggX11_soldIn_X5_look
set_option maxRecDepth 20000 in
theorem ggX11_soldIn_X5_passDays : GoodIn wsX11_soldIn wsX5_passDays := goodIn_r _ [111, 112, 113, 114, 27, 115, 116, 117, 18, 118, 119, 21, 120, 121, 53, 122, 123, 124, 125, 126, 127, 128, 129, 130, 131, 132, 133, 134, 59, 22, 135, 136, 137, 138, 139, 28, 140, 141, 142, 143, 144, 60, 145, 146, 147, 148, 29, 149, 150, 151, 152, 188, 189, 190, 191, 192, 193, 194, 195, 196, 197, 198, 199, 200, 201, 209, 210, 211, 212, 213, 214, 215, 216, 217, 218, 219, 179, 180, 181, 182, 183, 184, 185, 186, 187] rfl (by decide +kernel)
set_option maxRecDepth 20000 in
theorem gX11_soldIn_X5_passDays : GoodIn wsX11_soldIn (wsV RX11 289 RX5 yX5_passDays wsX5_passDays) := goodIn_app (goodIn_r _ [108, 109, 110, 18] rfl (by decide +kernel)) ggX11_soldIn_X5_passDays
set_option maxRecDepth 20000 in
theorem ggX11_soldIn_X11_inLowestTerms : GoodIn wsX11_soldIn wsX11_inLowestTerms := goodIn_r _ [159, 160, 161, 9, 162] rfl (by decide +kernel)
set_option maxRecDepth 20000 in
theorem gX11_soldIn_X11_inLowestTerms : GoodIn wsX11_soldIn (va_wsS RX11 300 yX11_inLowestTerms wsX11_inLowestTerms) := goodIn_app (goodIn_r _ [157, 158, 9] rfl (by decide +kernel)) ggX11_soldIn_X11_inLowestTerms
set_option maxRecDepth 20000 in
theorem ggX11_inLowestTerms_X11_commonDivisor : GoodIn wsX11_inLowestTerms wsX11_commonDivisor := goodIn_r _ [4] rfl (by decide +kernel)
set_option maxRecDepth 20000 in
theorem gX11_inLowestTerms_X11_commonDivisor : GoodIn wsX11_inLowestTerms (va_wsS RX11 315 yX11_commonDivisor wsX11_commonDivisor) := goodIn_app (goodIn_r _ [1, 2, 3] rfl (by decide +kernel)) ggX11_inLowestTerms_X11_commonDivisor
set_option maxRecDepth 20000 in
theorem ggX11_hides_X9_isShut : GoodIn wsX11_hides wsX9_isShut := goodIn_r _ [14, 15, 16, 17, 18, 19, 13, 20, 21, 181, 182, 183, 184, 185, 186, 187, 188, 189] rfl (by decide +kernel)
set_option maxRecDepth 20000 in
theorem gX11_hides_X9_isShut : GoodIn wsX11_hides (wsV RX11 320 RX9 yX9_isShut wsX9_isShut) := goodIn_app (goodIn_r _ [10, 11, 12, 13] rfl (by decide +kernel)) ggX11_hides_X9_isShut
set_option maxRecDepth 20000 in
theorem ggX11_hides_X9_everyKind : GoodIn wsX11_hides wsX9_everyKind := goodIn_r _ [20, 21, 181, 182, 183, 184, 185, 186, 187, 188, 189] rfl (by decide +kernel)
set_option maxRecDepth 20000 in
theorem gX11_hides_X9_everyKind : GoodIn wsX11_hides (wsV RX11 323 RX9 yX9_everyKind wsX9_everyKind) := goodIn_app (goodIn_r _ [22, 18, 19, 13] rfl (by decide +kernel)) ggX11_hides_X9_everyKind
set_option maxRecDepth 20000 in
theorem ggX11_hides_X5_look : GoodIn wsX11_hides wsX5_look := goodIn_r _ [39, 40, 41, 42, 43, 44, 45, 38, 46, 47, 48, 49, 50, 51, 52, 18, 19, 13, 20, 21, 53, 54, 55, 56, 57, 58, 59, 60, 61, 62, 63, 64, 65, 66, 67, 68, 69, 70, 71, 72, 73, 74, 75, 76, 77, 78, 79, 80, 81, 8, 82, 83, 29, 30, 31, 32, 33, 34, 84, 85, 86, 87, 88, 89, 90, 91, 92, 93, 94, 95, 96, 97, 98, 99, 100, 101, 102, 103, 104, 105, 106, 107, 108, 109, 110, 111, 112, 113, 114, 115, 190, 191, 192, 193, 194, 195, 196, 197, 198, 199, 200, 201, 202, 203, 181, 182, 183, 184, 185, 186, 187, 188, 189, 204, 205, 206, 207, 208, 209, 210, 211, 212, 213, 214, 215, 216, 217, 218, 219, 220, 221] rfl (by decide +kernel)
set_option maxRecDepth 20000 in
theorem gX11_hides_X5_look : GoodIn wsX11_hides (wsV RX11 262 RX5 yX5_look wsX5_look) := goodIn_app (goodIn_r _ [35, 36, 37, 38] rfl (by decide +kernel)) ggX11_hides_X5_look
set_option maxRecDepth 20000 in
theorem ggX11_hides_X5_passDays : GoodIn wsX11_hides wsX5_passDays := goodIn_r _ [119, 120, 121, 122, 47, 123, 124, 125, 38, 126, 127, 41, 128, 129, 68, 130, 131, 132, 133, 134, 135, 136, 137, 138, 139, 140, 141, 142, 74, 42, 143, 144, 145, 146, 147, 48, 148, 149, 150, 151, 152, 75, 153, 154, 155, 156, 49, 157, 158, 159, 160, 190, 191, 192, 193, 194, 195, 196, 197, 198, 199, 200, 201, 202, 203, 211, 212, 213, 214, 215, 216, 217, 218, 219, 220, 221, 181, 182, 183, 184, 185, 186, 187, 188, 189] rfl (by decide +kernel)
set_option maxRecDepth 20000 in
theorem gX11_hides_X5_passDays : GoodIn wsX11_hides (wsV RX11 289 RX5 yX5_passDays wsX5_passDays) := goodIn_app (goodIn_r _ [116, 117, 118, 38] rfl (by decide +kernel)) ggX11_hides_X5_passDays
set_option maxRecDepth 20000 in
theorem ggX11_hides_X5_openWays : GoodIn wsX11_hides wsX5_openWays := goodIn_r _ [164, 41, 42, 127, 153, 154, 155, 38, 156, 49, 190, 191, 192, 193, 194, 195, 196, 197, 198, 199, 200, 201, 202, 203] rfl (by decide +kernel)
set_option maxRecDepth 20000 in
theorem gX11_hides_X5_openWays : GoodIn wsX11_hides (wsV RX11 292 RX5 yX5_openWays wsX5_openWays) := goodIn_app (goodIn_r _ [161, 162, 163, 38] rfl (by decide +kernel)) ggX11_hides_X5_openWays
set_option maxRecDepth 20000 in
theorem ggX11_hides_J6_bitCount_0f7a4 : GoodIn wsX11_hides wsJ6_bitCount_0f7a4 := goodIn_r _ [31, 32, 33, 34] rfl (by decide +kernel)
set_option maxRecDepth 20000 in
theorem gX11_hides_J6_bitCount_0f7a4 : GoodIn wsX11_hides (va_wsS RX11 333 yJ6_bitCount_0f7a4 wsJ6_bitCount_0f7a4) := goodIn_app (goodIn_r _ [28, 29, 30] rfl (by decide +kernel)) ggX11_hides_J6_bitCount_0f7a4
set_option maxRecDepth 20000 in
theorem ggX11_rota_X9_isShut : GoodIn wsX11_rota wsX9_isShut := goodIn_r _ [10, 11, 12, 13, 14, 15, 9, 16, 17, 154, 155, 156, 157, 158, 159, 160, 161, 162] rfl (by decide +kernel)
set_option maxRecDepth 20000 in
theorem gX11_rota_X9_isShut : GoodIn wsX11_rota (wsV RX11 320 RX9 yX9_isShut wsX9_isShut) := goodIn_app (goodIn_r _ [6, 7, 8, 9] rfl (by decide +kernel)) ggX11_rota_X9_isShut
set_option maxRecDepth 20000 in
theorem ggX11_rota_X5_look : GoodIn wsX11_rota wsX5_look := goodIn_r _ [22, 23, 24, 25, 26, 27, 28, 21, 29, 30, 31, 32, 33, 34, 35, 14, 15, 9, 16, 17, 36, 37, 38, 39, 40, 41, 42, 43, 44, 45, 46, 47, 48, 49, 50, 51, 52, 53, 54, 55, 56, 57, 58, 59, 60, 61, 62, 63, 64, 65, 66, 67, 68, 69, 70, 71, 72, 73, 74, 75, 76, 77, 78, 79, 80, 81, 82, 83, 84, 85, 86, 87, 88, 89, 90, 91, 92, 93, 94, 95, 96, 97, 98, 99, 100, 101, 102, 103, 104, 105, 163, 164, 165, 166, 167, 168, 169, 170, 171, 172, 173, 174, 175, 176, 154, 155, 156, 157, 158, 159, 160, 161, 162, 177, 178, 179, 180, 181, 182, 183, 184, 185, 186, 187, 188, 189, 190, 191, 192, 193, 194] rfl (by decide +kernel)
set_option maxRecDepth 20000 in
theorem gX11_rota_X5_look : GoodIn wsX11_rota (wsV RX11 262 RX5 yX5_look wsX5_look) := goodIn_app (goodIn_r _ [18, 19, 20, 21] rfl (by decide +kernel)) ggX11_rota_X5_look
set_option maxRecDepth 20000 in
theorem ggX11_rota_X9_everyKind : GoodIn wsX11_rota wsX9_everyKind := goodIn_r _ [16, 17, 154, 155, 156, 157, 158, 159, 160, 161, 162] rfl (by decide +kernel)
set_option maxRecDepth 20000 in
theorem gX11_rota_X9_everyKind : GoodIn wsX11_rota (wsV RX11 323 RX9 yX9_everyKind wsX9_everyKind) := goodIn_app (goodIn_r _ [114, 14, 15, 9] rfl (by decide +kernel)) ggX11_rota_X9_everyKind
set_option maxRecDepth 20000 in
theorem ggX11_rota_X5_shortest : GoodIn wsX11_rota wsX5_shortest := goodIn_r _ [124, 30, 57, 125, 126, 127, 21, 128, 25, 24, 23, 129, 130, 131, 132, 133, 32, 134, 135, 136, 137, 110, 111, 112, 113, 58, 163, 164, 165, 166, 167, 168, 169, 170, 171, 172, 173, 174, 175, 176, 184, 185, 186, 187, 188, 189, 190, 191, 192, 193, 194] rfl (by decide +kernel)
set_option maxRecDepth 20000 in
theorem gX11_rota_X5_shortest : GoodIn wsX11_rota (wsV RX11 266 RX5 yX5_shortest wsX5_shortest) := goodIn_app (goodIn_r _ [121, 122, 123, 21] rfl (by decide +kernel)) ggX11_rota_X5_shortest
set_option maxRecDepth 20000 in
theorem ggX11_earns_X11_chanceRefusal : GoodIn wsX11_earns wsX11_chanceRefusal := goodIn_r _ [10] rfl (by decide +kernel)
set_option maxRecDepth 20000 in
theorem gX11_earns_X11_chanceRefusal : GoodIn wsX11_earns (va_wsS RX11 286 yX11_chanceRefusal wsX11_chanceRefusal) := goodIn_app (goodIn_r _ [7, 8, 9] rfl (by decide +kernel)) ggX11_earns_X11_chanceRefusal
set_option maxRecDepth 20000 in
theorem ggX11_earns_X5_look : GoodIn wsX11_earns wsX5_look := goodIn_r _ [15, 16, 17, 18, 19, 20, 21, 14, 22, 23, 24, 25, 26, 27, 28, 29, 30, 31, 32, 33, 34, 35, 36, 37, 38, 39, 40, 41, 42, 43, 44, 45, 46, 47, 48, 49, 50, 51, 52, 53, 54, 55, 56, 57, 58, 59, 60, 61, 62, 63, 64, 65, 66, 67, 68, 69, 70, 71, 72, 73, 74, 75, 76, 77, 78, 79, 80, 81, 82, 83, 84, 85, 86, 87, 88, 89, 90, 91, 92, 93, 94, 95, 96, 97, 98, 99, 100, 101, 102, 103, 180, 181, 182, 183, 184, 185, 186, 187, 188, 189, 190, 191, 192, 193, 171, 172, 173, 174, 175, 176, 177, 178, 179, 194, 195, 196, 197, 198, 199, 200, 201, 202, 203, 204, 205, 206, 207, 208, 209, 210, 211] rfl (by decide +kernel)
set_option maxRecDepth 20000 in
theorem gX11_earns_X5_look : GoodIn wsX11_earns (wsV RX11 262 RX5 yX5_look wsX5_look) := goodIn_app (goodIn_r _ [11, 12, 13, 14] rfl (by decide +kernel)) ggX11_earns_X5_look
set_option maxRecDepth 20000 in
theorem ggX11_earns_X5_passDays : GoodIn wsX11_earns wsX5_passDays := goodIn_r _ [107, 108, 109, 110, 23, 111, 112, 113, 14, 114, 115, 17, 116, 117, 49, 118, 119, 120, 121, 122, 123, 124, 125, 126, 127, 128, 129, 130, 55, 18, 131, 132, 133, 134, 135, 24, 136, 137, 138, 139, 140, 56, 141, 142, 143, 144, 25, 145, 146, 147, 148, 180, 181, 182, 183, 184, 185, 186, 187, 188, 189, 190, 191, 192, 193, 201, 202, 203, 204, 205, 206, 207, 208, 209, 210, 211, 171, 172, 173, 174, 175, 176, 177, 178, 179] rfl (by decide +kernel)
set_option maxRecDepth 20000 in
theorem gX11_earns_X5_passDays : GoodIn wsX11_earns (wsV RX11 289 RX5 yX5_passDays wsX5_passDays) := goodIn_app (goodIn_r _ [104, 105, 106, 14] rfl (by decide +kernel)) ggX11_earns_X5_passDays
set_option maxRecDepth 20000 in
theorem ggX11_earns_X11_inLowestTerms : GoodIn wsX11_earns wsX11_inLowestTerms := goodIn_r _ [151, 152, 153, 9, 154] rfl (by decide +kernel)
set_option maxRecDepth 20000 in
theorem gX11_earns_X11_inLowestTerms : GoodIn wsX11_earns (va_wsS RX11 300 yX11_inLowestTerms wsX11_inLowestTerms) := goodIn_app (goodIn_r _ [149, 150, 9] rfl (by decide +kernel)) ggX11_earns_X11_inLowestTerms
set_option maxRecDepth 20000 in
theorem ggX11_bestPrice_X11_isKind : GoodIn wsX11_bestPrice wsX11_isKind := goodIn_r _ [17, 1, 18, 173, 174, 175, 176, 177, 178, 179, 180, 181, 182, 183, 184, 185, 186, 187, 188, 189, 190, 191, 192, 193, 194, 195, 196, 197] rfl (by decide +kernel)
set_option maxRecDepth 20000 in
theorem gX11_bestPrice_X11_isKind : GoodIn wsX11_bestPrice (wsV RX11 140 RX11 yX11_isKind wsX11_isKind) := goodIn_app (goodIn_r _ [13, 14, 15, 16] rfl (by decide +kernel)) ggX11_bestPrice_X11_isKind
set_option maxRecDepth 20000 in
theorem ggX11_bestPrice_X9_isShut : GoodIn wsX11_bestPrice wsX9_isShut := goodIn_r _ [23, 24, 25, 26, 27, 28, 22, 29, 30, 189, 190, 191, 192, 193, 194, 195, 196, 197] rfl (by decide +kernel)
set_option maxRecDepth 20000 in
theorem gX11_bestPrice_X9_isShut : GoodIn wsX11_bestPrice (wsV RX11 320 RX9 yX9_isShut wsX9_isShut) := goodIn_app (goodIn_r _ [19, 20, 21, 22] rfl (by decide +kernel)) ggX11_bestPrice_X9_isShut
set_option maxRecDepth 20000 in
theorem ggX11_bestPrice_X9_copyFrom : GoodIn wsX11_bestPrice wsX9_copyFrom := goodIn_r _ [34, 30, 35, 36, 25, 24, 37, 38, 39, 40, 189, 190, 191, 192, 193, 194, 195, 196, 197] rfl (by decide +kernel)
set_option maxRecDepth 20000 in
theorem gX11_bestPrice_X9_copyFrom : GoodIn wsX11_bestPrice (wsV RX11 124 RX9 yX9_copyFrom wsX9_copyFrom) := goodIn_app (goodIn_r _ [31, 32, 33, 22] rfl (by decide +kernel)) ggX11_bestPrice_X9_copyFrom
set_option maxRecDepth 20000 in
theorem ggX11_bestPrice_X5_look : GoodIn wsX11_bestPrice wsX5_look := goodIn_r _ [45, 46, 47, 48, 49, 50, 51, 44, 52, 53, 54, 55, 56, 57, 58, 27, 28, 22, 29, 30, 59, 60, 61, 62, 63, 64, 65, 66, 67, 68, 69, 70, 71, 72, 73, 74, 75, 76, 77, 78, 79, 80, 81, 82, 83, 84, 85, 86, 87, 11, 88, 89, 90, 91, 92, 93, 94, 95, 96, 97, 98, 99, 100, 101, 102, 103, 104, 105, 106, 107, 108, 109, 110, 111, 112, 113, 114, 115, 116, 117, 118, 119, 120, 121, 122, 123, 124, 125, 126, 127, 198, 199, 200, 201, 202, 203, 204, 205, 206, 207, 208, 209, 210, 211, 189, 190, 191, 192, 193, 194, 195, 196, 197, 212, 213, 214, 215, 216, 217, 218, 219, 220, 221, 222, 223, 224, 225, 226, 227, 228, 229] rfl (by decide +kernel)
set_option maxRecDepth 20000 in
theorem gX11_bestPrice_X5_look : GoodIn wsX11_bestPrice (wsV RX11 262 RX5 yX5_look wsX5_look) := goodIn_app (goodIn_r _ [41, 42, 43, 44] rfl (by decide +kernel)) ggX11_bestPrice_X5_look
set_option maxRecDepth 20000 in
theorem ggX11_bestPrice_X5_passDays : GoodIn wsX11_bestPrice wsX5_passDays := goodIn_r _ [131, 132, 133, 134, 53, 135, 136, 137, 44, 138, 139, 47, 140, 141, 74, 142, 143, 144, 145, 146, 147, 148, 149, 150, 151, 152, 153, 154, 80, 48, 155, 156, 157, 158, 159, 54, 160, 161, 162, 163, 164, 81, 165, 166, 167, 168, 55, 169, 170, 171, 172, 198, 199, 200, 201, 202, 203, 204, 205, 206, 207, 208, 209, 210, 211, 219, 220, 221, 222, 223, 224, 225, 226, 227, 228, 229, 189, 190, 191, 192, 193, 194, 195, 196, 197] rfl (by decide +kernel)
set_option maxRecDepth 20000 in
theorem gX11_bestPrice_X5_passDays : GoodIn wsX11_bestPrice (wsV RX11 289 RX5 yX5_passDays wsX5_passDays) := goodIn_app (goodIn_r _ [128, 129, 130, 44] rfl (by decide +kernel)) ggX11_bestPrice_X5_passDays
set_option maxRecDepth 20000 in
theorem ggX11_seen_X11_seenRefusal : GoodIn wsX11_seen wsX11_seenRefusal := goodIn_r _ [11, 5, 12, 13, 14, 10, 15, 16, 17, 18, 19, 20, 21, 22, 23, 24, 25, 26, 27, 28, 29, 30, 31, 32, 33, 34, 35, 36, 37, 38, 39, 40, 41, 42, 43, 44, 45, 46, 2, 47, 48, 3, 49, 160, 161, 162, 163, 164, 165, 166, 167, 168, 169, 170, 171, 172, 173, 174, 175, 181, 182, 183, 184, 185, 186, 187, 188, 189, 190, 191, 192, 193, 194, 195, 196, 197, 198, 199, 200, 201, 202, 203] rfl (by decide +kernel)
set_option maxRecDepth 20000 in
theorem gX11_seen_X11_seenRefusal : GoodIn wsX11_seen (wsV RX11 344 RX11 yX11_seenRefusal wsX11_seenRefusal) := goodIn_app (goodIn_r _ [7, 8, 9, 10] rfl (by decide +kernel)) ggX11_seen_X11_seenRefusal
set_option maxRecDepth 20000 in
theorem ggX11_sureGone_X11_seenRefusal : GoodIn wsX11_sureGone wsX11_seenRefusal := goodIn_r _ [12, 5, 13, 14, 15, 11, 16, 17, 18, 19, 20, 21, 22, 23, 24, 25, 26, 27, 28, 29, 30, 31, 32, 33, 34, 35, 36, 37, 38, 39, 40, 41, 42, 43, 44, 45, 46, 47, 2, 48, 49, 3, 50, 161, 162, 163, 164, 165, 166, 167, 168, 169, 170, 171, 172, 173, 174, 175, 176, 182, 183, 184, 185, 186, 187, 188, 189, 190, 191, 192, 193, 194, 195, 196, 197, 198, 199, 200, 201, 202, 203, 204] rfl (by decide +kernel)
set_option maxRecDepth 20000 in
theorem gX11_sureGone_X11_seenRefusal : GoodIn wsX11_sureGone (wsV RX11 344 RX11 yX11_seenRefusal wsX11_seenRefusal) := goodIn_app (goodIn_r _ [8, 9, 10, 11] rfl (by decide +kernel)) ggX11_sureGone_X11_seenRefusal
set_option maxRecDepth 20000 in
theorem ggX11_ask_X11_seenRefusal : GoodIn wsX11_ask wsX11_seenRefusal := goodIn_r _ [11, 5, 12, 13, 14, 10, 15, 16, 17, 18, 19, 20, 21, 22, 23, 24, 25, 26, 27, 28, 29, 30, 31, 32, 33, 34, 35, 36, 37, 38, 39, 40, 41, 42, 43, 44, 45, 46, 2, 47, 48, 3, 49, 178, 179, 180, 181, 182, 183, 184, 185, 186, 187, 188, 189, 190, 191, 192, 193, 199, 200, 201, 202, 203, 204, 205, 206, 207, 208, 209, 210, 211, 212, 213, 214, 215, 216, 217, 218, 219, 220, 221] rfl (by decide +kernel)
set_option maxRecDepth 20000 in
theorem gX11_ask_X11_seenRefusal : GoodIn wsX11_ask (wsV RX11 344 RX11 yX11_seenRefusal wsX11_seenRefusal) := goodIn_app (goodIn_r _ [7, 8, 9, 10] rfl (by decide +kernel)) ggX11_ask_X11_seenRefusal
set_option maxRecDepth 20000 in
theorem ggX11_seenRefusal_X11_trayRefusal : GoodIn wsX11_seenRefusal wsX11_trayRefusal := goodIn_r _ [6, 1, 7, 8, 5, 9, 10, 11, 12, 13, 14, 15, 43, 44, 45, 46, 47, 48, 49, 50, 51, 52, 53, 54, 55, 56, 57, 58, 59, 60, 61] rfl (by decide +kernel)
set_option maxRecDepth 20000 in
theorem gX11_seenRefusal_X11_trayRefusal : GoodIn wsX11_seenRefusal (wsV RX11 255 RX11 yX11_trayRefusal wsX11_trayRefusal) := goodIn_app (goodIn_r _ [2, 3, 4, 5] rfl (by decide +kernel)) ggX11_seenRefusal_X11_trayRefusal
set_option maxRecDepth 20000 in
theorem ggX11_came_X11_cameRefusal : GoodIn wsX11_came wsX11_cameRefusal := goodIn_r _ [11, 6, 12, 3, 13, 14, 15, 16, 10, 17, 18, 19, 20, 21, 22, 23, 24, 25, 26, 27, 28, 29, 30, 31, 32, 33, 34, 35, 36, 37, 38, 39, 40, 41, 42, 43, 167, 168, 169, 170, 171, 172, 173, 174, 175, 176, 177, 178, 179, 180, 181, 182, 183, 184, 185, 186, 187, 188, 189, 190, 191, 192, 193, 194] rfl (by decide +kernel)
set_option maxRecDepth 20000 in
theorem gX11_came_X11_cameRefusal : GoodIn wsX11_came (wsV RX11 369 RX11 yX11_cameRefusal wsX11_cameRefusal) := goodIn_app (goodIn_r _ [7, 8, 9, 10] rfl (by decide +kernel)) ggX11_came_X11_cameRefusal
set_option maxRecDepth 20000 in
theorem ggX11_came_X5_look : GoodIn wsX11_came wsX5_look := goodIn_r _ [48, 49, 50, 51, 52, 53, 54, 47, 55, 56, 57, 58, 59, 60, 61, 62, 63, 64, 65, 66, 67, 68, 69, 70, 71, 72, 73, 74, 75, 76, 77, 78, 79, 80, 81, 82, 83, 84, 85, 86, 87, 88, 89, 90, 91, 92, 93, 94, 32, 33, 34, 95, 96, 97, 98, 99, 100, 101, 102, 103, 104, 105, 106, 107, 108, 109, 110, 111, 112, 113, 114, 115, 116, 117, 118, 119, 120, 121, 122, 123, 124, 125, 126, 127, 128, 129, 130, 131, 132, 133, 195, 196, 197, 198, 199, 200, 201, 202, 203, 204, 205, 206, 207, 208, 183, 184, 185, 186, 187, 188, 189, 190, 191, 209, 210, 211, 212, 213, 214, 215, 216, 217, 218, 219, 220, 221, 222, 223, 224, 225, 226] rfl (by decide +kernel)
set_option maxRecDepth 20000 in
theorem gX11_came_X5_look : GoodIn wsX11_came (wsV RX11 262 RX5 yX5_look wsX5_look) := goodIn_app (goodIn_r _ [44, 45, 46, 47] rfl (by decide +kernel)) ggX11_came_X5_look
set_option maxRecDepth 20000 in
theorem ggX11_who_X11_cameRefusal : GoodIn wsX11_who wsX11_cameRefusal := goodIn_r _ [11, 1, 12, 4, 13, 14, 15, 16, 10, 17, 18, 19, 20, 21, 22, 23, 24, 25, 26, 27, 28, 29, 30, 31, 32, 33, 34, 35, 36, 37, 38, 39, 40, 41, 42, 43, 191, 192, 193, 194, 195, 196, 197, 198, 199, 200, 201, 202, 203, 204, 205, 206, 207, 208, 209, 210, 211, 212, 213, 214, 215, 216, 217, 218] rfl (by decide +kernel)
set_option maxRecDepth 20000 in
theorem gX11_who_X11_cameRefusal : GoodIn wsX11_who (wsV RX11 369 RX11 yX11_cameRefusal wsX11_cameRefusal) := goodIn_app (goodIn_r _ [7, 8, 9, 10] rfl (by decide +kernel)) ggX11_who_X11_cameRefusal
set_option maxRecDepth 20000 in
theorem ggX11_who_X5_look : GoodIn wsX11_who wsX5_look := goodIn_r _ [49, 50, 51, 52, 53, 54, 55, 48, 56, 57, 58, 59, 60, 61, 62, 63, 64, 65, 66, 67, 68, 69, 70, 71, 72, 73, 74, 75, 76, 77, 78, 79, 80, 81, 82, 83, 84, 85, 86, 87, 88, 89, 90, 91, 92, 93, 94, 95, 32, 33, 34, 96, 97, 98, 99, 100, 101, 102, 103, 104, 105, 106, 107, 108, 109, 110, 111, 112, 113, 114, 115, 116, 117, 118, 119, 120, 121, 122, 123, 124, 125, 126, 127, 128, 129, 130, 131, 132, 133, 134, 219, 220, 221, 222, 223, 224, 225, 226, 227, 228, 229, 230, 231, 232, 207, 208, 209, 210, 211, 212, 213, 214, 215, 233, 234, 235, 236, 237, 238, 239, 240, 241, 242, 243, 244, 245, 246, 247, 248, 249, 250] rfl (by decide +kernel)
set_option maxRecDepth 20000 in
theorem gX11_who_X5_look : GoodIn wsX11_who (wsV RX11 262 RX5 yX5_look wsX5_look) := goodIn_app (goodIn_r _ [45, 46, 47, 48] rfl (by decide +kernel)) ggX11_who_X5_look
set_option maxRecDepth 20000 in
theorem ggX11_cameRefusal_X11_trayRefusal : GoodIn wsX11_cameRefusal wsX11_trayRefusal := goodIn_r _ [9, 1, 10, 11, 8, 12, 13, 14, 15, 16, 17, 18, 36, 37, 38, 39, 40, 41, 42, 43, 44, 45, 46, 47, 48, 49, 50, 51, 61, 62, 63] rfl (by decide +kernel)
set_option maxRecDepth 20000 in
theorem gX11_cameRefusal_X11_trayRefusal : GoodIn wsX11_cameRefusal (wsV RX11 255 RX11 yX11_trayRefusal wsX11_trayRefusal) := goodIn_app (goodIn_r _ [5, 6, 7, 8] rfl (by decide +kernel)) ggX11_cameRefusal_X11_trayRefusal
set_option maxRecDepth 20000 in
theorem ggX11_trayRefusal_X11_isTray : GoodIn wsX11_trayRefusal wsX11_isTray := goodIn_r _ [5] rfl (by decide +kernel)
set_option maxRecDepth 20000 in
theorem gX11_trayRefusal_X11_isTray : GoodIn wsX11_trayRefusal (va_wsS RX11 232 yX11_isTray wsX11_isTray) := goodIn_app (goodIn_r _ [2, 3, 4] rfl (by decide +kernel)) ggX11_trayRefusal_X11_isTray
set_option maxRecDepth 20000 in
theorem ggX11_trayRefusal_X10_isMissing : GoodIn wsX11_trayRefusal wsX10_isMissing := goodIn_r _ [10, 11, 28, 29, 30] rfl (by decide +kernel)
set_option maxRecDepth 20000 in
theorem gX11_trayRefusal_X10_isMissing : GoodIn wsX11_trayRefusal (wsV RX11 235 RX10 yX10_isMissing wsX10_isMissing) := goodIn_app (goodIn_r _ [6, 7, 8, 9] rfl (by decide +kernel)) ggX11_trayRefusal_X10_isMissing
set_option maxRecDepth 20000 in
theorem ggX11_numbers_X11_isTray : GoodIn wsX11_numbers wsX11_isTray := goodIn_r _ [5] rfl (by decide +kernel)
set_option maxRecDepth 20000 in
theorem gX11_numbers_X11_isTray : GoodIn wsX11_numbers (va_wsS RX11 232 yX11_isTray wsX11_isTray) := goodIn_app (goodIn_r _ [2, 3, 4] rfl (by decide +kernel)) ggX11_numbers_X11_isTray
set_option maxRecDepth 20000 in
theorem ggX11_numbers_X10_layOut : GoodIn wsX11_numbers wsX10_layOut := goodIn_r _ [10, 11, 12, 13, 14, 15, 16, 17, 34, 35, 36] rfl (by decide +kernel)
set_option maxRecDepth 20000 in
theorem gX11_numbers_X10_layOut : GoodIn wsX11_numbers (wsV RX11 383 RX10 yX10_layOut wsX10_layOut) := goodIn_app (goodIn_r _ [6, 7, 8, 9] rfl (by decide +kernel)) ggX11_numbers_X10_layOut
set_option maxRecDepth 20000 in
theorem ggX11_write_X11_trayRefusal : GoodIn wsX11_write wsX11_trayRefusal := goodIn_r _ [7, 1, 8, 9, 6, 10, 11, 12, 13, 14, 15, 16, 36, 37, 38, 39, 40, 41, 42, 43, 44, 45, 46, 47, 48, 49, 50, 51, 52, 53, 54] rfl (by decide +kernel)
set_option maxRecDepth 20000 in
theorem gX11_write_X11_trayRefusal : GoodIn wsX11_write (wsV RX11 255 RX11 yX11_trayRefusal wsX11_trayRefusal) := goodIn_app (goodIn_r _ [3, 4, 5, 6] rfl (by decide +kernel)) ggX11_write_X11_trayRefusal
set_option maxRecDepth 20000 in
theorem ggX11_lists_X11_trayRefusal : GoodIn wsX11_lists wsX11_trayRefusal := goodIn_r _ [14, 5, 15, 16, 13, 17, 18, 19, 20, 21, 22, 23, 164, 165, 166, 167, 168, 169, 170, 171, 172, 173, 174, 175, 176, 177, 178, 179, 189, 190, 191] rfl (by decide +kernel)
set_option maxRecDepth 20000 in
theorem gX11_lists_X11_trayRefusal : GoodIn wsX11_lists (wsV RX11 255 RX11 yX11_trayRefusal wsX11_trayRefusal) := goodIn_app (goodIn_r _ [10, 11, 12, 13] rfl (by decide +kernel)) ggX11_lists_X11_trayRefusal
set_option maxRecDepth 20000 in
theorem ggX11_lists_X5_look : GoodIn wsX11_lists wsX5_look := goodIn_r _ [28, 29, 30, 31, 32, 33, 34, 27, 35, 36, 37, 38, 39, 40, 41, 42, 43, 44, 45, 46, 47, 48, 49, 50, 51, 52, 53, 54, 55, 56, 57, 58, 59, 60, 61, 62, 63, 64, 65, 66, 67, 68, 69, 70, 71, 72, 73, 74, 75, 8, 76, 77, 78, 79, 80, 81, 82, 83, 84, 85, 86, 87, 88, 89, 90, 91, 92, 93, 94, 95, 96, 97, 98, 99, 100, 101, 102, 103, 104, 105, 106, 107, 108, 109, 110, 111, 112, 113, 114, 115, 192, 193, 194, 195, 196, 197, 198, 199, 200, 201, 202, 203, 204, 205, 180, 181, 182, 183, 184, 185, 186, 187, 188, 206, 207, 208, 209, 210, 211, 212, 213, 214, 215, 216, 217, 218, 219, 220, 221, 222, 223] rfl (by decide +kernel)
set_option maxRecDepth 20000 in
theorem gX11_lists_X5_look : GoodIn wsX11_lists (wsV RX11 262 RX5 yX5_look wsX5_look) := goodIn_app (goodIn_r _ [24, 25, 26, 27] rfl (by decide +kernel)) ggX11_lists_X5_look
set_option maxRecDepth 20000 in
theorem ggX11_lists_X5_shortest : GoodIn wsX11_lists wsX5_shortest := goodIn_r _ [119, 36, 68, 120, 121, 122, 27, 123, 31, 30, 29, 124, 125, 126, 127, 128, 38, 129, 130, 131, 132, 133, 134, 135, 136, 69, 192, 193, 194, 195, 196, 197, 198, 199, 200, 201, 202, 203, 204, 205, 213, 214, 215, 216, 217, 218, 219, 220, 221, 222, 223] rfl (by decide +kernel)
set_option maxRecDepth 20000 in
theorem gX11_lists_X5_shortest : GoodIn wsX11_lists (wsV RX11 266 RX5 yX5_shortest wsX5_shortest) := goodIn_app (goodIn_r _ [116, 117, 118, 27] rfl (by decide +kernel)) ggX11_lists_X5_shortest
set_option maxRecDepth 20000 in
theorem ggX11_image_X7_copyFrom : GoodIn wsX11_image wsX7_copyFrom := goodIn_r _ [11, 12, 13, 14, 15, 16, 17, 18, 19, 20, 21, 22, 56, 57, 58, 59, 60, 61, 62, 63, 64, 65, 66] rfl (by decide +kernel)
set_option maxRecDepth 20000 in
theorem gX11_image_X7_copyFrom : GoodIn wsX11_image (wsV RX11 398 RX7 yX7_copyFrom wsX7_copyFrom) := goodIn_app (goodIn_r _ [7, 8, 9, 10] rfl (by decide +kernel)) ggX11_image_X7_copyFrom
set_option maxRecDepth 20000 in
theorem ggX11_image_X9_copyFrom : GoodIn wsX11_image wsX9_copyFrom := goodIn_r _ [27, 28, 29, 30, 31, 32, 33, 34, 35, 36, 67, 68, 69, 70, 71, 72, 73, 74, 75] rfl (by decide +kernel)
set_option maxRecDepth 20000 in
theorem gX11_image_X9_copyFrom : GoodIn wsX11_image (wsV RX11 124 RX9 yX9_copyFrom wsX9_copyFrom) := goodIn_app (goodIn_r _ [23, 24, 25, 26] rfl (by decide +kernel)) ggX11_image_X9_copyFrom
set_option maxRecDepth 20000 in
theorem ggX11_restore_X7_copyFrom : GoodIn wsX11_restore wsX7_copyFrom := goodIn_r _ [11, 12, 13, 14, 15, 16, 17, 18, 19, 20, 21, 22, 79, 80, 81, 82, 83, 84, 85, 86, 87, 88, 89] rfl (by decide +kernel)
set_option maxRecDepth 20000 in
theorem gX11_restore_X7_copyFrom : GoodIn wsX11_restore (wsV RX11 398 RX7 yX7_copyFrom wsX7_copyFrom) := goodIn_app (goodIn_r _ [7, 8, 9, 10] rfl (by decide +kernel)) ggX11_restore_X7_copyFrom
set_option maxRecDepth 20000 in
theorem ggX11_restore_X9_copyFrom : GoodIn wsX11_restore wsX9_copyFrom := goodIn_r _ [27, 28, 29, 30, 31, 32, 33, 34, 35, 36, 90, 91, 92, 93, 94, 95, 96, 97, 98] rfl (by decide +kernel)
set_option maxRecDepth 20000 in
theorem gX11_restore_X9_copyFrom : GoodIn wsX11_restore (wsV RX11 124 RX9 yX9_copyFrom wsX9_copyFrom) := goodIn_app (goodIn_r _ [23, 24, 25, 26] rfl (by decide +kernel)) ggX11_restore_X9_copyFrom
set_option maxRecDepth 20000 in
theorem ggX11_count_X9_isShut : GoodIn wsX11_count wsX9_isShut := goodIn_r _ [18, 19, 20, 21, 22, 23, 17, 24, 25, 49, 50, 51, 52, 53, 54, 55, 56, 57] rfl (by decide +kernel)
set_option maxRecDepth 20000 in
theorem gX11_count_X9_isShut : GoodIn wsX11_count (wsV RX11 320 RX9 yX9_isShut wsX9_isShut) := goodIn_app (goodIn_r _ [14, 15, 16, 17] rfl (by decide +kernel)) ggX11_count_X9_isShut
set_option maxRecDepth 20000 in
theorem ggX11_count_X7_together : GoodIn wsX11_count wsX7_together := goodIn_r _ [30, 31, 32, 58, 59, 60, 61, 62, 63, 64, 65, 66, 67, 68] rfl (by decide +kernel)
set_option maxRecDepth 20000 in
theorem gX11_count_X7_together : GoodIn wsX11_count (wsV RX11 404 RX7 yX7_together wsX7_together) := goodIn_app (goodIn_r _ [26, 27, 28, 29] rfl (by decide +kernel)) ggX11_count_X7_together
set_option maxRecDepth 20000 in
theorem ggX12_next_X12_see : GoodIn wsX12_next wsX12_see := goodIn_r _ [10, 3, 11, 71, 72, 73, 74, 75, 76, 77, 78, 79, 80, 81, 82, 83, 84, 85, 86, 87, 88, 89, 90, 91, 92, 93, 94, 95, 96, 97, 98, 99, 100, 101, 102] rfl (by decide +kernel)
set_option maxRecDepth 20000 in
theorem gX12_next_X12_see : GoodIn wsX12_next (wsV RX12 104 RX12 yX12_see wsX12_see) := goodIn_app (goodIn_r _ [6, 7, 8, 9] rfl (by decide +kernel)) ggX12_next_X12_see
set_option maxRecDepth 20000 in
theorem ggX12_eats_X12_is : GoodIn wsX12_eats wsX12_is := goodIn_r _ [5, 6, 7, 80, 81, 82, 83, 84, 85, 86, 87, 88, 89, 90, 91, 92, 93, 94, 95, 96, 97, 98, 99, 100, 101, 102, 103, 104, 105, 106, 107, 108, 109, 110, 111] rfl (by decide +kernel)
set_option maxRecDepth 20000 in
theorem gX12_eats_X12_is : GoodIn wsX12_eats (wsV RX12 132 RX12 yX12_is wsX12_is) := goodIn_app (goodIn_r _ [1, 2, 3, 4] rfl (by decide +kernel)) ggX12_eats_X12_is
set_option maxRecDepth 20000 in
theorem ggX12_eats_X12_next : GoodIn wsX12_eats wsX12_next := goodIn_r _ [11, 12, 13, 14, 7, 15, 16, 17, 18, 4, 19, 20, 21, 22, 23, 24, 25, 26, 27, 28, 29, 30, 31, 32, 33, 34, 35, 36, 37, 38, 39, 40, 41, 42, 43, 44, 45, 46, 47, 48, 49, 50, 51, 52, 53, 54, 55, 56, 57, 58, 59, 60, 61, 62, 63, 64, 65, 66, 67, 68, 69, 70, 71, 72, 73, 74, 75, 76, 77, 78, 79, 80, 81, 82, 83, 84, 85, 86, 87, 88, 89, 90, 91, 92, 93, 94, 95, 96, 97, 98, 99, 100, 101, 102, 103, 104, 105, 106, 107, 108, 109, 110, 111] rfl (by decide +kernel)
set_option maxRecDepth 20000 in
theorem gX12_eats_X12_next : GoodIn wsX12_eats (wsV RX12 135 RX12 yX12_next wsX12_next) := goodIn_app (goodIn_r _ [8, 9, 10, 4] rfl (by decide +kernel)) ggX12_eats_X12_next
set_option maxRecDepth 20000 in
theorem ggX12_ends_X12_eats : GoodIn wsX12_ends wsX12_eats := goodIn_r _ [6, 7, 8, 9, 5, 10, 11, 12, 13, 14, 15, 16, 17, 18, 19, 20, 21, 22, 23, 24, 25, 26, 27, 28, 29, 30, 31, 32, 33, 34, 35, 36, 37, 38, 39, 40, 41, 42, 43, 44, 45, 46, 47, 48, 49, 50, 51, 52, 53, 54, 55, 56, 57, 58, 59, 60, 61, 62, 63, 64, 65, 66, 67, 68, 69, 70, 71, 72, 73, 74, 75, 76, 77, 78, 79, 80, 81, 82, 83, 84, 90, 91, 92, 93, 94, 95, 96, 97, 98, 99, 100, 101, 102, 103, 104, 105, 106, 107, 108, 109, 110, 111, 112, 113, 114, 115, 116, 117, 118, 119, 120, 121] rfl (by decide +kernel)
set_option maxRecDepth 20000 in
theorem gX12_ends_X12_eats : GoodIn wsX12_ends (wsV RX12 158 RX12 yX12_eats wsX12_eats) := goodIn_app (goodIn_r _ [2, 3, 4, 5] rfl (by decide +kernel)) ggX12_ends_X12_eats
set_option maxRecDepth 20000 in
theorem ggX12_ends_X12_fails : GoodIn wsX12_ends wsX12_fails := goodIn_r _ [88, 11, 12, 18, 89, 90, 91, 92, 93, 94, 95, 96, 97, 98, 99, 100, 101, 102, 103, 104, 105, 106, 107, 108, 109, 110, 111, 112, 113, 114, 115, 116, 117, 118, 119, 120, 121] rfl (by decide +kernel)
set_option maxRecDepth 20000 in
theorem gX12_ends_X12_fails : GoodIn wsX12_ends (wsV RX12 138 RX12 yX12_fails wsX12_fails) := goodIn_app (goodIn_r _ [85, 86, 87, 5] rfl (by decide +kernel)) ggX12_ends_X12_fails
set_option maxRecDepth 20000 in
theorem ggX12_shop_X12_within : GoodIn wsX12_shop wsX12_within := goodIn_r _ [15] rfl (by decide +kernel)
set_option maxRecDepth 20000 in
theorem gX12_shop_X12_within : GoodIn wsX12_shop (va_wsS RX12 142 yX12_within wsX12_within) := goodIn_app (goodIn_r _ [12, 13, 14] rfl (by decide +kernel)) ggX12_shop_X12_within
set_option maxRecDepth 20000 in
theorem ggX12_shop_X12_plain : GoodIn wsX12_shop wsX12_plain := goodIn_r _ [18] rfl (by decide +kernel)
set_option maxRecDepth 20000 in
theorem gX12_shop_X12_plain : GoodIn wsX12_shop (va_wsS RX12 76 yX12_plain wsX12_plain) := goodIn_app (goodIn_r _ [16, 17, 14] rfl (by decide +kernel)) ggX12_shop_X12_plain
set_option maxRecDepth 20000 in
theorem ggX12_shop_X12_next : GoodIn wsX12_shop wsX12_next := goodIn_r _ [22, 4, 23, 3, 7, 24, 25, 26, 27, 14, 28, 29, 30, 31, 32, 33, 34, 35, 36, 37, 38, 39, 40, 41, 42, 43, 44, 45, 46, 47, 48, 49, 50, 51, 52, 53, 54, 55, 56, 57, 58, 59, 60, 61, 62, 63, 64, 65, 66, 67, 68, 69, 70, 71, 72, 73, 74, 75, 76, 77, 78, 79, 80, 81, 82, 83, 84, 85, 86, 87, 88, 169, 170, 171, 172, 173, 174, 175, 176, 177, 178, 179, 180, 181, 182, 183, 184, 185, 186, 187, 188, 189, 190, 191, 192, 193, 194, 195, 196, 197, 198, 199, 200] rfl (by decide +kernel)
set_option maxRecDepth 20000 in
theorem gX12_shop_X12_next : GoodIn wsX12_shop (wsV RX12 135 RX12 yX12_next wsX12_next) := goodIn_app (goodIn_r _ [19, 20, 21, 14] rfl (by decide +kernel)) ggX12_shop_X12_next
set_option maxRecDepth 20000 in
theorem ggX12_shop_X12_eats : GoodIn wsX12_shop wsX12_eats := goodIn_r _ [92, 93, 94, 95, 14, 96, 5, 7, 19, 20, 21, 22, 4, 23, 3, 24, 25, 26, 27, 28, 29, 30, 31, 32, 33, 34, 35, 36, 37, 38, 39, 40, 41, 42, 43, 44, 45, 46, 47, 48, 49, 50, 51, 52, 53, 54, 55, 56, 57, 58, 59, 60, 61, 62, 63, 64, 65, 66, 67, 68, 69, 70, 71, 72, 73, 74, 75, 76, 77, 78, 79, 80, 81, 82, 83, 84, 85, 86, 87, 88, 169, 170, 171, 172, 173, 174, 175, 176, 177, 178, 179, 180, 181, 182, 183, 184, 185, 186, 187, 188, 189, 190, 191, 192, 193, 194, 195, 196, 197, 198, 199, 200] rfl (by decide +kernel)
set_option maxRecDepth 20000 in
theorem gX12_shop_X12_eats : GoodIn wsX12_shop (wsV RX12 158 RX12 yX12_eats wsX12_eats) := goodIn_app (goodIn_r _ [89, 90, 91, 14] rfl (by decide +kernel)) ggX12_shop_X12_eats
set_option maxRecDepth 20000 in
theorem ggX12_shop_X12_fails : GoodIn wsX12_shop wsX12_fails := goodIn_r _ [100, 5, 7, 23, 9, 169, 170, 171, 172, 173, 174, 175, 176, 177, 178, 179, 180, 181, 182, 183, 184, 185, 186, 187, 188, 189, 190, 191, 192, 193, 194, 195, 196, 197, 198, 199, 200] rfl (by decide +kernel)
set_option maxRecDepth 20000 in
theorem gX12_shop_X12_fails : GoodIn wsX12_shop (wsV RX12 138 RX12 yX12_fails wsX12_fails) := goodIn_app (goodIn_r _ [97, 98, 99, 14] rfl (by decide +kernel)) ggX12_shop_X12_fails
set_option maxRecDepth 20000 in
theorem ggX12_shop_X12_ends : GoodIn wsX12_shop wsX12_ends := goodIn_r _ [104, 6, 89, 90, 91, 14, 92, 93, 94, 95, 96, 5, 7, 19, 20, 21, 22, 4, 23, 3, 24, 25, 26, 27, 28, 29, 30, 31, 32, 33, 34, 35, 36, 37, 38, 39, 40, 41, 42, 43, 44, 45, 46, 47, 48, 49, 50, 51, 52, 53, 54, 55, 56, 57, 58, 59, 60, 61, 62, 63, 64, 65, 66, 67, 68, 69, 70, 71, 72, 73, 74, 75, 76, 77, 78, 79, 80, 81, 82, 83, 84, 85, 86, 87, 88, 97, 98, 99, 100, 9, 169, 170, 171, 172, 173, 174, 175, 176, 177, 178, 179, 180, 181, 182, 183, 184, 185, 186, 187, 188, 189, 190, 191, 192, 193, 194, 195, 196, 197, 198, 199, 200] rfl (by decide +kernel)
set_option maxRecDepth 20000 in
theorem gX12_shop_X12_ends : GoodIn wsX12_shop (wsV RX12 195 RX12 yX12_ends wsX12_ends) := goodIn_app (goodIn_r _ [101, 102, 103, 14] rfl (by decide +kernel)) ggX12_shop_X12_ends
set_option maxRecDepth 20000 in
theorem ggX12_isKind_X12_within : GoodIn wsX12_isKind wsX12_within := goodIn_r _ [5] rfl (by decide +kernel)
set_option maxRecDepth 20000 in
theorem gX12_isKind_X12_within : GoodIn wsX12_isKind (va_wsS RX12 142 yX12_within wsX12_within) := goodIn_app (goodIn_r _ [2, 3, 4] rfl (by decide +kernel)) ggX12_isKind_X12_within
set_option maxRecDepth 20000 in
theorem ggX12_isBuyer_X12_within : GoodIn wsX12_isBuyer wsX12_within := goodIn_r _ [5] rfl (by decide +kernel)
set_option maxRecDepth 20000 in
theorem gX12_isBuyer_X12_within : GoodIn wsX12_isBuyer (va_wsS RX12 142 yX12_within wsX12_within) := goodIn_app (goodIn_r _ [2, 3, 4] rfl (by decide +kernel)) ggX12_isBuyer_X12_within
set_option maxRecDepth 20000 in
theorem ggX12_shown_X12_everyKind : GoodIn wsX12_shown wsX12_everyKind := goodIn_r _ [6, 1, 7, 8, 9, 10, 11, 12, 13, 14, 15, 16, 17, 18, 19, 20, 21, 22, 23, 24, 25, 26, 27, 28, 29, 30, 31, 32, 33, 34, 35, 36, 37, 38] rfl (by decide +kernel)
set_option maxRecDepth 20000 in
theorem gX12_shown_X12_everyKind : GoodIn wsX12_shown (wsV RX12 204 RX12 yX12_everyKind wsX12_everyKind) := goodIn_app (goodIn_r _ [2, 3, 4, 5] rfl (by decide +kernel)) ggX12_shown_X12_everyKind
set_option maxRecDepth 20000 in
theorem ggX12_isShutBy_X12_shown : GoodIn wsX12_isShutBy wsX12_shown := goodIn_r _ [5, 6, 7, 8, 9, 4, 10, 11, 12, 13, 14, 15, 16, 17, 18, 19, 20, 21, 22, 23, 24, 25, 26, 27, 28, 29, 30, 31, 32, 33, 34, 35, 36, 37, 38, 39, 40, 41, 42] rfl (by decide +kernel)
set_option maxRecDepth 20000 in
theorem gX12_isShutBy_X12_shown : GoodIn wsX12_isShutBy (wsV RX12 207 RX12 yX12_shown wsX12_shown) := goodIn_app (goodIn_r _ [1, 2, 3, 4] rfl (by decide +kernel)) ggX12_isShutBy_X12_shown
set_option maxRecDepth 20000 in
theorem ggX12_isShut_X12_isShutBy : GoodIn wsX12_isShut wsX12_isShutBy := goodIn_r _ [6, 7, 8, 9, 5, 10, 1, 11, 12, 13, 14, 15, 16, 17, 18, 19, 20, 21, 22, 23, 24, 25, 26, 27, 28, 29, 30, 31, 32, 33, 34, 35, 36, 37, 38, 39, 40, 41, 42, 43, 44, 45, 46] rfl (by decide +kernel)
set_option maxRecDepth 20000 in
theorem gX12_isShut_X12_isShutBy : GoodIn wsX12_isShut (wsV RX12 210 RX12 yX12_isShutBy wsX12_isShutBy) := goodIn_app (goodIn_r _ [2, 3, 4, 5] rfl (by decide +kernel)) ggX12_isShut_X12_isShutBy
set_option maxRecDepth 20000 in
theorem ggX12_kind_X12_isKind : GoodIn wsX12_kind wsX12_isKind := goodIn_r _ [7, 2, 8, 9, 6, 10, 60, 61, 62, 63, 64, 65, 66, 67, 68, 69, 70, 71, 72, 73, 74, 75, 76, 77, 78, 79, 80, 81, 82, 83, 84, 85, 86, 87, 88, 89, 90, 91] rfl (by decide +kernel)
set_option maxRecDepth 20000 in
theorem gX12_kind_X12_isKind : GoodIn wsX12_kind (wsV RX12 245 RX12 yX12_isKind wsX12_isKind) := goodIn_app (goodIn_r _ [3, 4, 5, 6] rfl (by decide +kernel)) ggX12_kind_X12_isKind
set_option maxRecDepth 20000 in
theorem ggX12_buyer_X12_isBuyer : GoodIn wsX12_buyer wsX12_isBuyer := goodIn_r _ [7, 2, 8, 9, 6, 10, 60, 61, 62, 63, 64, 65, 66, 67, 68, 69, 70, 71, 72, 73, 74, 75, 76, 77, 78, 79, 80, 81, 82, 83, 84, 85, 86, 87, 88, 89, 90, 91] rfl (by decide +kernel)
set_option maxRecDepth 20000 in
theorem gX12_buyer_X12_isBuyer : GoodIn wsX12_buyer (wsV RX12 252 RX12 yX12_isBuyer wsX12_isBuyer) := goodIn_app (goodIn_r _ [3, 4, 5, 6] rfl (by decide +kernel)) ggX12_buyer_X12_isBuyer
set_option maxRecDepth 20000 in
theorem ggX12_wants_X12_isBuyer : GoodIn wsX12_wants wsX12_isBuyer := goodIn_r _ [8, 2, 9, 10, 7, 11, 34, 35, 36, 37, 38, 39, 40, 41, 42, 43, 44, 45, 46, 47, 48, 49, 50, 51, 52, 53, 54, 55, 56, 57, 58, 59, 60, 61, 62, 63, 64, 65] rfl (by decide +kernel)
set_option maxRecDepth 20000 in
theorem gX12_wants_X12_isBuyer : GoodIn wsX12_wants (wsV RX12 252 RX12 yX12_isBuyer wsX12_isBuyer) := goodIn_app (goodIn_r _ [4, 5, 6, 7] rfl (by decide +kernel)) ggX12_wants_X12_isBuyer
set_option maxRecDepth 20000 in
theorem ggX12_wants_X12_isKind : GoodIn wsX12_wants wsX12_isKind := goodIn_r _ [15, 2, 9, 10, 7, 11, 34, 35, 36, 37, 38, 39, 40, 41, 42, 43, 44, 45, 46, 47, 48, 49, 50, 51, 52, 53, 54, 55, 56, 57, 58, 59, 60, 61, 62, 63, 64, 65] rfl (by decide +kernel)
set_option maxRecDepth 20000 in
theorem gX12_wants_X12_isKind : GoodIn wsX12_wants (wsV RX12 245 RX12 yX12_isKind wsX12_isKind) := goodIn_app (goodIn_r _ [12, 13, 14, 7] rfl (by decide +kernel)) ggX12_wants_X12_isKind
set_option maxRecDepth 20000 in
theorem ggX12_whyVisit_X12_isBuyer : GoodIn wsX12_whyVisit wsX12_isBuyer := goodIn_r _ [5, 6, 7, 8, 4, 9, 59, 60, 61, 62, 63, 64, 65, 66, 67, 68, 69, 70, 71, 72, 73, 74, 75, 76, 77, 78, 79, 80, 81, 82, 83, 84, 85, 86, 87, 88, 89, 90] rfl (by decide +kernel)
set_option maxRecDepth 20000 in
theorem gX12_whyVisit_X12_isBuyer : GoodIn wsX12_whyVisit (wsV RX12 252 RX12 yX12_isBuyer wsX12_isBuyer) := goodIn_app (goodIn_r _ [1, 2, 3, 4] rfl (by decide +kernel)) ggX12_whyVisit_X12_isBuyer
set_option maxRecDepth 20000 in
theorem ggX12_whyVisit_X12_isShut : GoodIn wsX12_whyVisit wsX12_isShut := goodIn_r _ [13, 6, 14, 15, 16, 4, 17, 18, 19, 20, 21, 22, 23, 24, 25, 59, 60, 61, 62, 63, 64, 65, 66, 67, 68, 69, 70, 71, 72, 73, 74, 75, 76, 77, 78, 79, 80, 81, 82, 83, 84, 85, 86, 87, 88, 89, 90] rfl (by decide +kernel)
set_option maxRecDepth 20000 in
theorem gX12_whyVisit_X12_isShut : GoodIn wsX12_whyVisit (wsV RX12 259 RX12 yX12_isShut wsX12_isShut) := goodIn_app (goodIn_r _ [10, 11, 12, 4] rfl (by decide +kernel)) ggX12_whyVisit_X12_isShut
set_option maxRecDepth 20000 in
theorem ggX12_whyKind_X12_isKind : GoodIn wsX12_whyKind wsX12_isKind := goodIn_r _ [5, 6, 7, 8, 4, 9, 26, 27, 28, 29, 30, 31, 32, 33, 34, 35, 36, 37, 38, 39, 40, 41, 42, 43, 44, 45, 46, 47, 48, 49, 50, 51, 52, 53, 54, 55, 56, 57] rfl (by decide +kernel)
set_option maxRecDepth 20000 in
theorem gX12_whyKind_X12_isKind : GoodIn wsX12_whyKind (wsV RX12 245 RX12 yX12_isKind wsX12_isKind) := goodIn_app (goodIn_r _ [1, 2, 3, 4] rfl (by decide +kernel)) ggX12_whyKind_X12_isKind
set_option maxRecDepth 20000 in
theorem ggX12_whyKind_X12_isShut : GoodIn wsX12_whyKind wsX12_isShut := goodIn_r _ [13, 6, 14, 15, 16, 4, 17, 18, 19, 20, 21, 22, 23, 24, 25, 26, 27, 28, 29, 30, 31, 32, 33, 34, 35, 36, 37, 38, 39, 40, 41, 42, 43, 44, 45, 46, 47, 48, 49, 50, 51, 52, 53, 54, 55, 56, 57] rfl (by decide +kernel)
set_option maxRecDepth 20000 in
theorem gX12_whyKind_X12_isShut : GoodIn wsX12_whyKind (wsV RX12 259 RX12 yX12_isShut wsX12_isShut) := goodIn_app (goodIn_r _ [10, 11, 12, 4] rfl (by decide +kernel)) ggX12_whyKind_X12_isShut
set_option maxRecDepth 20000 in
theorem ggX12_isPrice_X12_within : GoodIn wsX12_isPrice wsX12_within := goodIn_r _ [5] rfl (by decide +kernel)
set_option maxRecDepth 20000 in
theorem gX12_isPrice_X12_within : GoodIn wsX12_isPrice (va_wsS RX12 142 yX12_within wsX12_within) := goodIn_app (goodIn_r _ [2, 3, 4] rfl (by decide +kernel)) ggX12_isPrice_X12_within
set_option maxRecDepth 20000 in
theorem ggX12_whyPrice_X12_isKind : GoodIn wsX12_whyPrice wsX12_isKind := goodIn_r _ [5, 6, 7, 8, 4, 9, 30, 31, 32, 33, 34, 35, 36, 37, 38, 39, 40, 41, 42, 43, 44, 45, 46, 47, 48, 49, 50, 51, 52, 53, 54, 55, 56, 57, 58, 59, 60, 61] rfl (by decide +kernel)
set_option maxRecDepth 20000 in
theorem gX12_whyPrice_X12_isKind : GoodIn wsX12_whyPrice (wsV RX12 245 RX12 yX12_isKind wsX12_isKind) := goodIn_app (goodIn_r _ [1, 2, 3, 4] rfl (by decide +kernel)) ggX12_whyPrice_X12_isKind
set_option maxRecDepth 20000 in
theorem ggX12_whyPrice_X12_isPrice : GoodIn wsX12_whyPrice wsX12_isPrice := goodIn_r _ [12, 13, 7, 8, 4, 9] rfl (by decide +kernel)
set_option maxRecDepth 20000 in
theorem gX12_whyPrice_X12_isPrice : GoodIn wsX12_whyPrice (va_wsS RX12 265 yX12_isPrice wsX12_isPrice) := goodIn_app (goodIn_r _ [10, 11, 4] rfl (by decide +kernel)) ggX12_whyPrice_X12_isPrice
set_option maxRecDepth 20000 in
theorem ggX12_whyPrice_X12_isShut : GoodIn wsX12_whyPrice wsX12_isShut := goodIn_r _ [17, 6, 18, 19, 20, 4, 21, 22, 23, 24, 25, 26, 27, 28, 29, 30, 31, 32, 33, 34, 35, 36, 37, 38, 39, 40, 41, 42, 43, 44, 45, 46, 47, 48, 49, 50, 51, 52, 53, 54, 55, 56, 57, 58, 59, 60, 61] rfl (by decide +kernel)
set_option maxRecDepth 20000 in
theorem gX12_whyPrice_X12_isShut : GoodIn wsX12_whyPrice (wsV RX12 259 RX12 yX12_isShut wsX12_isShut) := goodIn_app (goodIn_r _ [14, 15, 16, 4] rfl (by decide +kernel)) ggX12_whyPrice_X12_isShut
set_option maxRecDepth 20000 in
theorem ggX12_goesDay_X12_oddsAll : GoodIn wsX12_goesDay wsX12_oddsAll := goodIn_r _ [6, 1, 76, 77, 78, 79, 80, 81, 82, 83, 84, 85, 86, 87, 88, 89, 90, 91, 92, 93, 94, 95, 96, 97, 98, 99, 100, 101, 102, 103, 104, 105, 106, 107] rfl (by decide +kernel)
set_option maxRecDepth 20000 in
theorem gX12_goesDay_X12_oddsAll : GoodIn wsX12_goesDay (wsV RX12 269 RX12 yX12_oddsAll wsX12_oddsAll) := goodIn_app (goodIn_r _ [2, 3, 4, 5] rfl (by decide +kernel)) ggX12_goesDay_X12_oddsAll
set_option maxRecDepth 20000 in
theorem ggX12_goesDay_X12_draw : GoodIn wsX12_goesDay wsX12_draw := goodIn_r _ [10, 1, 11, 76, 77, 78, 79, 80, 81, 82, 83, 84, 85, 86, 87, 88, 89, 90, 91, 92, 93, 94, 95, 96, 97, 98, 99, 100, 101, 102, 103, 104, 105, 106, 107] rfl (by decide +kernel)
set_option maxRecDepth 20000 in
theorem gX12_goesDay_X12_draw : GoodIn wsX12_goesDay (wsV RX12 272 RX12 yX12_draw wsX12_draw) := goodIn_app (goodIn_r _ [7, 8, 9, 5] rfl (by decide +kernel)) ggX12_goesDay_X12_draw
set_option maxRecDepth 20000 in
theorem ggX12_goesDay_X12_whyVisit : GoodIn wsX12_goesDay wsX12_whyVisit := goodIn_r _ [15, 16, 17, 18, 5, 19, 1, 20, 21, 22, 23, 24, 25, 26, 27, 28, 29, 30, 31, 32, 33, 34, 35, 36, 37, 38, 39, 40, 41, 42, 43, 44, 45, 46, 47, 48, 49, 50, 51, 52, 53, 54, 55, 56, 57, 58, 59, 60, 61, 62, 63, 64, 65, 66, 67, 68, 69, 70, 71, 76, 77, 78, 79, 80, 81, 82, 83, 84, 85, 86, 87, 88, 89, 90, 91, 92, 93, 94, 95, 96, 97, 98, 99, 100, 101, 102, 103, 104, 105, 106, 107] rfl (by decide +kernel)
set_option maxRecDepth 20000 in
theorem gX12_goesDay_X12_whyVisit : GoodIn wsX12_goesDay (wsV RX12 275 RX12 yX12_whyVisit wsX12_whyVisit) := goodIn_app (goodIn_r _ [12, 13, 14, 5] rfl (by decide +kernel)) ggX12_goesDay_X12_whyVisit
set_option maxRecDepth 20000 in
theorem ggX12_seed_X12_keeps : GoodIn wsX12_seed wsX12_keeps := goodIn_r _ [8, 3, 2, 13, 14, 15, 16, 17, 18, 19, 20, 21, 22, 23, 24, 25, 26, 27, 28, 29, 30, 31, 32, 33, 34, 35, 36, 37, 38, 39, 40, 41, 42, 43, 44] rfl (by decide +kernel)
set_option maxRecDepth 20000 in
theorem gX12_seed_X12_keeps : GoodIn wsX12_seed (wsV RX12 282 RX12 yX12_keeps wsX12_keeps) := goodIn_app (goodIn_r _ [4, 5, 6, 7] rfl (by decide +kernel)) ggX12_seed_X12_keeps
set_option maxRecDepth 20000 in
theorem ggX12_seed_X12_notes : GoodIn wsX12_seed wsX12_notes := goodIn_r _ [12, 2, 3, 13, 14, 15, 16, 17, 18, 19, 20, 21, 22, 23, 24, 25, 26, 27, 28, 29, 30, 31, 32, 33, 34, 35, 36, 37, 38, 39, 40, 41, 42, 43, 44] rfl (by decide +kernel)
set_option maxRecDepth 20000 in
theorem gX12_seed_X12_notes : GoodIn wsX12_seed (wsV RX12 285 RX12 yX12_notes wsX12_notes) := goodIn_app (goodIn_r _ [9, 10, 11, 7] rfl (by decide +kernel)) ggX12_seed_X12_notes
set_option maxRecDepth 20000 in
theorem ggX12_visit_X12_whyVisit : GoodIn wsX12_visit wsX12_whyVisit := goodIn_r _ [6, 7, 8, 9, 5, 10, 11, 12, 13, 14, 15, 16, 17, 18, 19, 20, 21, 22, 23, 24, 25, 26, 27, 28, 29, 30, 31, 32, 33, 34, 35, 36, 37, 38, 39, 40, 41, 42, 43, 44, 45, 46, 47, 48, 49, 50, 51, 52, 53, 54, 55, 56, 57, 58, 59, 60, 61, 62, 63, 77, 78, 79, 80, 81, 82, 83, 84, 85, 86, 87, 88, 89, 90, 91, 92, 93, 94, 95, 96, 97, 98, 99, 100, 101, 102, 103, 104, 105, 106, 107, 108] rfl (by decide +kernel)
set_option maxRecDepth 20000 in
theorem gX12_visit_X12_whyVisit : GoodIn wsX12_visit (wsV RX12 275 RX12 yX12_whyVisit wsX12_whyVisit) := goodIn_app (goodIn_r _ [2, 3, 4, 5] rfl (by decide +kernel)) ggX12_visit_X12_whyVisit
set_option maxRecDepth 20000 in
theorem ggX12_visit_X12_keeps : GoodIn wsX12_visit wsX12_keeps := goodIn_r _ [67, 68, 11, 77, 78, 79, 80, 81, 82, 83, 84, 85, 86, 87, 88, 89, 90, 91, 92, 93, 94, 95, 96, 97, 98, 99, 100, 101, 102, 103, 104, 105, 106, 107, 108] rfl (by decide +kernel)
set_option maxRecDepth 20000 in
theorem gX12_visit_X12_keeps : GoodIn wsX12_visit (wsV RX12 282 RX12 yX12_keeps wsX12_keeps) := goodIn_app (goodIn_r _ [64, 65, 66, 5] rfl (by decide +kernel)) ggX12_visit_X12_keeps
set_option maxRecDepth 20000 in
theorem ggX12_visit_X12_notes : GoodIn wsX12_visit wsX12_notes := goodIn_r _ [76, 11, 68, 77, 78, 79, 80, 81, 82, 83, 84, 85, 86, 87, 88, 89, 90, 91, 92, 93, 94, 95, 96, 97, 98, 99, 100, 101, 102, 103, 104, 105, 106, 107, 108] rfl (by decide +kernel)
set_option maxRecDepth 20000 in
theorem gX12_visit_X12_notes : GoodIn wsX12_visit (wsV RX12 285 RX12 yX12_notes wsX12_notes) := goodIn_app (goodIn_r _ [73, 74, 75, 5] rfl (by decide +kernel)) ggX12_visit_X12_notes
set_option maxRecDepth 20000 in
theorem ggX12_gift_X12_whyKind : GoodIn wsX12_gift wsX12_whyKind := goodIn_r _ [7, 8, 9, 10, 6, 11, 2, 12, 13, 14, 15, 16, 17, 18, 19, 20, 21, 22, 23, 24, 25, 26, 27, 28, 29, 30, 40, 41, 42, 43, 44, 45, 46, 47, 48, 49, 50, 51, 52, 53, 54, 55, 56, 57, 58, 59, 60, 61, 62, 63, 64, 65, 66, 67, 68, 69, 70, 71] rfl (by decide +kernel)
set_option maxRecDepth 20000 in
theorem gX12_gift_X12_whyKind : GoodIn wsX12_gift (wsV RX12 288 RX12 yX12_whyKind wsX12_whyKind) := goodIn_app (goodIn_r _ [3, 4, 5, 6] rfl (by decide +kernel)) ggX12_gift_X12_whyKind
set_option maxRecDepth 20000 in
theorem ggX12_gift_X12_keeps : GoodIn wsX12_gift wsX12_keeps := goodIn_r _ [34, 35, 2, 40, 41, 42, 43, 44, 45, 46, 47, 48, 49, 50, 51, 52, 53, 54, 55, 56, 57, 58, 59, 60, 61, 62, 63, 64, 65, 66, 67, 68, 69, 70, 71] rfl (by decide +kernel)
set_option maxRecDepth 20000 in
theorem gX12_gift_X12_keeps : GoodIn wsX12_gift (wsV RX12 282 RX12 yX12_keeps wsX12_keeps) := goodIn_app (goodIn_r _ [31, 32, 33, 6] rfl (by decide +kernel)) ggX12_gift_X12_keeps
set_option maxRecDepth 20000 in
theorem ggX12_gift_X12_notes : GoodIn wsX12_gift wsX12_notes := goodIn_r _ [39, 2, 35, 40, 41, 42, 43, 44, 45, 46, 47, 48, 49, 50, 51, 52, 53, 54, 55, 56, 57, 58, 59, 60, 61, 62, 63, 64, 65, 66, 67, 68, 69, 70, 71] rfl (by decide +kernel)
set_option maxRecDepth 20000 in
theorem gX12_gift_X12_notes : GoodIn wsX12_gift (wsV RX12 285 RX12 yX12_notes wsX12_notes) := goodIn_app (goodIn_r _ [36, 37, 38, 6] rfl (by decide +kernel)) ggX12_gift_X12_notes
set_option maxRecDepth 20000 in
theorem ggX12_hide_X12_whyKind : GoodIn wsX12_hide wsX12_whyKind := goodIn_r _ [7, 8, 9, 10, 6, 11, 2, 12, 13, 14, 15, 16, 17, 18, 19, 20, 21, 22, 23, 24, 25, 26, 27, 28, 29, 30, 40, 41, 42, 43, 44, 45, 46, 47, 48, 49, 50, 51, 52, 53, 54, 55, 56, 57, 58, 59, 60, 61, 62, 63, 64, 65, 66, 67, 68, 69, 70, 71] rfl (by decide +kernel)
set_option maxRecDepth 20000 in
theorem gX12_hide_X12_whyKind : GoodIn wsX12_hide (wsV RX12 288 RX12 yX12_whyKind wsX12_whyKind) := goodIn_app (goodIn_r _ [3, 4, 5, 6] rfl (by decide +kernel)) ggX12_hide_X12_whyKind
set_option maxRecDepth 20000 in
theorem ggX12_hide_X12_keeps : GoodIn wsX12_hide wsX12_keeps := goodIn_r _ [34, 35, 2, 40, 41, 42, 43, 44, 45, 46, 47, 48, 49, 50, 51, 52, 53, 54, 55, 56, 57, 58, 59, 60, 61, 62, 63, 64, 65, 66, 67, 68, 69, 70, 71] rfl (by decide +kernel)
set_option maxRecDepth 20000 in
theorem gX12_hide_X12_keeps : GoodIn wsX12_hide (wsV RX12 282 RX12 yX12_keeps wsX12_keeps) := goodIn_app (goodIn_r _ [31, 32, 33, 6] rfl (by decide +kernel)) ggX12_hide_X12_keeps
set_option maxRecDepth 20000 in
theorem ggX12_hide_X12_notes : GoodIn wsX12_hide wsX12_notes := goodIn_r _ [39, 2, 35, 40, 41, 42, 43, 44, 45, 46, 47, 48, 49, 50, 51, 52, 53, 54, 55, 56, 57, 58, 59, 60, 61, 62, 63, 64, 65, 66, 67, 68, 69, 70, 71] rfl (by decide +kernel)
set_option maxRecDepth 20000 in
theorem gX12_hide_X12_notes : GoodIn wsX12_hide (wsV RX12 285 RX12 yX12_notes wsX12_notes) := goodIn_app (goodIn_r _ [36, 37, 38, 6] rfl (by decide +kernel)) ggX12_hide_X12_notes
set_option maxRecDepth 20000 in
theorem ggX12_add_X12_isPrice : GoodIn wsX12_add wsX12_isPrice := goodIn_r _ [7, 8, 9, 10, 6, 11] rfl (by decide +kernel)
set_option maxRecDepth 20000 in
theorem gX12_add_X12_isPrice : GoodIn wsX12_add (va_wsS RX12 265 yX12_isPrice wsX12_isPrice) := goodIn_app (goodIn_r _ [4, 5, 6] rfl (by decide +kernel)) ggX12_add_X12_isPrice
set_option maxRecDepth 20000 in
theorem ggX12_add_X12_within : GoodIn wsX12_add wsX12_within := goodIn_r _ [11] rfl (by decide +kernel)
set_option maxRecDepth 20000 in
theorem gX12_add_X12_within : GoodIn wsX12_add (va_wsS RX12 142 yX12_within wsX12_within) := goodIn_app (goodIn_r _ [9, 10, 6] rfl (by decide +kernel)) ggX12_add_X12_within
set_option maxRecDepth 20000 in
theorem ggX12_add_X12_isShut : GoodIn wsX12_add wsX12_isShut := goodIn_r _ [15, 3, 16, 17, 18, 6, 19, 20, 21, 22, 23, 24, 25, 26, 27, 37, 38, 39, 40, 41, 42, 43, 44, 45, 46, 47, 48, 49, 50, 51, 52, 53, 54, 55, 56, 57, 58, 59, 60, 61, 62, 63, 64, 65, 66, 67, 68] rfl (by decide +kernel)
set_option maxRecDepth 20000 in
theorem gX12_add_X12_isShut : GoodIn wsX12_add (wsV RX12 259 RX12 yX12_isShut wsX12_isShut) := goodIn_app (goodIn_r _ [12, 13, 14, 6] rfl (by decide +kernel)) ggX12_add_X12_isShut
set_option maxRecDepth 20000 in
theorem ggX12_add_X12_keeps : GoodIn wsX12_add wsX12_keeps := goodIn_r _ [31, 32, 3, 37, 38, 39, 40, 41, 42, 43, 44, 45, 46, 47, 48, 49, 50, 51, 52, 53, 54, 55, 56, 57, 58, 59, 60, 61, 62, 63, 64, 65, 66, 67, 68] rfl (by decide +kernel)
set_option maxRecDepth 20000 in
theorem gX12_add_X12_keeps : GoodIn wsX12_add (wsV RX12 282 RX12 yX12_keeps wsX12_keeps) := goodIn_app (goodIn_r _ [28, 29, 30, 6] rfl (by decide +kernel)) ggX12_add_X12_keeps
set_option maxRecDepth 20000 in
theorem ggX12_add_X12_notes : GoodIn wsX12_add wsX12_notes := goodIn_r _ [36, 3, 32, 37, 38, 39, 40, 41, 42, 43, 44, 45, 46, 47, 48, 49, 50, 51, 52, 53, 54, 55, 56, 57, 58, 59, 60, 61, 62, 63, 64, 65, 66, 67, 68] rfl (by decide +kernel)
set_option maxRecDepth 20000 in
theorem gX12_add_X12_notes : GoodIn wsX12_add (wsV RX12 285 RX12 yX12_notes wsX12_notes) := goodIn_app (goodIn_r _ [33, 34, 35, 6] rfl (by decide +kernel)) ggX12_add_X12_notes
set_option maxRecDepth 20000 in
theorem ggX12_price_X12_whyPrice : GoodIn wsX12_price wsX12_whyPrice := goodIn_r _ [8, 9, 10, 11, 7, 12, 2, 13, 14, 15, 16, 17, 18, 19, 20, 21, 22, 23, 24, 25, 26, 27, 28, 29, 30, 31, 32, 33, 34, 35, 44, 45, 46, 47, 48, 49, 50, 51, 52, 53, 54, 55, 56, 57, 58, 59, 60, 61, 62, 63, 64, 65, 66, 67, 68, 69, 70, 71, 72, 73, 74, 75] rfl (by decide +kernel)
set_option maxRecDepth 20000 in
theorem gX12_price_X12_whyPrice : GoodIn wsX12_price (wsV RX12 293 RX12 yX12_whyPrice wsX12_whyPrice) := goodIn_app (goodIn_r _ [4, 5, 6, 7] rfl (by decide +kernel)) ggX12_price_X12_whyPrice
set_option maxRecDepth 20000 in
theorem ggX12_price_X12_keeps : GoodIn wsX12_price wsX12_keeps := goodIn_r _ [39, 3, 2, 44, 45, 46, 47, 48, 49, 50, 51, 52, 53, 54, 55, 56, 57, 58, 59, 60, 61, 62, 63, 64, 65, 66, 67, 68, 69, 70, 71, 72, 73, 74, 75] rfl (by decide +kernel)
set_option maxRecDepth 20000 in
theorem gX12_price_X12_keeps : GoodIn wsX12_price (wsV RX12 282 RX12 yX12_keeps wsX12_keeps) := goodIn_app (goodIn_r _ [36, 37, 38, 7] rfl (by decide +kernel)) ggX12_price_X12_keeps
set_option maxRecDepth 20000 in
theorem ggX12_price_X12_notes : GoodIn wsX12_price wsX12_notes := goodIn_r _ [43, 2, 3, 44, 45, 46, 47, 48, 49, 50, 51, 52, 53, 54, 55, 56, 57, 58, 59, 60, 61, 62, 63, 64, 65, 66, 67, 68, 69, 70, 71, 72, 73, 74, 75] rfl (by decide +kernel)
set_option maxRecDepth 20000 in
theorem gX12_price_X12_notes : GoodIn wsX12_price (wsV RX12 285 RX12 yX12_notes wsX12_notes) := goodIn_app (goodIn_r _ [40, 41, 42, 7] rfl (by decide +kernel)) ggX12_price_X12_notes
set_option maxRecDepth 20000 in
theorem ggX12_days_X12_within : GoodIn wsX12_days wsX12_within := goodIn_r _ [6] rfl (by decide +kernel)
set_option maxRecDepth 20000 in
theorem gX12_days_X12_within : GoodIn wsX12_days (va_wsS RX12 142 yX12_within wsX12_within) := goodIn_app (goodIn_r _ [3, 4, 5] rfl (by decide +kernel)) ggX12_days_X12_within
set_option maxRecDepth 20000 in
theorem ggX12_days_X12_keeps : GoodIn wsX12_days wsX12_keeps := goodIn_r _ [10, 11, 12, 91, 92, 93, 94, 95, 96, 97, 98, 99, 100, 101, 102, 103, 104, 105, 106, 107, 108, 109, 110, 111, 112, 113, 114, 115, 116, 117, 118, 119, 120, 121, 122] rfl (by decide +kernel)
set_option maxRecDepth 20000 in
theorem gX12_days_X12_keeps : GoodIn wsX12_days (wsV RX12 282 RX12 yX12_keeps wsX12_keeps) := goodIn_app (goodIn_r _ [7, 8, 9, 5] rfl (by decide +kernel)) ggX12_days_X12_keeps
set_option maxRecDepth 20000 in
theorem ggX12_days_X12_goesDay : GoodIn wsX12_days wsX12_goesDay := goodIn_r _ [16, 12, 17, 18, 19, 5, 20, 21, 22, 23, 24, 25, 26, 27, 28, 29, 30, 31, 32, 33, 3, 4, 6, 34, 35, 36, 37, 38, 39, 40, 41, 42, 43, 44, 45, 46, 47, 48, 49, 50, 51, 52, 53, 54, 55, 56, 57, 58, 59, 60, 61, 62, 63, 64, 65, 66, 67, 68, 69, 70, 71, 72, 73, 74, 75, 76, 77, 78, 79, 80, 81, 82, 83, 84, 85, 86, 91, 92, 93, 94, 95, 96, 97, 98, 99, 100, 101, 102, 103, 104, 105, 106, 107, 108, 109, 110, 111, 112, 113, 114, 115, 116, 117, 118, 119, 120, 121, 122] rfl (by decide +kernel)
set_option maxRecDepth 20000 in
theorem gX12_days_X12_goesDay : GoodIn wsX12_days (wsV RX12 297 RX12 yX12_goesDay wsX12_goesDay) := goodIn_app (goodIn_r _ [13, 14, 15, 5] rfl (by decide +kernel)) ggX12_days_X12_goesDay
set_option maxRecDepth 20000 in
theorem ggX12_days_X12_notes : GoodIn wsX12_days wsX12_notes := goodIn_r _ [90, 12, 11, 91, 92, 93, 94, 95, 96, 97, 98, 99, 100, 101, 102, 103, 104, 105, 106, 107, 108, 109, 110, 111, 112, 113, 114, 115, 116, 117, 118, 119, 120, 121, 122] rfl (by decide +kernel)
set_option maxRecDepth 20000 in
theorem gX12_days_X12_notes : GoodIn wsX12_days (wsV RX12 285 RX12 yX12_notes wsX12_notes) := goodIn_app (goodIn_r _ [87, 88, 89, 5] rfl (by decide +kernel)) ggX12_days_X12_notes
set_option maxRecDepth 20000 in
theorem ggX12_undo_X12_within : GoodIn wsX12_undo wsX12_within := goodIn_r _ [7] rfl (by decide +kernel)
set_option maxRecDepth 20000 in
theorem gX12_undo_X12_within : GoodIn wsX12_undo (va_wsS RX12 142 yX12_within wsX12_within) := goodIn_app (goodIn_r _ [4, 5, 6] rfl (by decide +kernel)) ggX12_undo_X12_within
set_option maxRecDepth 20000 in
theorem ggX12_whyNot_X12_within : GoodIn wsX12_whyNot wsX12_within := goodIn_r _ [12] rfl (by decide +kernel)
set_option maxRecDepth 20000 in
theorem gX12_whyNot_X12_within : GoodIn wsX12_whyNot (va_wsS RX12 142 yX12_within wsX12_within) := goodIn_app (goodIn_r _ [9, 10, 11] rfl (by decide +kernel)) ggX12_whyNot_X12_within
set_option maxRecDepth 20000 in
theorem ggX12_whyNot_X12_whyVisit : GoodIn wsX12_whyNot wsX12_whyVisit := goodIn_r _ [16, 17, 18, 19, 11, 20, 21, 9, 10, 12, 22, 23, 24, 25, 26, 27, 28, 29, 30, 31, 32, 33, 34, 35, 36, 37, 38, 39, 40, 41, 42, 43, 44, 45, 46, 47, 48, 49, 50, 51, 52, 53, 54, 55, 56, 57, 58, 59, 60, 61, 62, 63, 64, 65, 66, 67, 68, 69, 70, 87, 88, 89, 90, 91, 92, 93, 94, 95, 96, 97, 98, 99, 100, 101, 102, 103, 104, 105, 106, 107, 108, 109, 110, 111, 112, 113, 114, 115, 116, 117, 118] rfl (by decide +kernel)
set_option maxRecDepth 20000 in
theorem gX12_whyNot_X12_whyVisit : GoodIn wsX12_whyNot (wsV RX12 275 RX12 yX12_whyVisit wsX12_whyVisit) := goodIn_app (goodIn_r _ [13, 14, 15, 11] rfl (by decide +kernel)) ggX12_whyNot_X12_whyVisit
set_option maxRecDepth 20000 in
theorem ggX12_whyNot_X12_whyKind : GoodIn wsX12_whyNot wsX12_whyKind := goodIn_r _ [74, 75, 76, 77, 11, 78, 21, 9, 10, 12, 22, 23, 24, 25, 26, 27, 28, 29, 30, 31, 32, 33, 34, 35, 36, 37, 87, 88, 89, 90, 91, 92, 93, 94, 95, 96, 97, 98, 99, 100, 101, 102, 103, 104, 105, 106, 107, 108, 109, 110, 111, 112, 113, 114, 115, 116, 117, 118] rfl (by decide +kernel)
set_option maxRecDepth 20000 in
theorem gX12_whyNot_X12_whyKind : GoodIn wsX12_whyNot (wsV RX12 288 RX12 yX12_whyKind wsX12_whyKind) := goodIn_app (goodIn_r _ [71, 72, 73, 11] rfl (by decide +kernel)) ggX12_whyNot_X12_whyKind
set_option maxRecDepth 20000 in
theorem ggX12_whyNot_X12_whyPrice : GoodIn wsX12_whyNot wsX12_whyPrice := goodIn_r _ [82, 75, 76, 77, 11, 78, 21, 9, 10, 12, 83, 84, 85, 86, 22, 23, 24, 25, 26, 27, 28, 29, 30, 31, 32, 33, 34, 35, 36, 37, 87, 88, 89, 90, 91, 92, 93, 94, 95, 96, 97, 98, 99, 100, 101, 102, 103, 104, 105, 106, 107, 108, 109, 110, 111, 112, 113, 114, 115, 116, 117, 118] rfl (by decide +kernel)
set_option maxRecDepth 20000 in
theorem gX12_whyNot_X12_whyPrice : GoodIn wsX12_whyNot (wsV RX12 293 RX12 yX12_whyPrice wsX12_whyPrice) := goodIn_app (goodIn_r _ [79, 80, 81, 11] rfl (by decide +kernel)) ggX12_whyNot_X12_whyPrice
set_option maxRecDepth 20000 in
theorem ggX12_does_X12_goesDay : GoodIn wsX12_does wsX12_goesDay := goodIn_r _ [6, 1, 7, 8, 9, 5, 10, 11, 12, 13, 14, 15, 16, 17, 18, 19, 20, 21, 22, 23, 24, 25, 26, 27, 28, 29, 30, 31, 32, 33, 34, 35, 36, 37, 38, 39, 40, 41, 42, 43, 44, 45, 46, 47, 48, 49, 50, 51, 52, 53, 54, 55, 56, 57, 58, 59, 60, 61, 62, 63, 64, 65, 66, 67, 68, 69, 70, 71, 72, 73, 74, 75, 76, 77, 78, 79, 80, 81, 82, 83, 84, 85, 86, 87, 88, 89, 90, 91, 92, 93, 94, 95, 96, 97, 98, 99, 100, 101, 102, 103, 104, 105, 106, 107, 108, 109, 110, 111] rfl (by decide +kernel)
set_option maxRecDepth 20000 in
theorem gX12_does_X12_goesDay : GoodIn wsX12_does (wsV RX12 297 RX12 yX12_goesDay wsX12_goesDay) := goodIn_app (goodIn_r _ [2, 3, 4, 5] rfl (by decide +kernel)) ggX12_does_X12_goesDay
set_option maxRecDepth 20000 in
theorem ggX12_noTray_X12_within : GoodIn wsX12_noTray wsX12_within := goodIn_r _ [6] rfl (by decide +kernel)
set_option maxRecDepth 20000 in
theorem gX12_noTray_X12_within : GoodIn wsX12_noTray (va_wsS RX12 142 yX12_within wsX12_within) := goodIn_app (goodIn_r _ [3, 4, 5] rfl (by decide +kernel)) ggX12_noTray_X12_within
set_option maxRecDepth 20000 in
theorem ggX12_judge_X12_within : GoodIn wsX12_judge wsX12_within := goodIn_r _ [8] rfl (by decide +kernel)
set_option maxRecDepth 20000 in
theorem gX12_judge_X12_within : GoodIn wsX12_judge (va_wsS RX12 142 yX12_within wsX12_within) := goodIn_app (goodIn_r _ [5, 6, 7] rfl (by decide +kernel)) ggX12_judge_X12_within
set_option maxRecDepth 20000 in
theorem ggX12_judge_X12_noTray : GoodIn wsX12_judge wsX12_noTray := goodIn_r _ [12, 2, 13, 5, 6, 7, 8, 135, 136, 137, 138, 139, 140, 141, 142, 143, 144, 145, 146, 147, 148, 149, 150, 151, 152, 153, 154, 155, 156, 157, 158, 159, 160, 161, 162, 163, 164, 165, 166] rfl (by decide +kernel)
set_option maxRecDepth 20000 in
theorem gX12_judge_X12_noTray : GoodIn wsX12_judge (wsV RX12 327 RX12 yX12_noTray wsX12_noTray) := goodIn_app (goodIn_r _ [9, 10, 11, 7] rfl (by decide +kernel)) ggX12_judge_X12_noTray
set_option maxRecDepth 20000 in
theorem ggX12_judge_X12_keeps : GoodIn wsX12_judge wsX12_keeps := goodIn_r _ [17, 18, 3, 135, 136, 137, 138, 139, 140, 141, 142, 143, 144, 145, 146, 147, 148, 149, 150, 151, 152, 153, 154, 155, 156, 157, 158, 159, 160, 161, 162, 163, 164, 165, 166] rfl (by decide +kernel)
set_option maxRecDepth 20000 in
theorem gX12_judge_X12_keeps : GoodIn wsX12_judge (wsV RX12 282 RX12 yX12_keeps wsX12_keeps) := goodIn_app (goodIn_r _ [14, 15, 16, 7] rfl (by decide +kernel)) ggX12_judge_X12_keeps
set_option maxRecDepth 20000 in
theorem ggX12_judge_X12_isAgain : GoodIn wsX12_judge wsX12_isAgain := goodIn_r _ [134, 3, 18, 135, 136, 137, 138, 139, 140, 141, 142, 143, 144, 145, 146, 147, 148, 149, 150, 151, 152, 153, 154, 155, 156, 157, 158, 159, 160, 161, 162, 163, 164, 165, 166] rfl (by decide +kernel)
set_option maxRecDepth 20000 in
theorem gX12_judge_X12_isAgain : GoodIn wsX12_judge (wsV RX12 333 RX12 yX12_isAgain wsX12_isAgain) := goodIn_app (goodIn_r _ [131, 132, 133, 7] rfl (by decide +kernel)) ggX12_judge_X12_isAgain
set_option maxRecDepth 20000 in
theorem ggX12_perform_X12_noTray : GoodIn wsX12_perform wsX12_noTray := goodIn_r _ [6, 7, 8, 9, 10, 5, 11, 135, 136, 137, 138, 139, 140, 141, 142, 143, 144, 145, 146, 147, 148, 149, 150, 151, 152, 153, 154, 155, 156, 157, 158, 159, 160, 161, 162, 163, 164, 165, 166] rfl (by decide +kernel)
set_option maxRecDepth 20000 in
theorem gX12_perform_X12_noTray : GoodIn wsX12_perform (wsV RX12 327 RX12 yX12_noTray wsX12_noTray) := goodIn_app (goodIn_r _ [2, 3, 4, 5] rfl (by decide +kernel)) ggX12_perform_X12_noTray
set_option maxRecDepth 20000 in
theorem ggX12_perform_X12_keeps : GoodIn wsX12_perform wsX12_keeps := goodIn_r _ [15, 16, 17, 135, 136, 137, 138, 139, 140, 141, 142, 143, 144, 145, 146, 147, 148, 149, 150, 151, 152, 153, 154, 155, 156, 157, 158, 159, 160, 161, 162, 163, 164, 165, 166] rfl (by decide +kernel)
set_option maxRecDepth 20000 in
theorem gX12_perform_X12_keeps : GoodIn wsX12_perform (wsV RX12 282 RX12 yX12_keeps wsX12_keeps) := goodIn_app (goodIn_r _ [12, 13, 14, 5] rfl (by decide +kernel)) ggX12_perform_X12_keeps
set_option maxRecDepth 20000 in
theorem ggX12_perform_X12_notes : GoodIn wsX12_perform wsX12_notes := goodIn_r _ [134, 17, 16, 135, 136, 137, 138, 139, 140, 141, 142, 143, 144, 145, 146, 147, 148, 149, 150, 151, 152, 153, 154, 155, 156, 157, 158, 159, 160, 161, 162, 163, 164, 165, 166] rfl (by decide +kernel)
set_option maxRecDepth 20000 in
theorem gX12_perform_X12_notes : GoodIn wsX12_perform (wsV RX12 285 RX12 yX12_notes wsX12_notes) := goodIn_app (goodIn_r _ [131, 132, 133, 5] rfl (by decide +kernel)) ggX12_perform_X12_notes
set_option maxRecDepth 20000 in
theorem ggX12_drawn_X12_draw : GoodIn wsX12_drawn wsX12_draw := goodIn_r _ [5, 6, 7, 8, 9, 10, 11, 12, 13, 14, 15, 16, 17, 18, 19, 20, 21, 22, 23, 24, 25, 26, 27, 28, 29, 30, 31, 32, 33, 34, 35, 36, 37, 38, 39] rfl (by decide +kernel)
set_option maxRecDepth 20000 in
theorem gX12_drawn_X12_draw : GoodIn wsX12_drawn (wsV RX12 272 RX12 yX12_draw wsX12_draw) := goodIn_app (goodIn_r _ [1, 2, 3, 4] rfl (by decide +kernel)) ggX12_drawn_X12_draw
set_option maxRecDepth 20000 in
theorem ggX12_season_X12_within : GoodIn wsX12_season wsX12_within := goodIn_r _ [7] rfl (by decide +kernel)
set_option maxRecDepth 20000 in
theorem gX12_season_X12_within : GoodIn wsX12_season (va_wsS RX12 142 yX12_within wsX12_within) := goodIn_app (goodIn_r _ [4, 5, 6] rfl (by decide +kernel)) ggX12_season_X12_within
set_option maxRecDepth 20000 in
theorem ggX12_season_X12_keeps : GoodIn wsX12_season wsX12_keeps := goodIn_r _ [11, 12, 3, 131, 132, 133, 134, 135, 136, 137, 138, 139, 140, 141, 142, 143, 144, 145, 146, 147, 148, 149, 150, 151, 152, 153, 154, 155, 156, 157, 158, 159, 160, 161, 162] rfl (by decide +kernel)
set_option maxRecDepth 20000 in
theorem gX12_season_X12_keeps : GoodIn wsX12_season (wsV RX12 282 RX12 yX12_keeps wsX12_keeps) := goodIn_app (goodIn_r _ [8, 9, 10, 6] rfl (by decide +kernel)) ggX12_season_X12_keeps
set_option maxRecDepth 20000 in
theorem ggX12_season_X12_drawn : GoodIn wsX12_season wsX12_drawn := goodIn_r _ [16, 17, 18, 19, 6, 20, 3, 21, 131, 132, 133, 134, 135, 136, 137, 138, 139, 140, 141, 142, 143, 144, 145, 146, 147, 148, 149, 150, 151, 152, 153, 154, 155, 156, 157, 158, 159, 160, 161, 162] rfl (by decide +kernel)
set_option maxRecDepth 20000 in
theorem gX12_season_X12_drawn : GoodIn wsX12_season (wsV RX12 338 RX12 yX12_drawn wsX12_drawn) := goodIn_app (goodIn_r _ [13, 14, 15, 6] rfl (by decide +kernel)) ggX12_season_X12_drawn
set_option maxRecDepth 20000 in
theorem ggX12_season_X12_whyNot : GoodIn wsX12_season wsX12_whyNot := goodIn_r _ [25, 26, 27, 28, 29, 30, 31, 32, 33, 4, 5, 6, 7, 34, 35, 36, 37, 38, 39, 40, 41, 3, 42, 43, 44, 45, 46, 47, 48, 49, 50, 51, 52, 53, 54, 55, 56, 57, 58, 59, 60, 61, 62, 63, 64, 65, 66, 67, 68, 69, 70, 71, 72, 73, 74, 75, 76, 77, 78, 79, 80, 81, 82, 83, 84, 85, 86, 87, 88, 89, 90, 91, 92, 93, 94, 95, 96, 97, 98, 99, 100, 101, 102, 103, 104, 105, 106, 131, 132, 133, 134, 135, 136, 137, 138, 139, 140, 141, 142, 143, 144, 145, 146, 147, 148, 149, 150, 151, 152, 153, 154, 155, 156, 157, 158, 159, 160, 161, 162] rfl (by decide +kernel)
set_option maxRecDepth 20000 in
theorem gX12_season_X12_whyNot : GoodIn wsX12_season (wsV RX12 319 RX12 yX12_whyNot wsX12_whyNot) := goodIn_app (goodIn_r _ [22, 23, 24, 6] rfl (by decide +kernel)) ggX12_season_X12_whyNot
set_option maxRecDepth 20000 in
theorem ggX12_season_X12_does : GoodIn wsX12_season wsX12_does := goodIn_r _ [110, 3, 111, 112, 113, 6, 114, 115, 116, 117, 118, 17, 18, 19, 20, 21, 34, 35, 36, 37, 38, 39, 40, 41, 4, 5, 7, 42, 43, 44, 45, 46, 47, 48, 49, 50, 51, 52, 53, 54, 55, 56, 57, 58, 59, 60, 61, 62, 63, 64, 65, 66, 67, 68, 69, 70, 71, 72, 73, 74, 75, 76, 77, 78, 79, 80, 81, 82, 83, 84, 85, 86, 87, 88, 89, 90, 119, 120, 121, 122, 131, 132, 133, 134, 135, 136, 137, 138, 139, 140, 141, 142, 143, 144, 145, 146, 147, 148, 149, 150, 151, 152, 153, 154, 155, 156, 157, 158, 159, 160, 161, 162] rfl (by decide +kernel)
set_option maxRecDepth 20000 in
theorem gX12_season_X12_does : GoodIn wsX12_season (wsV RX12 322 RX12 yX12_does wsX12_does) := goodIn_app (goodIn_r _ [107, 108, 109, 6] rfl (by decide +kernel)) ggX12_season_X12_does
set_option maxRecDepth 20000 in
theorem ggX12_season_X12_notes : GoodIn wsX12_season wsX12_notes := goodIn_r _ [126, 3, 12, 131, 132, 133, 134, 135, 136, 137, 138, 139, 140, 141, 142, 143, 144, 145, 146, 147, 148, 149, 150, 151, 152, 153, 154, 155, 156, 157, 158, 159, 160, 161, 162] rfl (by decide +kernel)
set_option maxRecDepth 20000 in
theorem gX12_season_X12_notes : GoodIn wsX12_season (wsV RX12 285 RX12 yX12_notes wsX12_notes) := goodIn_app (goodIn_r _ [123, 124, 125, 6] rfl (by decide +kernel)) ggX12_season_X12_notes
set_option maxRecDepth 20000 in
theorem ggX12_season_X12_isAgain : GoodIn wsX12_season wsX12_isAgain := goodIn_r _ [130, 3, 12, 131, 132, 133, 134, 135, 136, 137, 138, 139, 140, 141, 142, 143, 144, 145, 146, 147, 148, 149, 150, 151, 152, 153, 154, 155, 156, 157, 158, 159, 160, 161, 162] rfl (by decide +kernel)
set_option maxRecDepth 20000 in
theorem gX12_season_X12_isAgain : GoodIn wsX12_season (wsV RX12 333 RX12 yX12_isAgain wsX12_isAgain) := goodIn_app (goodIn_r _ [127, 128, 129, 6] rfl (by decide +kernel)) ggX12_season_X12_isAgain
set_option maxRecDepth 20000 in
theorem ggX12_laysBuys_X12_everyKind : GoodIn wsX12_laysBuys wsX12_everyKind := goodIn_r _ [7, 1, 45, 46, 47, 48, 49, 50, 51, 52, 53, 54, 55, 56, 57, 58, 59, 60, 61, 62, 63, 64, 65, 66, 67, 68, 69, 70, 71, 72, 73, 74, 75, 76] rfl (by decide +kernel)
set_option maxRecDepth 20000 in
theorem gX12_laysBuys_X12_everyKind : GoodIn wsX12_laysBuys (wsV RX12 204 RX12 yX12_everyKind wsX12_everyKind) := goodIn_app (goodIn_r _ [3, 4, 5, 6] rfl (by decide +kernel)) ggX12_laysBuys_X12_everyKind
set_option maxRecDepth 20000 in
theorem ggX12_laysEnding_X12_everyKind : GoodIn wsX12_laysEnding wsX12_everyKind := goodIn_r _ [8, 2, 25, 26, 27, 28, 29, 30, 31, 32, 33, 34, 35, 36, 37, 38, 39, 40, 41, 42, 43, 44, 45, 46, 47, 48, 49, 50, 51, 52, 53, 54, 55, 56] rfl (by decide +kernel)
set_option maxRecDepth 20000 in
theorem gX12_laysEnding_X12_everyKind : GoodIn wsX12_laysEnding (wsV RX12 204 RX12 yX12_everyKind wsX12_everyKind) := goodIn_app (goodIn_r _ [4, 5, 6, 7] rfl (by decide +kernel)) ggX12_laysEnding_X12_everyKind
set_option maxRecDepth 20000 in
theorem ggX12_laysEnding_X12_isShutBy : GoodIn wsX12_laysEnding wsX12_isShutBy := goodIn_r _ [12, 13, 14, 15, 7, 16, 2, 4, 5, 6, 8, 25, 26, 27, 28, 29, 30, 31, 32, 33, 34, 35, 36, 37, 38, 39, 40, 41, 42, 43, 44, 45, 46, 47, 48, 49, 50, 51, 52, 53, 54, 55, 56] rfl (by decide +kernel)
set_option maxRecDepth 20000 in
theorem gX12_laysEnding_X12_isShutBy : GoodIn wsX12_laysEnding (wsV RX12 210 RX12 yX12_isShutBy wsX12_isShutBy) := goodIn_app (goodIn_r _ [9, 10, 11, 7] rfl (by decide +kernel)) ggX12_laysEnding_X12_isShutBy
set_option maxRecDepth 20000 in
theorem ggX12_endingNow_X12_laysBuys : GoodIn wsX12_endingNow wsX12_laysBuys := goodIn_r _ [5, 6, 7, 8, 9, 10, 4, 11, 12, 13, 14, 15, 16, 17, 18, 19, 20, 21, 22, 23, 24, 25, 26, 27, 28, 29, 30, 31, 32, 33, 34, 35, 36, 37, 38, 39, 40, 41, 42, 43, 44, 45, 46, 47, 48, 59, 60, 61, 62, 63, 64, 65, 66, 67, 68, 69, 70, 71, 72, 73, 74, 75, 76, 77, 78, 79, 80, 81, 82, 83, 84, 85, 86, 87, 88, 89, 90] rfl (by decide +kernel)
set_option maxRecDepth 20000 in
theorem gX12_endingNow_X12_laysBuys : GoodIn wsX12_endingNow (wsV RX12 345 RX12 yX12_laysBuys wsX12_laysBuys) := goodIn_app (goodIn_r _ [1, 2, 3, 4] rfl (by decide +kernel)) ggX12_endingNow_X12_laysBuys
set_option maxRecDepth 20000 in
theorem ggX12_endingNow_X12_laysEnding : GoodIn wsX12_endingNow wsX12_laysEnding := goodIn_r _ [52, 53, 6, 54, 8, 9, 10, 4, 11, 16, 17, 18, 19, 20, 21, 22, 23, 55, 56, 57, 58, 7, 28, 29, 30, 59, 60, 61, 62, 63, 64, 65, 66, 67, 68, 69, 70, 71, 72, 73, 74, 75, 76, 77, 78, 79, 80, 81, 82, 83, 84, 85, 86, 87, 88, 89, 90] rfl (by decide +kernel)
set_option maxRecDepth 20000 in
theorem gX12_endingNow_X12_laysEnding : GoodIn wsX12_endingNow (wsV RX12 348 RX12 yX12_laysEnding wsX12_laysEnding) := goodIn_app (goodIn_r _ [49, 50, 51, 4] rfl (by decide +kernel)) ggX12_endingNow_X12_laysEnding
set_option maxRecDepth 20000 in
theorem ggX12_laysEndingRow_X12_endingNow : GoodIn wsX12_laysEndingRow wsX12_endingNow := goodIn_r _ [8, 9, 10, 11, 7, 12, 1, 13, 14, 15, 16, 17, 18, 19, 20, 21, 22, 23, 24, 25, 26, 27, 28, 29, 30, 31, 32, 33, 34, 35, 36, 37, 38, 39, 40, 41, 42, 43, 44, 45, 46, 47, 48, 49, 50, 51, 52, 53, 54, 55, 56, 57, 58, 59, 2, 60, 61, 62, 63, 64, 65, 66, 67, 68, 69, 70, 71, 72, 73, 74, 75, 76, 77, 78, 79, 80, 81, 82, 83, 84, 85, 86, 87, 88, 89, 90, 91, 92, 93, 94, 95] rfl (by decide +kernel)
set_option maxRecDepth 20000 in
theorem gX12_laysEndingRow_X12_endingNow : GoodIn wsX12_laysEndingRow (wsV RX12 351 RX12 yX12_endingNow wsX12_endingNow) := goodIn_app (goodIn_r _ [4, 5, 6, 7] rfl (by decide +kernel)) ggX12_laysEndingRow_X12_endingNow
set_option maxRecDepth 20000 in
theorem ggX12_ending_X12_endingNow : GoodIn wsX12_ending wsX12_endingNow := goodIn_r _ [6, 7, 8, 9, 5, 10, 11, 12, 13, 14, 15, 16, 17, 18, 19, 20, 21, 22, 23, 24, 25, 26, 27, 28, 29, 30, 31, 32, 33, 34, 35, 36, 37, 38, 39, 40, 41, 42, 43, 44, 45, 46, 47, 48, 49, 50, 51, 52, 53, 54, 55, 56, 57, 58, 59, 60, 61, 62, 63, 64, 65, 66, 67, 68, 69, 70, 71, 72, 73, 74, 75, 76, 77, 78, 79, 80, 81, 82, 83, 84, 85, 86, 87, 88, 89, 90, 91, 92, 93, 94, 95] rfl (by decide +kernel)
set_option maxRecDepth 20000 in
theorem gX12_ending_X12_endingNow : GoodIn wsX12_ending (wsV RX12 351 RX12 yX12_endingNow wsX12_endingNow) := goodIn_app (goodIn_r _ [2, 3, 4, 5] rfl (by decide +kernel)) ggX12_ending_X12_endingNow
set_option maxRecDepth 20000 in
theorem ggX12_endingBy_X12_laysEndingRow : GoodIn wsX12_endingBy wsX12_laysEndingRow := goodIn_r _ [7, 8, 9, 2, 10, 11, 12, 6, 13, 14, 15, 16, 17, 18, 19, 20, 21, 22, 23, 24, 25, 26, 27, 28, 29, 30, 31, 32, 33, 34, 35, 36, 37, 38, 39, 40, 41, 42, 43, 44, 45, 46, 47, 48, 49, 50, 51, 52, 53, 54, 55, 56, 57, 58, 59, 60, 61, 62, 63, 64, 65, 66, 67, 68, 69, 70, 71, 72, 73, 74, 75, 76, 77, 78, 79, 80, 81, 82, 83, 84, 85, 86, 87, 88, 89, 90, 91, 92, 93, 94, 95, 96, 97, 98, 99, 100] rfl (by decide +kernel)
set_option maxRecDepth 20000 in
theorem gX12_endingBy_X12_laysEndingRow : GoodIn wsX12_endingBy (wsV RX12 354 RX12 yX12_laysEndingRow wsX12_laysEndingRow) := goodIn_app (goodIn_r _ [3, 4, 5, 6] rfl (by decide +kernel)) ggX12_endingBy_X12_laysEndingRow
set_option maxRecDepth 20000 in
theorem ggX12_goesRows_X12_everyKind : GoodIn wsX12_goesRows wsX12_everyKind := goodIn_r _ [8, 2, 14, 15, 16, 17, 18, 19, 20, 21, 22, 23, 24, 25, 26, 27, 28, 29, 30, 31, 32, 33, 34, 35, 36, 37, 38, 39, 40, 41, 42, 43, 44, 45] rfl (by decide +kernel)
set_option maxRecDepth 20000 in
theorem gX12_goesRows_X12_everyKind : GoodIn wsX12_goesRows (wsV RX12 204 RX12 yX12_everyKind wsX12_everyKind) := goodIn_app (goodIn_r _ [4, 5, 6, 7] rfl (by decide +kernel)) ggX12_goesRows_X12_everyKind
set_option maxRecDepth 20000 in
theorem ggX12_shutRows_X12_isShutBy : GoodIn wsX12_shutRows wsX12_isShutBy := goodIn_r _ [6, 7, 8, 9, 5, 10, 11, 12, 13, 14, 15, 16, 17, 18, 19, 20, 21, 22, 23, 24, 25, 26, 27, 28, 29, 30, 31, 32, 33, 34, 35, 36, 37, 38, 39, 40, 41, 42, 43, 44, 45, 46, 47] rfl (by decide +kernel)
set_option maxRecDepth 20000 in
theorem gX12_shutRows_X12_isShutBy : GoodIn wsX12_shutRows (wsV RX12 210 RX12 yX12_isShutBy wsX12_isShutBy) := goodIn_app (goodIn_r _ [2, 3, 4, 5] rfl (by decide +kernel)) ggX12_shutRows_X12_isShutBy
set_option maxRecDepth 20000 in
theorem ggX12_endings_X12_within : GoodIn wsX12_endings wsX12_within := goodIn_r _ [7] rfl (by decide +kernel)
set_option maxRecDepth 20000 in
theorem gX12_endings_X12_within : GoodIn wsX12_endings (va_wsS RX12 142 yX12_within wsX12_within) := goodIn_app (goodIn_r _ [4, 5, 6] rfl (by decide +kernel)) ggX12_endings_X12_within
set_option maxRecDepth 20000 in
theorem ggX12_endings_X12_laysBuys : GoodIn wsX12_endings wsX12_laysBuys := goodIn_r _ [11, 12, 13, 14, 15, 16, 6, 17, 18, 19, 20, 21, 22, 23, 24, 25, 26, 27, 28, 29, 30, 31, 32, 33, 34, 35, 36, 37, 38, 39, 40, 41, 42, 43, 44, 45, 46, 47, 48, 49, 50, 51, 52, 53, 54, 73, 74, 75, 76, 77, 78, 79, 80, 81, 82, 83, 84, 85, 86, 87, 88, 89, 90, 91, 92, 93, 94, 95, 96, 97, 98, 99, 100, 101, 102, 103, 104] rfl (by decide +kernel)
set_option maxRecDepth 20000 in
theorem gX12_endings_X12_laysBuys : GoodIn wsX12_endings (wsV RX12 345 RX12 yX12_laysBuys wsX12_laysBuys) := goodIn_app (goodIn_r _ [8, 9, 10, 6] rfl (by decide +kernel)) ggX12_endings_X12_laysBuys
set_option maxRecDepth 20000 in
theorem ggX12_endings_X12_beginsRows : GoodIn wsX12_endings wsX12_beginsRows := goodIn_r _ [58, 59, 12, 73, 74, 75, 76, 77, 78, 79, 80, 81, 82, 83, 84, 85, 86, 87, 88, 89, 90, 91, 92, 93, 94, 95, 96, 97, 98, 99, 100, 101, 102, 103, 104] rfl (by decide +kernel)
set_option maxRecDepth 20000 in
theorem gX12_endings_X12_beginsRows : GoodIn wsX12_endings (wsV RX12 361 RX12 yX12_beginsRows wsX12_beginsRows) := goodIn_app (goodIn_r _ [55, 56, 57, 6] rfl (by decide +kernel)) ggX12_endings_X12_beginsRows
set_option maxRecDepth 20000 in
theorem ggX12_endings_X12_goesRows : GoodIn wsX12_endings wsX12_goesRows := goodIn_r _ [63, 64, 12, 59, 14, 15, 16, 6, 17, 65, 66, 67, 68, 13, 73, 74, 75, 76, 77, 78, 79, 80, 81, 82, 83, 84, 85, 86, 87, 88, 89, 90, 91, 92, 93, 94, 95, 96, 97, 98, 99, 100, 101, 102, 103, 104] rfl (by decide +kernel)
set_option maxRecDepth 20000 in
theorem gX12_endings_X12_goesRows : GoodIn wsX12_endings (wsV RX12 364 RX12 yX12_goesRows wsX12_goesRows) := goodIn_app (goodIn_r _ [60, 61, 62, 6] rfl (by decide +kernel)) ggX12_endings_X12_goesRows
set_option maxRecDepth 20000 in
theorem ggX12_endings_X12_shutRows : GoodIn wsX12_endings wsX12_shutRows := goodIn_r _ [72, 59, 22, 23, 24, 6, 25, 26, 27, 28, 29, 12, 14, 15, 16, 17, 73, 74, 75, 76, 77, 78, 79, 80, 81, 82, 83, 84, 85, 86, 87, 88, 89, 90, 91, 92, 93, 94, 95, 96, 97, 98, 99, 100, 101, 102, 103, 104] rfl (by decide +kernel)
set_option maxRecDepth 20000 in
theorem gX12_endings_X12_shutRows : GoodIn wsX12_endings (wsV RX12 368 RX12 yX12_shutRows wsX12_shutRows) := goodIn_app (goodIn_r _ [69, 70, 71, 6] rfl (by decide +kernel)) ggX12_endings_X12_shutRows
set_option maxRecDepth 20000 in
theorem ggX12_needed_X12_endingNow : GoodIn wsX12_needed wsX12_endingNow := goodIn_r _ [7, 8, 9, 10, 6, 11, 2, 12, 13, 14, 15, 16, 17, 18, 19, 20, 21, 22, 23, 24, 25, 26, 27, 28, 29, 30, 31, 32, 33, 34, 35, 36, 37, 38, 39, 40, 41, 42, 43, 44, 45, 46, 47, 48, 49, 50, 51, 52, 53, 54, 55, 56, 57, 58, 59, 60, 61, 62, 63, 64, 65, 66, 67, 68, 69, 70, 71, 72, 73, 74, 75, 76, 77, 78, 79, 80, 81, 82, 83, 84, 85, 86, 87, 88, 89, 90, 91, 92, 93, 94, 95] rfl (by decide +kernel)
set_option maxRecDepth 20000 in
theorem gX12_needed_X12_endingNow : GoodIn wsX12_needed (wsV RX12 351 RX12 yX12_endingNow wsX12_endingNow) := goodIn_app (goodIn_r _ [3, 4, 5, 6] rfl (by decide +kernel)) ggX12_needed_X12_endingNow
set_option maxRecDepth 20000 in
theorem ggX12_needed_X12_laysEnding : GoodIn wsX12_needed wsX12_laysEnding := goodIn_r _ [57, 58, 2, 59, 13, 14, 15, 6, 16, 21, 22, 23, 24, 25, 26, 27, 28, 60, 61, 62, 63, 12, 33, 34, 35, 64, 65, 66, 67, 68, 69, 70, 71, 72, 73, 74, 75, 76, 77, 78, 79, 80, 81, 82, 83, 84, 85, 86, 87, 88, 89, 90, 91, 92, 93, 94, 95] rfl (by decide +kernel)
set_option maxRecDepth 20000 in
theorem gX12_needed_X12_laysEnding : GoodIn wsX12_needed (wsV RX12 348 RX12 yX12_laysEnding wsX12_laysEnding) := goodIn_app (goodIn_r _ [54, 55, 56, 6] rfl (by decide +kernel)) ggX12_needed_X12_laysEnding
set_option maxRecDepth 20000 in
theorem ggX12_laysComes_X12_laysBuys : GoodIn wsX12_laysComes wsX12_laysBuys := goodIn_r _ [7, 2, 8, 9, 10, 11, 6, 12, 13, 14, 15, 16, 17, 18, 19, 20, 21, 22, 23, 24, 25, 26, 27, 28, 29, 30, 31, 32, 33, 34, 35, 36, 37, 38, 39, 40, 41, 42, 43, 44, 45, 46, 47, 48, 49, 54, 55, 56, 57, 58, 59, 60, 61, 62, 63, 64, 65, 66, 67, 68, 69, 70, 71, 72, 73, 74, 75, 76, 77, 78, 79, 80, 81, 82, 83, 84, 85] rfl (by decide +kernel)
set_option maxRecDepth 20000 in
theorem gX12_laysComes_X12_laysBuys : GoodIn wsX12_laysComes (wsV RX12 345 RX12 yX12_laysBuys wsX12_laysBuys) := goodIn_app (goodIn_r _ [3, 4, 5, 6] rfl (by decide +kernel)) ggX12_laysComes_X12_laysBuys
set_option maxRecDepth 20000 in
theorem ggX12_laysComes_X12_everyKind : GoodIn wsX12_laysComes wsX12_everyKind := goodIn_r _ [12, 2, 54, 55, 56, 57, 58, 59, 60, 61, 62, 63, 64, 65, 66, 67, 68, 69, 70, 71, 72, 73, 74, 75, 76, 77, 78, 79, 80, 81, 82, 83, 84, 85] rfl (by decide +kernel)
set_option maxRecDepth 20000 in
theorem gX12_laysComes_X12_everyKind : GoodIn wsX12_laysComes (wsV RX12 204 RX12 yX12_everyKind wsX12_everyKind) := goodIn_app (goodIn_r _ [9, 10, 11, 6] rfl (by decide +kernel)) ggX12_laysComes_X12_everyKind
set_option maxRecDepth 20000 in
theorem ggX12_sellable_X12_laysComes : GoodIn wsX12_sellable wsX12_laysComes := goodIn_r _ [7, 2, 8, 9, 10, 11, 6, 12, 13, 14, 15, 16, 17, 18, 19, 20, 21, 22, 23, 24, 25, 26, 27, 28, 29, 30, 31, 32, 33, 34, 35, 36, 37, 38, 39, 40, 41, 42, 43, 44, 45, 46, 47, 48, 49, 50, 51, 52, 53, 54, 55, 56, 57, 58, 59, 60, 61, 62, 63, 64, 65, 66, 67, 68, 69, 70, 71, 72, 73, 74, 75, 76, 77, 78, 79, 80, 81, 82, 83, 84, 85, 86, 87, 88, 89, 90] rfl (by decide +kernel)
set_option maxRecDepth 20000 in
theorem gX12_sellable_X12_laysComes : GoodIn wsX12_sellable (wsV RX12 372 RX12 yX12_laysComes wsX12_laysComes) := goodIn_app (goodIn_r _ [3, 4, 5, 6] rfl (by decide +kernel)) ggX12_sellable_X12_laysComes
set_option maxRecDepth 20000 in
theorem ggX12_guards_X12_endingNow : GoodIn wsX12_guards wsX12_endingNow := goodIn_r _ [7, 8, 9, 10, 6, 11, 2, 12, 13, 14, 15, 16, 17, 18, 19, 20, 21, 22, 23, 24, 25, 26, 27, 28, 29, 30, 31, 32, 33, 34, 35, 36, 37, 38, 39, 40, 41, 42, 43, 44, 45, 46, 47, 48, 49, 50, 51, 52, 53, 54, 55, 56, 57, 58, 59, 60, 61, 62, 63, 64, 65, 66, 67, 68, 69, 70, 71, 72, 73, 74, 75, 76, 77, 78, 79, 80, 81, 82, 83, 84, 85, 86, 87, 88, 89, 90, 91, 92, 93, 94, 95] rfl (by decide +kernel)
set_option maxRecDepth 20000 in
theorem gX12_guards_X12_endingNow : GoodIn wsX12_guards (wsV RX12 351 RX12 yX12_endingNow wsX12_endingNow) := goodIn_app (goodIn_r _ [3, 4, 5, 6] rfl (by decide +kernel)) ggX12_guards_X12_endingNow
set_option maxRecDepth 20000 in
theorem ggX12_last_X12_laysComes : GoodIn wsX12_last wsX12_laysComes := goodIn_r _ [7, 2, 8, 9, 10, 11, 6, 12, 13, 14, 15, 16, 17, 18, 19, 20, 21, 22, 23, 24, 25, 26, 27, 28, 29, 30, 31, 32, 33, 34, 35, 36, 37, 38, 39, 40, 41, 42, 43, 44, 45, 46, 47, 48, 49, 50, 51, 52, 53, 54, 55, 56, 57, 58, 59, 60, 61, 62, 63, 64, 65, 66, 67, 68, 69, 70, 71, 72, 73, 74, 75, 76, 77, 78, 79, 80, 81, 82, 83, 84, 85, 86, 87, 88, 89, 90] rfl (by decide +kernel)
set_option maxRecDepth 20000 in
theorem gX12_last_X12_laysComes : GoodIn wsX12_last (wsV RX12 372 RX12 yX12_laysComes wsX12_laysComes) := goodIn_app (goodIn_r _ [3, 4, 5, 6] rfl (by decide +kernel)) ggX12_last_X12_laysComes
set_option maxRecDepth 20000 in
theorem ggX12_last_X12_everyKind : GoodIn wsX12_last wsX12_everyKind := goodIn_r _ [17, 8, 59, 60, 61, 62, 63, 64, 65, 66, 67, 68, 69, 70, 71, 72, 73, 74, 75, 76, 77, 78, 79, 80, 81, 82, 83, 84, 85, 86, 87, 88, 89, 90] rfl (by decide +kernel)
set_option maxRecDepth 20000 in
theorem gX12_last_X12_everyKind : GoodIn wsX12_last (wsV RX12 204 RX12 yX12_everyKind wsX12_everyKind) := goodIn_app (goodIn_r _ [14, 15, 16, 6] rfl (by decide +kernel)) ggX12_last_X12_everyKind
set_option maxRecDepth 20000 in
theorem ggX12_last_X12_shown : GoodIn wsX12_last wsX12_shown := goodIn_r _ [29, 8, 14, 15, 16, 6, 17, 59, 60, 61, 62, 63, 64, 65, 66, 67, 68, 69, 70, 71, 72, 73, 74, 75, 76, 77, 78, 79, 80, 81, 82, 83, 84, 85, 86, 87, 88, 89, 90] rfl (by decide +kernel)
set_option maxRecDepth 20000 in
theorem gX12_last_X12_shown : GoodIn wsX12_last (wsV RX12 207 RX12 yX12_shown wsX12_shown) := goodIn_app (goodIn_r _ [26, 27, 28, 6] rfl (by decide +kernel)) ggX12_last_X12_shown
set_option maxRecDepth 20000 in
theorem ggX12_last_X12_bitsOf : GoodIn wsX12_last wsX12_bitsOf := goodIn_r _ [45] rfl (by decide +kernel)
set_option maxRecDepth 20000 in
theorem gX12_last_X12_bitsOf : GoodIn wsX12_last (va_wsS RX12 217 yX12_bitsOf wsX12_bitsOf) := goodIn_app (goodIn_r _ [43, 44, 6] rfl (by decide +kernel)) ggX12_last_X12_bitsOf
set_option maxRecDepth 20000 in
theorem ggX12_wholeOf_X12_oddsAll : GoodIn wsX12_wholeOf wsX12_oddsAll := goodIn_r _ [5, 6, 10, 11, 12, 13, 14, 15, 16, 17, 18, 19, 20, 21, 22, 23, 24, 25, 26, 27, 28, 29, 30, 31, 32, 33, 34, 35, 36, 37, 38, 39, 40, 41] rfl (by decide +kernel)
set_option maxRecDepth 20000 in
theorem gX12_wholeOf_X12_oddsAll : GoodIn wsX12_wholeOf (wsV RX12 269 RX12 yX12_oddsAll wsX12_oddsAll) := goodIn_app (goodIn_r _ [1, 2, 3, 4] rfl (by decide +kernel)) ggX12_wholeOf_X12_oddsAll
set_option maxRecDepth 20000 in
theorem ggX12_laysDays_X12_beginsRows : GoodIn wsX12_laysDays wsX12_beginsRows := goodIn_r _ [9, 4, 10, 36, 37, 38, 39, 40, 41, 42, 43, 44, 45, 46, 47, 48, 49, 50, 51, 52, 53, 54, 55, 56, 57, 58, 59, 60, 61, 62, 63, 64, 65, 66, 67] rfl (by decide +kernel)
set_option maxRecDepth 20000 in
theorem gX12_laysDays_X12_beginsRows : GoodIn wsX12_laysDays (wsV RX12 361 RX12 yX12_beginsRows wsX12_beginsRows) := goodIn_app (goodIn_r _ [5, 6, 7, 8] rfl (by decide +kernel)) ggX12_laysDays_X12_beginsRows
set_option maxRecDepth 20000 in
theorem ggX12_laysDays_X12_oddsAll : GoodIn wsX12_laysDays wsX12_oddsAll := goodIn_r _ [14, 10, 36, 37, 38, 39, 40, 41, 42, 43, 44, 45, 46, 47, 48, 49, 50, 51, 52, 53, 54, 55, 56, 57, 58, 59, 60, 61, 62, 63, 64, 65, 66, 67] rfl (by decide +kernel)
set_option maxRecDepth 20000 in
theorem gX12_laysDays_X12_oddsAll : GoodIn wsX12_laysDays (wsV RX12 269 RX12 yX12_oddsAll wsX12_oddsAll) := goodIn_app (goodIn_r _ [11, 12, 13, 8] rfl (by decide +kernel)) ggX12_laysDays_X12_oddsAll
set_option maxRecDepth 20000 in
theorem ggX12_laysDays_X12_everyKind : GoodIn wsX12_laysDays wsX12_everyKind := goodIn_r _ [18, 10, 36, 37, 38, 39, 40, 41, 42, 43, 44, 45, 46, 47, 48, 49, 50, 51, 52, 53, 54, 55, 56, 57, 58, 59, 60, 61, 62, 63, 64, 65, 66, 67] rfl (by decide +kernel)
set_option maxRecDepth 20000 in
theorem gX12_laysDays_X12_everyKind : GoodIn wsX12_laysDays (wsV RX12 204 RX12 yX12_everyKind wsX12_everyKind) := goodIn_app (goodIn_r _ [15, 16, 17, 8] rfl (by decide +kernel)) ggX12_laysDays_X12_everyKind
set_option maxRecDepth 20000 in
theorem ggX12_common_X12_common : GoodIn wsX12_common wsX12_common := goodIn_r _ [0, 1, 2, 3] rfl (by decide +kernel)
set_option maxRecDepth 20000 in
theorem gX12_common_X12_common : GoodIn wsX12_common (va_wsS RX12 386 yX12_common wsX12_common) := goodIn_app (goodIn_r _ [1, 2, 3] rfl (by decide +kernel)) ggX12_common_X12_common
set_option maxRecDepth 20000 in
theorem ggX12_part_X12_common : GoodIn wsX12_part wsX12_common := goodIn_r _ [4, 1, 2, 3] rfl (by decide +kernel)
set_option maxRecDepth 20000 in
theorem gX12_part_X12_common : GoodIn wsX12_part (va_wsS RX12 386 yX12_common wsX12_common) := goodIn_app (goodIn_r _ [1, 2, 3] rfl (by decide +kernel)) ggX12_part_X12_common
set_option maxRecDepth 20000 in
theorem ggX12_isLate_X12_within : GoodIn wsX12_isLate wsX12_within := goodIn_r _ [5] rfl (by decide +kernel)
set_option maxRecDepth 20000 in
theorem gX12_isLate_X12_within : GoodIn wsX12_isLate (va_wsS RX12 142 yX12_within wsX12_within) := goodIn_app (goodIn_r _ [2, 3, 4] rfl (by decide +kernel)) ggX12_isLate_X12_within
set_option maxRecDepth 20000 in
theorem ggX12_isPart_X12_within : GoodIn wsX12_isPart wsX12_within := goodIn_r _ [4] rfl (by decide +kernel)
set_option maxRecDepth 20000 in
theorem gX12_isPart_X12_within : GoodIn wsX12_isPart (va_wsS RX12 142 yX12_within wsX12_within) := goodIn_app (goodIn_r _ [1, 2, 3] rfl (by decide +kernel)) ggX12_isPart_X12_within
set_option maxRecDepth 20000 in
theorem ggX12_open_X12_isPart : GoodIn wsX12_open wsX12_isPart := goodIn_r _ [7, 8, 9, 6, 10] rfl (by decide +kernel)
set_option maxRecDepth 20000 in
theorem gX12_open_X12_isPart : GoodIn wsX12_open (va_wsS RX12 390 yX12_isPart wsX12_isPart) := goodIn_app (goodIn_r _ [4, 5, 6] rfl (by decide +kernel)) ggX12_open_X12_isPart
set_option maxRecDepth 20000 in
theorem ggX12_open_X12_isLate : GoodIn wsX12_open wsX12_isLate := goodIn_r _ [13, 14, 8, 9, 6, 10] rfl (by decide +kernel)
set_option maxRecDepth 20000 in
theorem gX12_open_X12_isLate : GoodIn wsX12_open (va_wsS RX12 395 yX12_isLate wsX12_isLate) := goodIn_app (goodIn_r _ [11, 12, 6] rfl (by decide +kernel)) ggX12_open_X12_isLate
set_option maxRecDepth 20000 in
theorem ggX12_open_X12_laysBuys : GoodIn wsX12_open wsX12_laysBuys := goodIn_r _ [18, 19, 20, 21, 22, 23, 6, 24, 25, 26, 27, 28, 29, 30, 31, 32, 33, 34, 35, 36, 37, 38, 39, 40, 41, 42, 43, 44, 45, 46, 47, 48, 49, 50, 51, 52, 53, 54, 55, 56, 57, 58, 59, 60, 61, 107, 108, 109, 110, 111, 112, 113, 114, 115, 116, 117, 118, 119, 120, 121, 122, 123, 124, 125, 126, 127, 128, 129, 130, 131, 132, 133, 134, 135, 136, 137, 138] rfl (by decide +kernel)
set_option maxRecDepth 20000 in
theorem gX12_open_X12_laysBuys : GoodIn wsX12_open (wsV RX12 345 RX12 yX12_laysBuys wsX12_laysBuys) := goodIn_app (goodIn_r _ [15, 16, 17, 6] rfl (by decide +kernel)) ggX12_open_X12_laysBuys
set_option maxRecDepth 20000 in
theorem ggX12_open_X12_laysDays : GoodIn wsX12_open wsX12_laysDays := goodIn_r _ [65, 66, 67, 68, 69, 70, 71, 72, 6, 73, 19, 74, 75, 76, 77, 21, 22, 23, 24, 78, 79, 80, 81, 82, 83, 84, 85, 20, 29, 30, 31, 32, 33, 34, 35, 36, 107, 108, 109, 110, 111, 112, 113, 114, 115, 116, 117, 118, 119, 120, 121, 122, 123, 124, 125, 126, 127, 128, 129, 130, 131, 132, 133, 134, 135, 136, 137, 138] rfl (by decide +kernel)
set_option maxRecDepth 20000 in
theorem gX12_open_X12_laysDays : GoodIn wsX12_open (wsV RX12 398 RX12 yX12_laysDays wsX12_laysDays) := goodIn_app (goodIn_r _ [62, 63, 64, 6] rfl (by decide +kernel)) ggX12_open_X12_laysDays
set_option maxRecDepth 20000 in
theorem ggX12_open_X12_sumRows : GoodIn wsX12_open wsX12_sumRows := goodIn_r _ [89, 69, 107, 108, 109, 110, 111, 112, 113, 114, 115, 116, 117, 118, 119, 120, 121, 122, 123, 124, 125, 126, 127, 128, 129, 130, 131, 132, 133, 134, 135, 136, 137, 138] rfl (by decide +kernel)
set_option maxRecDepth 20000 in
theorem gX12_open_X12_sumRows : GoodIn wsX12_open (wsV RX12 401 RX12 yX12_sumRows wsX12_sumRows) := goodIn_app (goodIn_r _ [86, 87, 88, 6] rfl (by decide +kernel)) ggX12_open_X12_sumRows
set_option maxRecDepth 20000 in
theorem ggX12_open_X12_shutRows : GoodIn wsX12_open wsX12_shutRows := goodIn_r _ [93, 69, 29, 30, 31, 6, 32, 33, 34, 35, 36, 19, 21, 22, 23, 24, 107, 108, 109, 110, 111, 112, 113, 114, 115, 116, 117, 118, 119, 120, 121, 122, 123, 124, 125, 126, 127, 128, 129, 130, 131, 132, 133, 134, 135, 136, 137, 138] rfl (by decide +kernel)
set_option maxRecDepth 20000 in
theorem gX12_open_X12_shutRows : GoodIn wsX12_open (wsV RX12 368 RX12 yX12_shutRows wsX12_shutRows) := goodIn_app (goodIn_r _ [90, 91, 92, 6] rfl (by decide +kernel)) ggX12_open_X12_shutRows
set_option maxRecDepth 20000 in
theorem ggX12_open_X12_wholeOf : GoodIn wsX12_open wsX12_wholeOf := goodIn_r _ [97, 74, 75, 76, 6, 77, 19, 98, 99, 100, 107, 108, 109, 110, 111, 112, 113, 114, 115, 116, 117, 118, 119, 120, 121, 122, 123, 124, 125, 126, 127, 128, 129, 130, 131, 132, 133, 134, 135, 136, 137, 138] rfl (by decide +kernel)
set_option maxRecDepth 20000 in
theorem gX12_open_X12_wholeOf : GoodIn wsX12_open (wsV RX12 404 RX12 yX12_wholeOf wsX12_wholeOf) := goodIn_app (goodIn_r _ [94, 95, 96, 6] rfl (by decide +kernel)) ggX12_open_X12_wholeOf
set_option maxRecDepth 20000 in
theorem ggX12_open_X12_part : GoodIn wsX12_open wsX12_part := goodIn_r _ [103, 104, 105, 6, 106] rfl (by decide +kernel)
set_option maxRecDepth 20000 in
theorem gX12_open_X12_part : GoodIn wsX12_open (va_wsS RX12 408 yX12_part wsX12_part) := goodIn_app (goodIn_r _ [101, 102, 6] rfl (by decide +kernel)) ggX12_open_X12_part
set_option maxRecDepth 20000 in
theorem ggX12_likely_X12_within : GoodIn wsX12_likely wsX12_within := goodIn_r _ [6] rfl (by decide +kernel)
set_option maxRecDepth 20000 in
theorem gX12_likely_X12_within : GoodIn wsX12_likely (va_wsS RX12 142 yX12_within wsX12_within) := goodIn_app (goodIn_r _ [3, 4, 5] rfl (by decide +kernel)) ggX12_likely_X12_within
set_option maxRecDepth 20000 in
theorem ggX12_likely_X12_laysBuys : GoodIn wsX12_likely wsX12_laysBuys := goodIn_r _ [10, 11, 12, 13, 14, 15, 5, 16, 17, 18, 19, 20, 21, 22, 23, 24, 25, 26, 27, 28, 29, 30, 31, 32, 33, 34, 35, 36, 37, 38, 39, 40, 41, 42, 43, 44, 45, 46, 47, 48, 49, 50, 51, 52, 53, 92, 93, 94, 95, 96, 97, 98, 99, 100, 101, 102, 103, 104, 105, 106, 107, 108, 109, 110, 111, 112, 113, 114, 115, 116, 117, 118, 119, 120, 121, 122, 123] rfl (by decide +kernel)
set_option maxRecDepth 20000 in
theorem gX12_likely_X12_laysBuys : GoodIn wsX12_likely (wsV RX12 345 RX12 yX12_laysBuys wsX12_laysBuys) := goodIn_app (goodIn_r _ [7, 8, 9, 5] rfl (by decide +kernel)) ggX12_likely_X12_laysBuys
set_option maxRecDepth 20000 in
theorem ggX12_likely_X12_laysDays : GoodIn wsX12_likely wsX12_laysDays := goodIn_r _ [57, 58, 59, 60, 61, 62, 63, 64, 5, 65, 11, 66, 67, 68, 69, 13, 14, 15, 16, 70, 71, 72, 73, 74, 75, 76, 77, 12, 21, 22, 23, 24, 25, 26, 27, 28, 92, 93, 94, 95, 96, 97, 98, 99, 100, 101, 102, 103, 104, 105, 106, 107, 108, 109, 110, 111, 112, 113, 114, 115, 116, 117, 118, 119, 120, 121, 122, 123] rfl (by decide +kernel)
set_option maxRecDepth 20000 in
theorem gX12_likely_X12_laysDays : GoodIn wsX12_likely (wsV RX12 398 RX12 yX12_laysDays wsX12_laysDays) := goodIn_app (goodIn_r _ [54, 55, 56, 5] rfl (by decide +kernel)) ggX12_likely_X12_laysDays
set_option maxRecDepth 20000 in
theorem ggX12_likely_X12_shutRows : GoodIn wsX12_likely wsX12_shutRows := goodIn_r _ [81, 61, 21, 22, 23, 5, 24, 25, 26, 27, 28, 11, 13, 14, 15, 16, 92, 93, 94, 95, 96, 97, 98, 99, 100, 101, 102, 103, 104, 105, 106, 107, 108, 109, 110, 111, 112, 113, 114, 115, 116, 117, 118, 119, 120, 121, 122, 123] rfl (by decide +kernel)
set_option maxRecDepth 20000 in
theorem gX12_likely_X12_shutRows : GoodIn wsX12_likely (wsV RX12 368 RX12 yX12_shutRows wsX12_shutRows) := goodIn_app (goodIn_r _ [78, 79, 80, 5] rfl (by decide +kernel)) ggX12_likely_X12_shutRows
set_option maxRecDepth 20000 in
theorem ggX12_likely_X12_wholeOf : GoodIn wsX12_likely wsX12_wholeOf := goodIn_r _ [85, 66, 67, 68, 5, 69, 11, 86, 87, 88, 92, 93, 94, 95, 96, 97, 98, 99, 100, 101, 102, 103, 104, 105, 106, 107, 108, 109, 110, 111, 112, 113, 114, 115, 116, 117, 118, 119, 120, 121, 122, 123] rfl (by decide +kernel)
set_option maxRecDepth 20000 in
theorem gX12_likely_X12_wholeOf : GoodIn wsX12_likely (wsV RX12 404 RX12 yX12_wholeOf wsX12_wholeOf) := goodIn_app (goodIn_r _ [82, 83, 84, 5] rfl (by decide +kernel)) ggX12_likely_X12_wholeOf
set_option maxRecDepth 20000 in
theorem ggX12_likely_X12_isMuch : GoodIn wsX12_likely wsX12_isMuch := goodIn_r _ [91, 2] rfl (by decide +kernel)
set_option maxRecDepth 20000 in
theorem gX12_likely_X12_isMuch : GoodIn wsX12_likely (va_wsS RX12 412 yX12_isMuch wsX12_isMuch) := goodIn_app (goodIn_r _ [89, 90, 5] rfl (by decide +kernel)) ggX12_likely_X12_isMuch
set_option maxRecDepth 20000 in
theorem ggX12_shutsBy_X12_isBuyer : GoodIn wsX12_shutsBy wsX12_isBuyer := goodIn_r _ [9, 10, 11, 12, 8, 13, 103, 104, 105, 106, 107, 108, 109, 110, 111, 112, 113, 114, 115, 116, 117, 118, 119, 120, 121, 122, 123, 124, 125, 126, 127, 128, 129, 130, 131, 132, 133, 134] rfl (by decide +kernel)
set_option maxRecDepth 20000 in
theorem gX12_shutsBy_X12_isBuyer : GoodIn wsX12_shutsBy (wsV RX12 252 RX12 yX12_isBuyer wsX12_isBuyer) := goodIn_app (goodIn_r _ [5, 6, 7, 8] rfl (by decide +kernel)) ggX12_shutsBy_X12_isBuyer
set_option maxRecDepth 20000 in
theorem ggX12_shutsBy_X12_isPart : GoodIn wsX12_shutsBy wsX12_isPart := goodIn_r _ [16, 11, 12, 8, 13] rfl (by decide +kernel)
set_option maxRecDepth 20000 in
theorem gX12_shutsBy_X12_isPart : GoodIn wsX12_shutsBy (va_wsS RX12 390 yX12_isPart wsX12_isPart) := goodIn_app (goodIn_r _ [14, 15, 8] rfl (by decide +kernel)) ggX12_shutsBy_X12_isPart
set_option maxRecDepth 20000 in
theorem ggX12_shutsBy_X12_isLate : GoodIn wsX12_shutsBy wsX12_isLate := goodIn_r _ [19, 20, 11, 12, 8, 13] rfl (by decide +kernel)
set_option maxRecDepth 20000 in
theorem gX12_shutsBy_X12_isLate : GoodIn wsX12_shutsBy (va_wsS RX12 395 yX12_isLate wsX12_isLate) := goodIn_app (goodIn_r _ [17, 18, 8] rfl (by decide +kernel)) ggX12_shutsBy_X12_isLate
set_option maxRecDepth 20000 in
theorem ggX12_shutsBy_X12_laysBuys : GoodIn wsX12_shutsBy wsX12_laysBuys := goodIn_r _ [24, 10, 25, 26, 27, 28, 8, 29, 30, 31, 32, 33, 34, 35, 36, 37, 38, 39, 40, 41, 42, 43, 44, 45, 46, 47, 48, 49, 50, 51, 52, 53, 54, 55, 56, 57, 58, 59, 60, 61, 62, 63, 64, 65, 66, 103, 104, 105, 106, 107, 108, 109, 110, 111, 112, 113, 114, 115, 116, 117, 118, 119, 120, 121, 122, 123, 124, 125, 126, 127, 128, 129, 130, 131, 132, 133, 134] rfl (by decide +kernel)
set_option maxRecDepth 20000 in
theorem gX12_shutsBy_X12_laysBuys : GoodIn wsX12_shutsBy (wsV RX12 345 RX12 yX12_laysBuys wsX12_laysBuys) := goodIn_app (goodIn_r _ [21, 22, 23, 8] rfl (by decide +kernel)) ggX12_shutsBy_X12_laysBuys
set_option maxRecDepth 20000 in
theorem ggX12_shutsBy_X12_laysDays : GoodIn wsX12_shutsBy wsX12_laysDays := goodIn_r _ [70, 71, 4, 72, 73, 74, 75, 76, 8, 77, 10, 78, 79, 80, 81, 26, 27, 28, 29, 82, 83, 84, 85, 86, 87, 88, 89, 25, 34, 35, 36, 37, 38, 39, 40, 41, 103, 104, 105, 106, 107, 108, 109, 110, 111, 112, 113, 114, 115, 116, 117, 118, 119, 120, 121, 122, 123, 124, 125, 126, 127, 128, 129, 130, 131, 132, 133, 134] rfl (by decide +kernel)
set_option maxRecDepth 20000 in
theorem gX12_shutsBy_X12_laysDays : GoodIn wsX12_shutsBy (wsV RX12 398 RX12 yX12_laysDays wsX12_laysDays) := goodIn_app (goodIn_r _ [67, 68, 69, 8] rfl (by decide +kernel)) ggX12_shutsBy_X12_laysDays
set_option maxRecDepth 20000 in
theorem ggX12_shutsBy_X12_wholeOf : GoodIn wsX12_shutsBy wsX12_wholeOf := goodIn_r _ [93, 78, 79, 80, 8, 81, 10, 94, 95, 96, 103, 104, 105, 106, 107, 108, 109, 110, 111, 112, 113, 114, 115, 116, 117, 118, 119, 120, 121, 122, 123, 124, 125, 126, 127, 128, 129, 130, 131, 132, 133, 134] rfl (by decide +kernel)
set_option maxRecDepth 20000 in
theorem gX12_shutsBy_X12_wholeOf : GoodIn wsX12_shutsBy (wsV RX12 404 RX12 yX12_wholeOf wsX12_wholeOf) := goodIn_app (goodIn_r _ [90, 91, 92, 8] rfl (by decide +kernel)) ggX12_shutsBy_X12_wholeOf
set_option maxRecDepth 20000 in
theorem ggX12_shutsBy_X12_part : GoodIn wsX12_shutsBy wsX12_part := goodIn_r _ [99, 100, 101, 8, 102] rfl (by decide +kernel)
set_option maxRecDepth 20000 in
theorem gX12_shutsBy_X12_part : GoodIn wsX12_shutsBy (va_wsS RX12 408 yX12_part wsX12_part) := goodIn_app (goodIn_r _ [97, 98, 8] rfl (by decide +kernel)) ggX12_shutsBy_X12_part
set_option maxRecDepth 20000 in
theorem ggX12_closer_X12_isLate : GoodIn wsX12_closer wsX12_isLate := goodIn_r _ [7, 8, 9, 10, 6, 11] rfl (by decide +kernel)
set_option maxRecDepth 20000 in
theorem gX12_closer_X12_isLate : GoodIn wsX12_closer (va_wsS RX12 395 yX12_isLate wsX12_isLate) := goodIn_app (goodIn_r _ [4, 5, 6] rfl (by decide +kernel)) ggX12_closer_X12_isLate
set_option maxRecDepth 20000 in
theorem ggX12_closer_X12_laysBuys : GoodIn wsX12_closer wsX12_laysBuys := goodIn_r _ [15, 2, 16, 17, 18, 19, 6, 20, 21, 22, 23, 24, 25, 26, 27, 28, 29, 30, 31, 32, 33, 34, 35, 36, 37, 38, 39, 40, 41, 42, 43, 44, 45, 46, 47, 48, 49, 50, 51, 52, 53, 54, 55, 56, 57, 81, 82, 83, 84, 85, 86, 87, 88, 89, 90, 91, 92, 93, 94, 95, 96, 97, 98, 99, 100, 101, 102, 103, 104, 105, 106, 107, 108, 109, 110, 111, 112] rfl (by decide +kernel)
set_option maxRecDepth 20000 in
theorem gX12_closer_X12_laysBuys : GoodIn wsX12_closer (wsV RX12 345 RX12 yX12_laysBuys wsX12_laysBuys) := goodIn_app (goodIn_r _ [12, 13, 14, 6] rfl (by decide +kernel)) ggX12_closer_X12_laysBuys
set_option maxRecDepth 20000 in
theorem ggX12_closer_X12_laysDays : GoodIn wsX12_closer wsX12_laysDays := goodIn_r _ [61, 62, 3, 63, 64, 65, 66, 67, 6, 68, 2, 69, 70, 71, 72, 17, 18, 19, 20, 73, 74, 75, 76, 77, 78, 79, 80, 16, 25, 26, 27, 28, 29, 30, 31, 32, 81, 82, 83, 84, 85, 86, 87, 88, 89, 90, 91, 92, 93, 94, 95, 96, 97, 98, 99, 100, 101, 102, 103, 104, 105, 106, 107, 108, 109, 110, 111, 112] rfl (by decide +kernel)
set_option maxRecDepth 20000 in
theorem gX12_closer_X12_laysDays : GoodIn wsX12_closer (wsV RX12 398 RX12 yX12_laysDays wsX12_laysDays) := goodIn_app (goodIn_r _ [58, 59, 60, 6] rfl (by decide +kernel)) ggX12_closer_X12_laysDays
set_option maxRecDepth 20000 in
theorem ggX12_soldIn_X12_isKind : GoodIn wsX12_soldIn wsX12_isKind := goodIn_r _ [9, 10, 11, 12, 8, 13, 103, 104, 105, 106, 107, 108, 109, 110, 111, 112, 113, 114, 115, 116, 117, 118, 119, 120, 121, 122, 123, 124, 125, 126, 127, 128, 129, 130, 131, 132, 133, 134] rfl (by decide +kernel)
set_option maxRecDepth 20000 in
theorem gX12_soldIn_X12_isKind : GoodIn wsX12_soldIn (wsV RX12 245 RX12 yX12_isKind wsX12_isKind) := goodIn_app (goodIn_r _ [5, 6, 7, 8] rfl (by decide +kernel)) ggX12_soldIn_X12_isKind
set_option maxRecDepth 20000 in
theorem ggX12_soldIn_X12_isPart : GoodIn wsX12_soldIn wsX12_isPart := goodIn_r _ [16, 11, 12, 8, 13] rfl (by decide +kernel)
set_option maxRecDepth 20000 in
theorem gX12_soldIn_X12_isPart : GoodIn wsX12_soldIn (va_wsS RX12 390 yX12_isPart wsX12_isPart) := goodIn_app (goodIn_r _ [14, 15, 8] rfl (by decide +kernel)) ggX12_soldIn_X12_isPart
set_option maxRecDepth 20000 in
theorem ggX12_soldIn_X12_isLate : GoodIn wsX12_soldIn wsX12_isLate := goodIn_r _ [19, 20, 11, 12, 8, 13] rfl (by decide +kernel)
set_option maxRecDepth 20000 in
theorem gX12_soldIn_X12_isLate : GoodIn wsX12_soldIn (va_wsS RX12 395 yX12_isLate wsX12_isLate) := goodIn_app (goodIn_r _ [17, 18, 8] rfl (by decide +kernel)) ggX12_soldIn_X12_isLate
set_option maxRecDepth 20000 in
theorem ggX12_soldIn_X12_laysBuys : GoodIn wsX12_soldIn wsX12_laysBuys := goodIn_r _ [24, 10, 25, 26, 27, 28, 8, 29, 30, 31, 32, 33, 34, 35, 36, 37, 38, 39, 40, 41, 42, 43, 44, 45, 46, 47, 48, 49, 50, 51, 52, 53, 54, 55, 56, 57, 58, 59, 60, 61, 62, 63, 64, 65, 66, 103, 104, 105, 106, 107, 108, 109, 110, 111, 112, 113, 114, 115, 116, 117, 118, 119, 120, 121, 122, 123, 124, 125, 126, 127, 128, 129, 130, 131, 132, 133, 134] rfl (by decide +kernel)
set_option maxRecDepth 20000 in
theorem gX12_soldIn_X12_laysBuys : GoodIn wsX12_soldIn (wsV RX12 345 RX12 yX12_laysBuys wsX12_laysBuys) := goodIn_app (goodIn_r _ [21, 22, 23, 8] rfl (by decide +kernel)) ggX12_soldIn_X12_laysBuys
set_option maxRecDepth 20000 in
theorem ggX12_soldIn_X12_laysDays : GoodIn wsX12_soldIn wsX12_laysDays := goodIn_r _ [70, 71, 72, 73, 4, 74, 75, 76, 8, 77, 10, 78, 79, 80, 81, 26, 27, 28, 29, 82, 83, 84, 85, 86, 87, 88, 89, 25, 34, 35, 36, 37, 38, 39, 40, 41, 103, 104, 105, 106, 107, 108, 109, 110, 111, 112, 113, 114, 115, 116, 117, 118, 119, 120, 121, 122, 123, 124, 125, 126, 127, 128, 129, 130, 131, 132, 133, 134] rfl (by decide +kernel)
set_option maxRecDepth 20000 in
theorem gX12_soldIn_X12_laysDays : GoodIn wsX12_soldIn (wsV RX12 398 RX12 yX12_laysDays wsX12_laysDays) := goodIn_app (goodIn_r _ [67, 68, 69, 8] rfl (by decide +kernel)) ggX12_soldIn_X12_laysDays
set_option maxRecDepth 20000 in
theorem ggX12_soldIn_X12_wholeOf : GoodIn wsX12_soldIn wsX12_wholeOf := goodIn_r _ [93, 78, 79, 80, 8, 81, 10, 94, 95, 96, 103, 104, 105, 106, 107, 108, 109, 110, 111, 112, 113, 114, 115, 116, 117, 118, 119, 120, 121, 122, 123, 124, 125, 126, 127, 128, 129, 130, 131, 132, 133, 134] rfl (by decide +kernel)
set_option maxRecDepth 20000 in
theorem gX12_soldIn_X12_wholeOf : GoodIn wsX12_soldIn (wsV RX12 404 RX12 yX12_wholeOf wsX12_wholeOf) := goodIn_app (goodIn_r _ [90, 91, 92, 8] rfl (by decide +kernel)) ggX12_soldIn_X12_wholeOf
set_option maxRecDepth 20000 in
theorem ggX12_soldIn_X12_part : GoodIn wsX12_soldIn wsX12_part := goodIn_r _ [99, 100, 101, 8, 102] rfl (by decide +kernel)
set_option maxRecDepth 20000 in
theorem gX12_soldIn_X12_part : GoodIn wsX12_soldIn (va_wsS RX12 408 yX12_part wsX12_part) := goodIn_app (goodIn_r _ [97, 98, 8] rfl (by decide +kernel)) ggX12_soldIn_X12_part
set_option maxRecDepth 20000 in
theorem ggX12_hides_X12_isPart : GoodIn wsX12_hides wsX12_isPart := goodIn_r _ [7, 8, 9, 6, 10] rfl (by decide +kernel)
set_option maxRecDepth 20000 in
theorem gX12_hides_X12_isPart : GoodIn wsX12_hides (va_wsS RX12 390 yX12_isPart wsX12_isPart) := goodIn_app (goodIn_r _ [4, 5, 6] rfl (by decide +kernel)) ggX12_hides_X12_isPart
set_option maxRecDepth 20000 in
theorem ggX12_hides_X12_within : GoodIn wsX12_hides wsX12_within := goodIn_r _ [10] rfl (by decide +kernel)
set_option maxRecDepth 20000 in
theorem gX12_hides_X12_within : GoodIn wsX12_hides (va_wsS RX12 142 yX12_within wsX12_within) := goodIn_app (goodIn_r _ [8, 9, 6] rfl (by decide +kernel)) ggX12_hides_X12_within
set_option maxRecDepth 20000 in
theorem ggX12_hides_X12_isShut : GoodIn wsX12_hides wsX12_isShut := goodIn_r _ [14, 15, 16, 17, 18, 6, 19, 20, 21, 22, 23, 24, 25, 26, 27, 98, 99, 100, 101, 102, 103, 104, 105, 106, 107, 108, 109, 110, 111, 112, 113, 114, 115, 116, 117, 118, 119, 120, 121, 122, 123, 124, 125, 126, 127, 128, 129] rfl (by decide +kernel)
set_option maxRecDepth 20000 in
theorem gX12_hides_X12_isShut : GoodIn wsX12_hides (wsV RX12 259 RX12 yX12_isShut wsX12_isShut) := goodIn_app (goodIn_r _ [11, 12, 13, 6] rfl (by decide +kernel)) ggX12_hides_X12_isShut
set_option maxRecDepth 20000 in
theorem ggX12_hides_X12_shown : GoodIn wsX12_hides wsX12_shown := goodIn_r _ [23, 15, 24, 25, 26, 6, 27, 98, 99, 100, 101, 102, 103, 104, 105, 106, 107, 108, 109, 110, 111, 112, 113, 114, 115, 116, 117, 118, 119, 120, 121, 122, 123, 124, 125, 126, 127, 128, 129] rfl (by decide +kernel)
set_option maxRecDepth 20000 in
theorem gX12_hides_X12_shown : GoodIn wsX12_hides (wsV RX12 207 RX12 yX12_shown wsX12_shown) := goodIn_app (goodIn_r _ [20, 21, 22, 6] rfl (by decide +kernel)) ggX12_hides_X12_shown
set_option maxRecDepth 20000 in
theorem ggX12_hides_X12_bitsOf : GoodIn wsX12_hides wsX12_bitsOf := goodIn_r _ [56] rfl (by decide +kernel)
set_option maxRecDepth 20000 in
theorem gX12_hides_X12_bitsOf : GoodIn wsX12_hides (va_wsS RX12 217 yX12_bitsOf wsX12_bitsOf) := goodIn_app (goodIn_r _ [54, 55, 6] rfl (by decide +kernel)) ggX12_hides_X12_bitsOf
set_option maxRecDepth 20000 in
theorem ggX12_rota_X12_isPart : GoodIn wsX12_rota wsX12_isPart := goodIn_r _ [5, 6, 7, 4, 8] rfl (by decide +kernel)
set_option maxRecDepth 20000 in
theorem gX12_rota_X12_isPart : GoodIn wsX12_rota (va_wsS RX12 390 yX12_isPart wsX12_isPart) := goodIn_app (goodIn_r _ [2, 3, 4] rfl (by decide +kernel)) ggX12_rota_X12_isPart
set_option maxRecDepth 20000 in
theorem ggX12_rota_X12_isShut : GoodIn wsX12_rota wsX12_isShut := goodIn_r _ [12, 13, 14, 15, 16, 4, 17, 18, 19, 20, 21, 22, 23, 24, 25, 86, 87, 88, 89, 90, 91, 92, 93, 94, 95, 96, 97, 98, 99, 100, 101, 102, 103, 104, 105, 106, 107, 108, 109, 110, 111, 112, 113, 114, 115, 116, 117] rfl (by decide +kernel)
set_option maxRecDepth 20000 in
theorem gX12_rota_X12_isShut : GoodIn wsX12_rota (wsV RX12 259 RX12 yX12_isShut wsX12_isShut) := goodIn_app (goodIn_r _ [9, 10, 11, 4] rfl (by decide +kernel)) ggX12_rota_X12_isShut
set_option maxRecDepth 20000 in
theorem ggX12_rota_X12_shown : GoodIn wsX12_rota wsX12_shown := goodIn_r _ [21, 13, 22, 23, 24, 4, 25, 86, 87, 88, 89, 90, 91, 92, 93, 94, 95, 96, 97, 98, 99, 100, 101, 102, 103, 104, 105, 106, 107, 108, 109, 110, 111, 112, 113, 114, 115, 116, 117] rfl (by decide +kernel)
set_option maxRecDepth 20000 in
theorem gX12_rota_X12_shown : GoodIn wsX12_rota (wsV RX12 207 RX12 yX12_shown wsX12_shown) := goodIn_app (goodIn_r _ [18, 19, 20, 4] rfl (by decide +kernel)) ggX12_rota_X12_shown
set_option maxRecDepth 20000 in
theorem ggX12_rota_X12_bitsOf : GoodIn wsX12_rota wsX12_bitsOf := goodIn_r _ [53] rfl (by decide +kernel)
set_option maxRecDepth 20000 in
theorem gX12_rota_X12_bitsOf : GoodIn wsX12_rota (va_wsS RX12 217 yX12_bitsOf wsX12_bitsOf) := goodIn_app (goodIn_r _ [51, 52, 4] rfl (by decide +kernel)) ggX12_rota_X12_bitsOf
set_option maxRecDepth 20000 in
theorem ggX12_earns_X12_isPart : GoodIn wsX12_earns wsX12_isPart := goodIn_r _ [9, 10, 11, 8, 12] rfl (by decide +kernel)
set_option maxRecDepth 20000 in
theorem gX12_earns_X12_isPart : GoodIn wsX12_earns (va_wsS RX12 390 yX12_isPart wsX12_isPart) := goodIn_app (goodIn_r _ [6, 7, 8] rfl (by decide +kernel)) ggX12_earns_X12_isPart
set_option maxRecDepth 20000 in
theorem ggX12_earns_X12_within : GoodIn wsX12_earns wsX12_within := goodIn_r _ [12] rfl (by decide +kernel)
set_option maxRecDepth 20000 in
theorem gX12_earns_X12_within : GoodIn wsX12_earns (va_wsS RX12 142 yX12_within wsX12_within) := goodIn_app (goodIn_r _ [10, 11, 8] rfl (by decide +kernel)) ggX12_earns_X12_within
set_option maxRecDepth 20000 in
theorem ggX12_earns_X12_laysBuys : GoodIn wsX12_earns wsX12_laysBuys := goodIn_r _ [16, 17, 18, 19, 20, 21, 8, 22, 23, 24, 25, 26, 27, 28, 29, 30, 31, 32, 33, 34, 35, 36, 37, 38, 39, 40, 41, 42, 43, 44, 45, 46, 47, 48, 49, 50, 51, 52, 53, 54, 55, 56, 57, 58, 59, 96, 97, 98, 99, 100, 101, 102, 103, 104, 105, 106, 107, 108, 109, 110, 111, 112, 113, 114, 115, 116, 117, 118, 119, 120, 121, 122, 123, 124, 125, 126, 127] rfl (by decide +kernel)
set_option maxRecDepth 20000 in
theorem gX12_earns_X12_laysBuys : GoodIn wsX12_earns (wsV RX12 345 RX12 yX12_laysBuys wsX12_laysBuys) := goodIn_app (goodIn_r _ [13, 14, 15, 8] rfl (by decide +kernel)) ggX12_earns_X12_laysBuys
set_option maxRecDepth 20000 in
theorem ggX12_earns_X12_laysDays : GoodIn wsX12_earns wsX12_laysDays := goodIn_r _ [63, 5, 64, 65, 66, 67, 68, 69, 8, 70, 17, 71, 72, 73, 74, 19, 20, 21, 22, 75, 76, 77, 78, 79, 80, 81, 82, 18, 27, 28, 29, 30, 31, 32, 33, 34, 96, 97, 98, 99, 100, 101, 102, 103, 104, 105, 106, 107, 108, 109, 110, 111, 112, 113, 114, 115, 116, 117, 118, 119, 120, 121, 122, 123, 124, 125, 126, 127] rfl (by decide +kernel)
set_option maxRecDepth 20000 in
theorem gX12_earns_X12_laysDays : GoodIn wsX12_earns (wsV RX12 398 RX12 yX12_laysDays wsX12_laysDays) := goodIn_app (goodIn_r _ [60, 61, 62, 8] rfl (by decide +kernel)) ggX12_earns_X12_laysDays
set_option maxRecDepth 20000 in
theorem ggX12_earns_X12_wholeOf : GoodIn wsX12_earns wsX12_wholeOf := goodIn_r _ [86, 71, 72, 73, 8, 74, 17, 87, 88, 89, 96, 97, 98, 99, 100, 101, 102, 103, 104, 105, 106, 107, 108, 109, 110, 111, 112, 113, 114, 115, 116, 117, 118, 119, 120, 121, 122, 123, 124, 125, 126, 127] rfl (by decide +kernel)
set_option maxRecDepth 20000 in
theorem gX12_earns_X12_wholeOf : GoodIn wsX12_earns (wsV RX12 404 RX12 yX12_wholeOf wsX12_wholeOf) := goodIn_app (goodIn_r _ [83, 84, 85, 8] rfl (by decide +kernel)) ggX12_earns_X12_wholeOf
set_option maxRecDepth 20000 in
theorem ggX12_earns_X12_part : GoodIn wsX12_earns wsX12_part := goodIn_r _ [92, 93, 94, 8, 95] rfl (by decide +kernel)
set_option maxRecDepth 20000 in
theorem gX12_earns_X12_part : GoodIn wsX12_earns (va_wsS RX12 408 yX12_part wsX12_part) := goodIn_app (goodIn_r _ [90, 91, 8] rfl (by decide +kernel)) ggX12_earns_X12_part
set_option maxRecDepth 20000 in
theorem ggX12_bestPrice_X12_isKind : GoodIn wsX12_bestPrice wsX12_isKind := goodIn_r _ [10, 3, 11, 12, 9, 13, 87, 88, 89, 90, 91, 92, 93, 94, 95, 96, 97, 98, 99, 100, 101, 102, 103, 104, 105, 106, 107, 108, 109, 110, 111, 112, 113, 114, 115, 116, 117, 118] rfl (by decide +kernel)
set_option maxRecDepth 20000 in
theorem gX12_bestPrice_X12_isKind : GoodIn wsX12_bestPrice (wsV RX12 245 RX12 yX12_isKind wsX12_isKind) := goodIn_app (goodIn_r _ [6, 7, 8, 9] rfl (by decide +kernel)) ggX12_bestPrice_X12_isKind
set_option maxRecDepth 20000 in
theorem ggX12_bestPrice_X12_within : GoodIn wsX12_bestPrice wsX12_within := goodIn_r _ [13] rfl (by decide +kernel)
set_option maxRecDepth 20000 in
theorem gX12_bestPrice_X12_within : GoodIn wsX12_bestPrice (va_wsS RX12 142 yX12_within wsX12_within) := goodIn_app (goodIn_r _ [11, 12, 9] rfl (by decide +kernel)) ggX12_bestPrice_X12_within
set_option maxRecDepth 20000 in
theorem ggX12_bestPrice_X12_isShut : GoodIn wsX12_bestPrice wsX12_isShut := goodIn_r _ [17, 3, 18, 19, 20, 9, 21, 22, 23, 24, 25, 26, 27, 28, 29, 87, 88, 89, 90, 91, 92, 93, 94, 95, 96, 97, 98, 99, 100, 101, 102, 103, 104, 105, 106, 107, 108, 109, 110, 111, 112, 113, 114, 115, 116, 117, 118] rfl (by decide +kernel)
set_option maxRecDepth 20000 in
theorem gX12_bestPrice_X12_isShut : GoodIn wsX12_bestPrice (wsV RX12 259 RX12 yX12_isShut wsX12_isShut) := goodIn_app (goodIn_r _ [14, 15, 16, 9] rfl (by decide +kernel)) ggX12_bestPrice_X12_isShut
set_option maxRecDepth 20000 in
theorem ggX12_bestPrice_X12_laysBuys : GoodIn wsX12_bestPrice wsX12_laysBuys := goodIn_r _ [33, 3, 34, 26, 27, 28, 9, 29, 35, 36, 37, 38, 18, 19, 20, 21, 22, 23, 24, 25, 39, 40, 41, 42, 43, 44, 45, 46, 47, 48, 49, 50, 51, 52, 53, 54, 55, 56, 57, 58, 59, 60, 61, 62, 63, 87, 88, 89, 90, 91, 92, 93, 94, 95, 96, 97, 98, 99, 100, 101, 102, 103, 104, 105, 106, 107, 108, 109, 110, 111, 112, 113, 114, 115, 116, 117, 118] rfl (by decide +kernel)
set_option maxRecDepth 20000 in
theorem gX12_bestPrice_X12_laysBuys : GoodIn wsX12_bestPrice (wsV RX12 345 RX12 yX12_laysBuys wsX12_laysBuys) := goodIn_app (goodIn_r _ [30, 31, 32, 9] rfl (by decide +kernel)) ggX12_bestPrice_X12_laysBuys
set_option maxRecDepth 20000 in
theorem ggX12_bestPrice_X12_laysDays : GoodIn wsX12_bestPrice wsX12_laysDays := goodIn_r _ [67, 5, 68, 69, 70, 71, 72, 73, 9, 74, 3, 75, 76, 77, 78, 26, 27, 28, 29, 79, 80, 81, 82, 83, 84, 85, 86, 34, 18, 19, 20, 21, 22, 23, 24, 25, 87, 88, 89, 90, 91, 92, 93, 94, 95, 96, 97, 98, 99, 100, 101, 102, 103, 104, 105, 106, 107, 108, 109, 110, 111, 112, 113, 114, 115, 116, 117, 118] rfl (by decide +kernel)
set_option maxRecDepth 20000 in
theorem gX12_bestPrice_X12_laysDays : GoodIn wsX12_bestPrice (wsV RX12 398 RX12 yX12_laysDays wsX12_laysDays) := goodIn_app (goodIn_r _ [64, 65, 66, 9] rfl (by decide +kernel)) ggX12_bestPrice_X12_laysDays
set_option maxRecDepth 20000 in
theorem ggX12_noSeen_X12_noTray : GoodIn wsX12_noSeen wsX12_noTray := goodIn_r _ [10, 11, 12, 13, 14, 9, 15, 25, 26, 27, 28, 29, 30, 31, 32, 33, 34, 35, 36, 37, 38, 39, 40, 41, 42, 43, 44, 45, 46, 47, 48, 49, 50, 51, 52, 53, 54, 55, 56] rfl (by decide +kernel)
set_option maxRecDepth 20000 in
theorem gX12_noSeen_X12_noTray : GoodIn wsX12_noSeen (wsV RX12 327 RX12 yX12_noTray wsX12_noTray) := goodIn_app (goodIn_r _ [6, 7, 8, 9] rfl (by decide +kernel)) ggX12_noSeen_X12_noTray
set_option maxRecDepth 20000 in
theorem ggX12_noSeen_X12_within : GoodIn wsX12_noSeen wsX12_within := goodIn_r _ [15] rfl (by decide +kernel)
set_option maxRecDepth 20000 in
theorem gX12_noSeen_X12_within : GoodIn wsX12_noSeen (va_wsS RX12 142 yX12_within wsX12_within) := goodIn_app (goodIn_r _ [13, 14, 9] rfl (by decide +kernel)) ggX12_noSeen_X12_within
set_option maxRecDepth 20000 in
theorem ggX12_noSeen_X12_isBuyer : GoodIn wsX12_noSeen wsX12_isBuyer := goodIn_r _ [19, 20, 13, 14, 9, 15, 25, 26, 27, 28, 29, 30, 31, 32, 33, 34, 35, 36, 37, 38, 39, 40, 41, 42, 43, 44, 45, 46, 47, 48, 49, 50, 51, 52, 53, 54, 55, 56] rfl (by decide +kernel)
set_option maxRecDepth 20000 in
theorem gX12_noSeen_X12_isBuyer : GoodIn wsX12_noSeen (wsV RX12 252 RX12 yX12_isBuyer wsX12_isBuyer) := goodIn_app (goodIn_r _ [16, 17, 18, 9] rfl (by decide +kernel)) ggX12_noSeen_X12_isBuyer
set_option maxRecDepth 20000 in
theorem ggX12_noSeen_X12_isKind : GoodIn wsX12_noSeen wsX12_isKind := goodIn_r _ [24, 20, 13, 14, 9, 15, 25, 26, 27, 28, 29, 30, 31, 32, 33, 34, 35, 36, 37, 38, 39, 40, 41, 42, 43, 44, 45, 46, 47, 48, 49, 50, 51, 52, 53, 54, 55, 56] rfl (by decide +kernel)
set_option maxRecDepth 20000 in
theorem gX12_noSeen_X12_isKind : GoodIn wsX12_noSeen (wsV RX12 245 RX12 yX12_isKind wsX12_isKind) := goodIn_app (goodIn_r _ [21, 22, 23, 9] rfl (by decide +kernel)) ggX12_noSeen_X12_isKind
set_option maxRecDepth 20000 in
theorem ggX12_seen_X12_noSeen : GoodIn wsX12_seen wsX12_noSeen := goodIn_r _ [6, 7, 8, 9, 10, 11, 12, 13, 14, 5, 15, 16, 17, 18, 19, 20, 21, 22, 23, 24, 25, 26, 27, 28, 29, 85, 86, 87, 88, 89, 90, 91, 92, 93, 94, 95, 96, 97, 98, 99, 100, 101, 102, 103, 104, 105, 106, 107, 108, 109, 110, 111, 112, 113, 114, 115, 116] rfl (by decide +kernel)
set_option maxRecDepth 20000 in
theorem gX12_seen_X12_noSeen : GoodIn wsX12_seen (wsV RX12 435 RX12 yX12_noSeen wsX12_noSeen) := goodIn_app (goodIn_r _ [2, 3, 4, 5] rfl (by decide +kernel)) ggX12_seen_X12_noSeen
set_option maxRecDepth 20000 in
theorem ggX12_sureGone_X12_noSeen : GoodIn wsX12_sureGone wsX12_noSeen := goodIn_r _ [7, 8, 9, 10, 11, 12, 13, 14, 15, 6, 16, 17, 18, 19, 20, 21, 22, 23, 24, 25, 26, 27, 28, 29, 30, 85, 86, 87, 88, 89, 90, 91, 92, 93, 94, 95, 96, 97, 98, 99, 100, 101, 102, 103, 104, 105, 106, 107, 108, 109, 110, 111, 112, 113, 114, 115, 116] rfl (by decide +kernel)
set_option maxRecDepth 20000 in
theorem gX12_sureGone_X12_noSeen : GoodIn wsX12_sureGone (wsV RX12 435 RX12 yX12_noSeen wsX12_noSeen) := goodIn_app (goodIn_r _ [3, 4, 5, 6] rfl (by decide +kernel)) ggX12_sureGone_X12_noSeen
set_option maxRecDepth 20000 in
theorem ggX12_sureGone_X12_everyKind : GoodIn wsX12_sureGone wsX12_everyKind := goodIn_r _ [43, 26, 85, 86, 87, 88, 89, 90, 91, 92, 93, 94, 95, 96, 97, 98, 99, 100, 101, 102, 103, 104, 105, 106, 107, 108, 109, 110, 111, 112, 113, 114, 115, 116] rfl (by decide +kernel)
set_option maxRecDepth 20000 in
theorem gX12_sureGone_X12_everyKind : GoodIn wsX12_sureGone (wsV RX12 204 RX12 yX12_everyKind wsX12_everyKind) := goodIn_app (goodIn_r _ [40, 41, 42, 6] rfl (by decide +kernel)) ggX12_sureGone_X12_everyKind
set_option maxRecDepth 20000 in
theorem ggX12_ask_X12_noSeen : GoodIn wsX12_ask wsX12_noSeen := goodIn_r _ [8, 9, 10, 11, 12, 13, 14, 15, 16, 7, 17, 18, 19, 20, 21, 22, 23, 24, 25, 26, 3, 27, 28, 29, 30, 91, 92, 93, 94, 95, 96, 97, 98, 99, 100, 101, 102, 103, 104, 105, 106, 107, 108, 109, 110, 111, 112, 113, 114, 115, 116, 117, 118, 119, 120, 121, 122] rfl (by decide +kernel)
set_option maxRecDepth 20000 in
theorem gX12_ask_X12_noSeen : GoodIn wsX12_ask (wsV RX12 435 RX12 yX12_noSeen wsX12_noSeen) := goodIn_app (goodIn_r _ [4, 5, 6, 7] rfl (by decide +kernel)) ggX12_ask_X12_noSeen
set_option maxRecDepth 20000 in
theorem ggX12_noGone_X12_noTray : GoodIn wsX12_noGone wsX12_noTray := goodIn_r _ [9, 10, 11, 12, 13, 8, 14, 20, 21, 22, 23, 24, 25, 26, 27, 28, 29, 30, 31, 32, 33, 34, 35, 36, 37, 38, 39, 40, 41, 42, 43, 44, 45, 46, 47, 48, 49, 50, 51] rfl (by decide +kernel)
set_option maxRecDepth 20000 in
theorem gX12_noGone_X12_noTray : GoodIn wsX12_noGone (wsV RX12 327 RX12 yX12_noTray wsX12_noTray) := goodIn_app (goodIn_r _ [5, 6, 7, 8] rfl (by decide +kernel)) ggX12_noGone_X12_noTray
set_option maxRecDepth 20000 in
theorem ggX12_noGone_X12_within : GoodIn wsX12_noGone wsX12_within := goodIn_r _ [14] rfl (by decide +kernel)
set_option maxRecDepth 20000 in
theorem gX12_noGone_X12_within : GoodIn wsX12_noGone (va_wsS RX12 142 yX12_within wsX12_within) := goodIn_app (goodIn_r _ [12, 13, 8] rfl (by decide +kernel)) ggX12_noGone_X12_within
set_option maxRecDepth 20000 in
theorem ggX12_noGone_X12_isKind : GoodIn wsX12_noGone wsX12_isKind := goodIn_r _ [18, 19, 12, 13, 8, 14, 20, 21, 22, 23, 24, 25, 26, 27, 28, 29, 30, 31, 32, 33, 34, 35, 36, 37, 38, 39, 40, 41, 42, 43, 44, 45, 46, 47, 48, 49, 50, 51] rfl (by decide +kernel)
set_option maxRecDepth 20000 in
theorem gX12_noGone_X12_isKind : GoodIn wsX12_noGone (wsV RX12 245 RX12 yX12_isKind wsX12_isKind) := goodIn_app (goodIn_r _ [15, 16, 17, 8] rfl (by decide +kernel)) ggX12_noGone_X12_isKind
set_option maxRecDepth 20000 in
theorem ggX12_came_X12_noGone : GoodIn wsX12_came wsX12_noGone := goodIn_r _ [6, 7, 8, 9, 10, 11, 12, 13, 5, 14, 15, 16, 17, 18, 19, 20, 21, 22, 23, 24, 93, 94, 95, 96, 97, 98, 99, 100, 101, 102, 103, 104, 105, 106, 107, 108, 109, 110, 111, 112, 113, 114, 115, 116, 117, 118, 119, 120, 121, 122, 123, 124] rfl (by decide +kernel)
set_option maxRecDepth 20000 in
theorem gX12_came_X12_noGone : GoodIn wsX12_came (wsV RX12 444 RX12 yX12_noGone wsX12_noGone) := goodIn_app (goodIn_r _ [2, 3, 4, 5] rfl (by decide +kernel)) ggX12_came_X12_noGone
set_option maxRecDepth 20000 in
theorem ggX12_who_X12_noGone : GoodIn wsX12_who wsX12_noGone := goodIn_r _ [8, 2, 9, 10, 11, 12, 13, 14, 7, 15, 16, 17, 18, 19, 20, 21, 22, 23, 24, 3, 93, 94, 95, 96, 97, 98, 99, 100, 101, 102, 103, 104, 105, 106, 107, 108, 109, 110, 111, 112, 113, 114, 115, 116, 117, 118, 119, 120, 121, 122, 123, 124] rfl (by decide +kernel)
set_option maxRecDepth 20000 in
theorem gX12_who_X12_noGone : GoodIn wsX12_who (wsV RX12 444 RX12 yX12_noGone wsX12_noGone) := goodIn_app (goodIn_r _ [4, 5, 6, 7] rfl (by decide +kernel)) ggX12_who_X12_noGone
set_option maxRecDepth 20000 in
theorem ggX12_who_X12_within : GoodIn wsX12_who wsX12_within := goodIn_r _ [20] rfl (by decide +kernel)
set_option maxRecDepth 20000 in
theorem gX12_who_X12_within : GoodIn wsX12_who (va_wsS RX12 142 yX12_within wsX12_within) := goodIn_app (goodIn_r _ [18, 19, 7] rfl (by decide +kernel)) ggX12_who_X12_within
set_option maxRecDepth 20000 in
theorem ggX12_numbers_X12_within : GoodIn wsX12_numbers wsX12_within := goodIn_r _ [10] rfl (by decide +kernel)
set_option maxRecDepth 20000 in
theorem gX12_numbers_X12_within : GoodIn wsX12_numbers (va_wsS RX12 142 yX12_within wsX12_within) := goodIn_app (goodIn_r _ [7, 8, 9] rfl (by decide +kernel)) ggX12_numbers_X12_within
set_option maxRecDepth 20000 in
theorem ggX12_write_X12_noTray : GoodIn wsX12_write wsX12_noTray := goodIn_r _ [10, 11, 5, 12, 13, 9, 14, 18, 19, 20, 21, 22, 23, 24, 25, 26, 27, 28, 29, 30, 31, 32, 33, 34, 35, 36, 37, 38, 39, 40, 41, 42, 43, 44, 45, 46, 47, 48, 49] rfl (by decide +kernel)
set_option maxRecDepth 20000 in
theorem gX12_write_X12_noTray : GoodIn wsX12_write (wsV RX12 327 RX12 yX12_noTray wsX12_noTray) := goodIn_app (goodIn_r _ [6, 7, 8, 9] rfl (by decide +kernel)) ggX12_write_X12_noTray
set_option maxRecDepth 20000 in
theorem ggX12_write_X12_within : GoodIn wsX12_write wsX12_within := goodIn_r _ [14] rfl (by decide +kernel)
set_option maxRecDepth 20000 in
theorem gX12_write_X12_within : GoodIn wsX12_write (va_wsS RX12 142 yX12_within wsX12_within) := goodIn_app (goodIn_r _ [12, 13, 9] rfl (by decide +kernel)) ggX12_write_X12_within
set_option maxRecDepth 20000 in
theorem ggX12_lists_X12_noTray : GoodIn wsX12_lists wsX12_noTray := goodIn_r _ [9, 10, 11, 12, 13, 8, 14, 80, 81, 82, 83, 84, 85, 86, 87, 88, 89, 90, 91, 92, 93, 94, 95, 96, 97, 98, 99, 100, 101, 102, 103, 104, 105, 106, 107, 108, 109, 110, 111] rfl (by decide +kernel)
set_option maxRecDepth 20000 in
theorem gX12_lists_X12_noTray : GoodIn wsX12_lists (wsV RX12 327 RX12 yX12_noTray wsX12_noTray) := goodIn_app (goodIn_r _ [5, 6, 7, 8] rfl (by decide +kernel)) ggX12_lists_X12_noTray
set_option maxRecDepth 20000 in
theorem ggX12_lists_X12_laysEndingRow : GoodIn wsX12_lists wsX12_laysEndingRow := goodIn_r _ [18, 19, 20, 4, 21, 22, 23, 8, 24, 25, 26, 27, 28, 29, 30, 31, 32, 33, 34, 35, 36, 37, 38, 39, 40, 41, 42, 43, 44, 45, 46, 47, 48, 49, 50, 51, 52, 53, 54, 55, 56, 57, 58, 59, 60, 61, 62, 63, 64, 65, 66, 67, 68, 69, 70, 71, 72, 73, 74, 75, 76, 77, 78, 79, 80, 81, 82, 83, 84, 85, 86, 87, 88, 89, 90, 91, 92, 93, 94, 95, 96, 97, 98, 99, 100, 101, 102, 103, 104, 105, 106, 107, 108, 109, 110, 111] rfl (by decide +kernel)
set_option maxRecDepth 20000 in
theorem gX12_lists_X12_laysEndingRow : GoodIn wsX12_lists (wsV RX12 354 RX12 yX12_laysEndingRow wsX12_laysEndingRow) := goodIn_app (goodIn_r _ [15, 16, 17, 8] rfl (by decide +kernel)) ggX12_lists_X12_laysEndingRow
set_option maxRecDepth 20000 in
theorem ggX12_image_X12_within : GoodIn wsX12_image wsX12_within := goodIn_r _ [7] rfl (by decide +kernel)
set_option maxRecDepth 20000 in
theorem gX12_image_X12_within : GoodIn wsX12_image (va_wsS RX12 142 yX12_within wsX12_within) := goodIn_app (goodIn_r _ [4, 5, 6] rfl (by decide +kernel)) ggX12_image_X12_within
set_option maxRecDepth 20000 in
theorem ggX12_restore_X12_within : GoodIn wsX12_restore wsX12_within := goodIn_r _ [7] rfl (by decide +kernel)
set_option maxRecDepth 20000 in
theorem gX12_restore_X12_within : GoodIn wsX12_restore (va_wsS RX12 142 yX12_within wsX12_within) := goodIn_app (goodIn_r _ [4, 5, 6] rfl (by decide +kernel)) ggX12_restore_X12_within
set_option maxRecDepth 20000 in
theorem ggX12_count_X12_isShut : GoodIn wsX12_count wsX12_isShut := goodIn_r _ [8, 2, 9, 10, 11, 7, 12, 13, 14, 15, 16, 17, 18, 19, 20, 25, 26, 27, 28, 29, 30, 31, 32, 33, 34, 35, 36, 37, 38, 39, 40, 41, 42, 43, 44, 45, 46, 47, 48, 49, 50, 51, 52, 53, 54, 55, 56] rfl (by decide +kernel)
set_option maxRecDepth 20000 in
theorem gX12_count_X12_isShut : GoodIn wsX12_count (wsV RX12 259 RX12 yX12_isShut wsX12_isShut) := goodIn_app (goodIn_r _ [4, 5, 6, 7] rfl (by decide +kernel)) ggX12_count_X12_isShut
set_option maxRecDepth 20000 in
theorem ggX12_count_X12_oddsAll : GoodIn wsX12_count wsX12_oddsAll := goodIn_r _ [24, 2, 25, 26, 27, 28, 29, 30, 31, 32, 33, 34, 35, 36, 37, 38, 39, 40, 41, 42, 43, 44, 45, 46, 47, 48, 49, 50, 51, 52, 53, 54, 55, 56] rfl (by decide +kernel)
set_option maxRecDepth 20000 in
theorem gX12_count_X12_oddsAll : GoodIn wsX12_count (wsV RX12 269 RX12 yX12_oddsAll wsX12_oddsAll) := goodIn_app (goodIn_r _ [21, 22, 23, 7] rfl (by decide +kernel)) ggX12_count_X12_oddsAll
