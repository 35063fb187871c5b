set_option maxRecDepth 20000 in
theorem ggX0_gather_X5_everyKind : GoodIn wsX0_gather wsX5_everyKind := goodIn_r _ [9, 10, 45, 46, 47, 48, 49, 50, 51, 52, 53, 54, 55, 56, 57, 58] rfl (by decide +kernel)
set_option maxRecDepth 20000 in
theorem gX0_gather_X5_everyKind : GoodIn wsX0_gather (wsV RX0 29 RX5 yX5_everyKind wsX5_everyKind) := goodIn_app (goodIn_r _ [5, 6, 7, 8] rfl (by decide +kernel)) ggX0_gather_X5_everyKind
set_option maxRecDepth 20000 in
theorem ggX0_gather_X0_behind : GoodIn wsX0_gather wsX0_behind := goodIn_r _ [15, 2, 16, 17, 18, 19, 20, 21, 22, 23, 24, 25, 26, 27, 28, 29, 30, 31, 32, 33, 34, 35, 36, 37, 8, 38, 39, 40, 41, 42, 43, 44, 59, 60, 61, 45, 46, 47, 48, 49, 50, 51, 52, 53, 54, 55, 56, 57, 58] rfl (by decide +kernel)
set_option maxRecDepth 20000 in
theorem gX0_gather_X0_behind : GoodIn wsX0_gather (wsV RX0 35 RX0 yX0_behind wsX0_behind) := goodIn_app (goodIn_r _ [11, 12, 13, 14] rfl (by decide +kernel)) ggX0_gather_X0_behind
set_option maxRecDepth 20000 in
theorem ggX0_behind_X10_size : GoodIn wsX0_behind wsX10_size := goodIn_r _ [6, 7, 8, 9, 10, 11, 32, 33, 34] rfl (by decide +kernel)
set_option maxRecDepth 20000 in
theorem gX0_behind_X10_size : GoodIn wsX0_behind (wsV RX0 39 RX10 yX10_size wsX10_size) := goodIn_app (goodIn_r _ [2, 3, 4, 5] rfl (by decide +kernel)) ggX0_behind_X10_size
set_option maxRecDepth 20000 in
theorem ggX0_behind_X10_numberAt : GoodIn wsX0_behind wsX10_numberAt := goodIn_r _ [15, 16, 17, 18, 19, 5, 20, 7, 32, 33, 34] rfl (by decide +kernel)
set_option maxRecDepth 20000 in
theorem gX0_behind_X10_numberAt : GoodIn wsX0_behind (wsV RX0 44 RX10 yX10_numberAt wsX10_numberAt) := goodIn_app (goodIn_r _ [12, 13, 14, 5] rfl (by decide +kernel)) ggX0_behind_X10_numberAt
set_option maxRecDepth 20000 in
theorem ggX0_behind_X5_pick : GoodIn wsX0_behind wsX5_pick := goodIn_r _ [25, 26, 35, 36, 37, 38, 39, 40, 41, 42, 43, 44, 45, 46, 47, 48] rfl (by decide +kernel)
set_option maxRecDepth 20000 in
theorem gX0_behind_X5_pick : GoodIn wsX0_behind (wsV RX0 48 RX5 yX5_pick wsX5_pick) := goodIn_app (goodIn_r _ [21, 22, 23, 24] rfl (by decide +kernel)) ggX0_behind_X5_pick
set_option maxRecDepth 20000 in
theorem ggX0_mostTelling_X5_buyers : GoodIn wsX0_mostTelling wsX5_buyers := goodIn_r _ [6, 7, 8, 39, 40, 41, 42, 43, 44, 45, 46, 47, 48, 49, 50, 51, 52, 53, 54, 55, 56, 57, 58, 59, 60, 61, 62, 63] rfl (by decide +kernel)
set_option maxRecDepth 20000 in
theorem gX0_mostTelling_X5_buyers : GoodIn wsX0_mostTelling (wsV RX0 52 RX5 yX5_buyers wsX5_buyers) := goodIn_app (goodIn_r _ [2, 3, 4, 5] rfl (by decide +kernel)) ggX0_mostTelling_X5_buyers
set_option maxRecDepth 20000 in
theorem ggX0_mostTelling_X0_mostAlike : GoodIn wsX0_mostTelling wsX0_mostAlike := goodIn_r _ [13, 14, 1, 15, 16, 17, 18, 19, 20, 21, 22, 23, 24, 25, 26, 5, 27, 28, 29, 30, 31, 32, 33, 34, 35, 36, 37, 38, 39, 40, 41, 42, 43, 44, 45, 46, 47, 48, 49, 50, 51, 52] rfl (by decide +kernel)
set_option maxRecDepth 20000 in
theorem gX0_mostTelling_X0_mostAlike : GoodIn wsX0_mostTelling (wsV RX0 55 RX0 yX0_mostAlike wsX0_mostAlike) := goodIn_app (goodIn_r _ [9, 10, 11, 12] rfl (by decide +kernel)) ggX0_mostTelling_X0_mostAlike
set_option maxRecDepth 20000 in
theorem ggX0_mostAlike_J7_fill_53178 : GoodIn wsX0_mostAlike wsJ7_fill_53178 := goodIn_r _ [11] rfl (by decide +kernel)
set_option maxRecDepth 20000 in
theorem gX0_mostAlike_J7_fill_53178 : GoodIn wsX0_mostAlike (va_wsS RX0 59 yJ7_fill_53178 wsJ7_fill_53178) := goodIn_app (goodIn_r _ [8, 9, 10] rfl (by decide +kernel)) ggX0_mostAlike_J7_fill_53178
set_option maxRecDepth 20000 in
theorem ggX0_mostAlike_X5_everyKind : GoodIn wsX0_mostAlike wsX5_everyKind := goodIn_r _ [16, 17, 28, 29, 30, 31, 32, 33, 34, 35, 36, 37, 38, 39, 40, 41] rfl (by decide +kernel)
set_option maxRecDepth 20000 in
theorem gX0_mostAlike_X5_everyKind : GoodIn wsX0_mostAlike (wsV RX0 29 RX5 yX5_everyKind wsX5_everyKind) := goodIn_app (goodIn_r _ [12, 13, 14, 15] rfl (by decide +kernel)) ggX0_mostAlike_X5_everyKind
set_option maxRecDepth 20000 in
theorem ggX0_mostAlike_X5_pick : GoodIn wsX0_mostAlike wsX5_pick := goodIn_r _ [21, 22, 28, 29, 30, 31, 32, 33, 34, 35, 36, 37, 38, 39, 40, 41] rfl (by decide +kernel)
set_option maxRecDepth 20000 in
theorem gX0_mostAlike_X5_pick : GoodIn wsX0_mostAlike (wsV RX0 48 RX5 yX5_pick wsX5_pick) := goodIn_app (goodIn_r _ [18, 19, 20, 15] rfl (by decide +kernel)) ggX0_mostAlike_X5_pick
set_option maxRecDepth 20000 in
theorem ggX0_rows_X5_beginRows : GoodIn wsX0_rows wsX5_beginRows := goodIn_r _ [6, 7, 8, 9, 10, 11, 12, 58, 59, 60, 61, 62, 63, 64, 65, 66, 67, 68, 69, 70, 71] rfl (by decide +kernel)
set_option maxRecDepth 20000 in
theorem gX0_rows_X5_beginRows : GoodIn wsX0_rows (wsV RX0 70 RX5 yX5_beginRows wsX5_beginRows) := goodIn_app (goodIn_r _ [2, 3, 4, 5] rfl (by decide +kernel)) ggX0_rows_X5_beginRows
set_option maxRecDepth 20000 in
theorem ggX0_rows_X10_size : GoodIn wsX0_rows wsX10_size := goodIn_r _ [17, 18, 19, 20, 21, 22, 72, 73, 74] rfl (by decide +kernel)
set_option maxRecDepth 20000 in
theorem gX0_rows_X10_size : GoodIn wsX0_rows (wsV RX0 39 RX10 yX10_size wsX10_size) := goodIn_app (goodIn_r _ [13, 14, 15, 16] rfl (by decide +kernel)) ggX0_rows_X10_size
set_option maxRecDepth 20000 in
theorem ggX0_rows_X10_numberAt : GoodIn wsX0_rows wsX10_numberAt := goodIn_r _ [26, 27, 28, 29, 30, 16, 31, 18, 72, 73, 74] rfl (by decide +kernel)
set_option maxRecDepth 20000 in
theorem gX0_rows_X10_numberAt : GoodIn wsX0_rows (wsV RX0 44 RX10 yX10_numberAt wsX10_numberAt) := goodIn_app (goodIn_r _ [23, 24, 25, 16] rfl (by decide +kernel)) ggX0_rows_X10_numberAt
set_option maxRecDepth 20000 in
theorem ggX0_rows_X5_lengthenRows : GoodIn wsX0_rows wsX5_lengthenRows := goodIn_r _ [35, 36, 8, 37, 38, 39, 7, 9, 10, 11, 12, 40, 41, 42, 5, 43, 44, 45, 46, 47, 48, 58, 59, 60, 61, 62, 63, 64, 65, 66, 67, 68, 69, 70, 71, 75, 76, 77, 78, 79, 80, 81, 82, 83, 84, 85] rfl (by decide +kernel)
set_option maxRecDepth 20000 in
theorem gX0_rows_X5_lengthenRows : GoodIn wsX0_rows (wsV RX0 73 RX5 yX5_lengthenRows wsX5_lengthenRows) := goodIn_app (goodIn_r _ [32, 33, 34, 5] rfl (by decide +kernel)) ggX0_rows_X5_lengthenRows
set_option maxRecDepth 20000 in
theorem ggX0_rows_X5_allWays : GoodIn wsX0_rows wsX5_allWays := goodIn_r _ [52, 8, 37, 7, 58, 59, 60, 61, 62, 63, 64, 65, 66, 67, 68, 69, 70, 71] rfl (by decide +kernel)
set_option maxRecDepth 20000 in
theorem gX0_rows_X5_allWays : GoodIn wsX0_rows (wsV RX0 77 RX5 yX5_allWays wsX5_allWays) := goodIn_app (goodIn_r _ [49, 50, 51, 5] rfl (by decide +kernel)) ggX0_rows_X5_allWays
set_option maxRecDepth 20000 in
theorem ggX0_comers_J7_fill_53178 : GoodIn wsX0_comers wsJ7_fill_53178 := goodIn_r _ [6] rfl (by decide +kernel)
set_option maxRecDepth 20000 in
theorem gX0_comers_J7_fill_53178 : GoodIn wsX0_comers (va_wsS RX0 59 yJ7_fill_53178 wsJ7_fill_53178) := goodIn_app (goodIn_r _ [3, 4, 5] rfl (by decide +kernel)) ggX0_comers_J7_fill_53178
set_option maxRecDepth 20000 in
theorem ggX0_comers_X10_size : GoodIn wsX0_comers wsX10_size := goodIn_r _ [11, 12, 13, 14, 15, 16, 85, 86, 87] rfl (by decide +kernel)
set_option maxRecDepth 20000 in
theorem gX0_comers_X10_size : GoodIn wsX0_comers (wsV RX0 39 RX10 yX10_size wsX10_size) := goodIn_app (goodIn_r _ [7, 8, 9, 10] rfl (by decide +kernel)) ggX0_comers_X10_size
set_option maxRecDepth 20000 in
theorem ggX0_comers_X10_numberAt : GoodIn wsX0_comers wsX10_numberAt := goodIn_r _ [20, 21, 22, 23, 24, 10, 25, 12, 85, 86, 87] rfl (by decide +kernel)
set_option maxRecDepth 20000 in
theorem gX0_comers_X10_numberAt : GoodIn wsX0_comers (wsV RX0 44 RX10 yX10_numberAt wsX10_numberAt) := goodIn_app (goodIn_r _ [17, 18, 19, 10] rfl (by decide +kernel)) ggX0_comers_X10_numberAt
set_option maxRecDepth 20000 in
theorem ggX0_comers_X0_stepBack : GoodIn wsX0_comers wsX0_stepBack := goodIn_r _ [30, 2, 1, 31, 32, 33, 34, 35, 36, 37, 38, 39, 40, 41, 42, 43, 44, 29, 45, 46, 47, 48, 49, 50, 51, 52, 53, 54, 55, 56, 80, 81, 82, 83, 84, 88, 89, 90, 91, 92, 93, 94, 95, 96, 97, 98, 99, 100, 101, 102, 103, 104, 105, 106, 107, 108, 109, 110, 111, 112] rfl (by decide +kernel)
set_option maxRecDepth 20000 in
theorem gX0_comers_X0_stepBack : GoodIn wsX0_comers (wsV RX0 81 RX0 yX0_stepBack wsX0_stepBack) := goodIn_app (goodIn_r _ [26, 27, 28, 29] rfl (by decide +kernel)) ggX0_comers_X0_stepBack
set_option maxRecDepth 20000 in
theorem ggX0_comers_X5_beginRows : GoodIn wsX0_comers wsX5_beginRows := goodIn_r _ [60, 61, 62, 63, 64, 5, 65, 88, 89, 90, 91, 92, 93, 94, 95, 96, 97, 98, 99, 100, 101] rfl (by decide +kernel)
set_option maxRecDepth 20000 in
theorem gX0_comers_X5_beginRows : GoodIn wsX0_comers (wsV RX0 70 RX5 yX5_beginRows wsX5_beginRows) := goodIn_app (goodIn_r _ [57, 58, 59, 34] rfl (by decide +kernel)) ggX0_comers_X5_beginRows
set_option maxRecDepth 20000 in
theorem ggX0_comers_X5_lengthenRows : GoodIn wsX0_comers wsX5_lengthenRows := goodIn_r _ [69, 70, 62, 36, 50, 51, 61, 63, 64, 5, 65, 71, 53, 54, 34, 55, 56, 72, 73, 74, 75, 88, 89, 90, 91, 92, 93, 94, 95, 96, 97, 98, 99, 100, 101, 102, 103, 104, 105, 106, 107, 108, 109, 110, 111, 112] rfl (by decide +kernel)
set_option maxRecDepth 20000 in
theorem gX0_comers_X5_lengthenRows : GoodIn wsX0_comers (wsV RX0 73 RX5 yX5_lengthenRows wsX5_lengthenRows) := goodIn_app (goodIn_r _ [66, 67, 68, 34] rfl (by decide +kernel)) ggX0_comers_X5_lengthenRows
set_option maxRecDepth 20000 in
theorem ggX0_comers_X5_everyKind : GoodIn wsX0_comers wsX5_everyKind := goodIn_r _ [35, 36, 88, 89, 90, 91, 92, 93, 94, 95, 96, 97, 98, 99, 100, 101] rfl (by decide +kernel)
set_option maxRecDepth 20000 in
theorem gX0_comers_X5_everyKind : GoodIn wsX0_comers (wsV RX0 29 RX5 yX5_everyKind wsX5_everyKind) := goodIn_app (goodIn_r _ [31, 32, 33, 34] rfl (by decide +kernel)) ggX0_comers_X5_everyKind
set_option maxRecDepth 20000 in
theorem ggX0_comers_X5_isOnRow : GoodIn wsX0_comers wsX5_isOnRow := goodIn_r _ [79, 61, 88, 89, 90, 91, 92, 93, 94, 95, 96, 97, 98, 99, 100, 101] rfl (by decide +kernel)
set_option maxRecDepth 20000 in
theorem gX0_comers_X5_isOnRow : GoodIn wsX0_comers (wsV RX0 84 RX5 yX5_isOnRow wsX5_isOnRow) := goodIn_app (goodIn_r _ [76, 77, 78, 34] rfl (by decide +kernel)) ggX0_comers_X5_isOnRow
set_option maxRecDepth 20000 in
theorem ggX0_comers_X0_fitting : GoodIn wsX0_comers wsX0_fitting := goodIn_r _ [45, 2, 1, 46, 47, 48, 34, 49, 50, 51, 52, 53, 54, 55, 56, 80, 81, 82, 83, 84, 88, 89, 90, 91, 92, 93, 94, 95, 96, 97, 98, 99, 100, 101, 102, 103, 104, 105, 106, 107, 108, 109, 110, 111, 112] rfl (by decide +kernel)
set_option maxRecDepth 20000 in
theorem gX0_comers_X0_fitting : GoodIn wsX0_comers (wsV RX0 88 RX0 yX0_fitting wsX0_fitting) := goodIn_app (goodIn_r _ [42, 43, 44, 29] rfl (by decide +kernel)) ggX0_comers_X0_fitting
set_option maxRecDepth 20000 in
theorem ggX0_stepBack_X5_everyKind : GoodIn wsX0_stepBack wsX5_everyKind := goodIn_r _ [7, 8, 35, 36, 37, 38, 39, 40, 41, 42, 43, 44, 45, 46, 47, 48] rfl (by decide +kernel)
set_option maxRecDepth 20000 in
theorem gX0_stepBack_X5_everyKind : GoodIn wsX0_stepBack (wsV RX0 29 RX5 yX5_everyKind wsX5_everyKind) := goodIn_app (goodIn_r _ [3, 4, 5, 6] rfl (by decide +kernel)) ggX0_stepBack_X5_everyKind
set_option maxRecDepth 20000 in
theorem ggX0_stepBack_X5_isMet : GoodIn wsX0_stepBack wsX5_isMet := goodIn_r _ [12, 13, 35, 36, 37, 38, 39, 40, 41, 42, 43, 44, 45, 46, 47, 48] rfl (by decide +kernel)
set_option maxRecDepth 20000 in
theorem gX0_stepBack_X5_isMet : GoodIn wsX0_stepBack (wsV RX0 91 RX5 yX5_isMet wsX5_isMet) := goodIn_app (goodIn_r _ [9, 10, 11, 6] rfl (by decide +kernel)) ggX0_stepBack_X5_isMet
set_option maxRecDepth 20000 in
theorem ggX0_stepBack_X0_fitting : GoodIn wsX0_stepBack wsX0_fitting := goodIn_r _ [18, 1, 2, 19, 20, 21, 6, 22, 23, 24, 25, 26, 27, 28, 29, 30, 31, 32, 33, 34, 35, 36, 37, 38, 39, 40, 41, 42, 43, 44, 45, 46, 47, 48, 49, 50, 51, 52, 53, 54, 55, 56, 57, 58, 59] rfl (by decide +kernel)
set_option maxRecDepth 20000 in
theorem gX0_stepBack_X0_fitting : GoodIn wsX0_stepBack (wsV RX0 88 RX0 yX0_fitting wsX0_fitting) := goodIn_app (goodIn_r _ [14, 15, 16, 17] rfl (by decide +kernel)) ggX0_stepBack_X0_fitting
set_option maxRecDepth 20000 in
theorem ggX0_fitting_X5_buyers : GoodIn wsX0_fitting wsX5_buyers := goodIn_r _ [7, 8, 9, 20, 21, 22, 23, 24, 25, 26, 27, 28, 29, 30, 31, 32, 33, 34, 35, 36, 37, 38, 39, 40, 41, 42, 43, 44] rfl (by decide +kernel)
set_option maxRecDepth 20000 in
theorem gX0_fitting_X5_buyers : GoodIn wsX0_fitting (wsV RX0 52 RX5 yX5_buyers wsX5_buyers) := goodIn_app (goodIn_r _ [3, 4, 5, 6] rfl (by decide +kernel)) ggX0_fitting_X5_buyers
set_option maxRecDepth 20000 in
theorem ggX0_fitting_X5_pick : GoodIn wsX0_fitting wsX5_pick := goodIn_r _ [13, 14, 20, 21, 22, 23, 24, 25, 26, 27, 28, 29, 30, 31, 32, 33] rfl (by decide +kernel)
set_option maxRecDepth 20000 in
theorem gX0_fitting_X5_pick : GoodIn wsX0_fitting (wsV RX0 48 RX5 yX5_pick wsX5_pick) := goodIn_app (goodIn_r _ [10, 11, 12, 6] rfl (by decide +kernel)) ggX0_fitting_X5_pick
set_option maxRecDepth 20000 in
theorem ggX1_visitBy_X9_isShut : GoodIn wsX1_visitBy wsX9_isShut := goodIn_r _ [11, 12, 13, 14, 15, 16, 10, 17, 18, 91, 92, 93, 94, 95, 96, 97, 98, 99] rfl (by decide +kernel)
set_option maxRecDepth 20000 in
theorem gX1_visitBy_X9_isShut : GoodIn wsX1_visitBy (wsV RX1 21 RX9 yX9_isShut wsX9_isShut) := goodIn_app (goodIn_r _ [7, 8, 9, 10] rfl (by decide +kernel)) ggX1_visitBy_X9_isShut
set_option maxRecDepth 20000 in
theorem ggX1_visitBy_X4_tune : GoodIn wsX1_visitBy wsX4_tune := goodIn_r _ [23, 24, 25, 26, 27, 28, 29, 30, 31, 100, 101, 102, 103, 104, 105, 106, 91, 92, 93, 94, 95, 96, 97, 98, 99] rfl (by decide +kernel)
set_option maxRecDepth 20000 in
theorem gX1_visitBy_X4_tune : GoodIn wsX1_visitBy (wsV RX1 27 RX4 yX4_tune wsX4_tune) := goodIn_app (goodIn_r _ [19, 20, 21, 22] rfl (by decide +kernel)) ggX1_visitBy_X4_tune
set_option maxRecDepth 20000 in
theorem ggX1_visitBy_X4_choice : GoodIn wsX1_visitBy wsX4_choice := goodIn_r _ [35, 26, 31, 36, 37, 38, 39, 40, 41, 42, 43, 44, 45, 46, 47, 48, 49, 22, 50, 27, 24, 51, 52, 53, 54, 55, 56, 57, 58, 59, 29, 60, 61, 62, 63, 64, 65, 66, 67, 68, 69, 70, 71, 72, 73, 74, 75, 76, 77, 78, 100, 101, 102, 103, 104, 105, 106, 79, 80, 81, 82, 83, 84, 85, 86, 87, 88, 89] rfl (by decide +kernel)
set_option maxRecDepth 20000 in
theorem gX1_visitBy_X4_choice : GoodIn wsX1_visitBy (wsV RX1 39 RX4 yX4_choice wsX4_choice) := goodIn_app (goodIn_r _ [32, 33, 34, 22] rfl (by decide +kernel)) ggX1_visitBy_X4_choice
set_option maxRecDepth 20000 in
theorem ggX1_giveAway_X9_holds : GoodIn wsX1_giveAway wsX9_holds := goodIn_r _ [6, 7, 18, 19, 20, 21, 22, 23, 24, 25, 26] rfl (by decide +kernel)
set_option maxRecDepth 20000 in
theorem gX1_giveAway_X9_holds : GoodIn wsX1_giveAway (wsV RX1 50 RX9 yX9_holds wsX9_holds) := goodIn_app (goodIn_r _ [2, 3, 4, 5] rfl (by decide +kernel)) ggX1_giveAway_X9_holds
set_option maxRecDepth 20000 in
theorem ggX1_giveAway_X9_isShut : GoodIn wsX1_giveAway wsX9_isShut := goodIn_r _ [11, 12, 13, 14, 15, 16, 5, 17, 7, 18, 19, 20, 21, 22, 23, 24, 25, 26] rfl (by decide +kernel)
set_option maxRecDepth 20000 in
theorem gX1_giveAway_X9_isShut : GoodIn wsX1_giveAway (wsV RX1 21 RX9 yX9_isShut wsX9_isShut) := goodIn_app (goodIn_r _ [8, 9, 10, 5] rfl (by decide +kernel)) ggX1_giveAway_X9_isShut
set_option maxRecDepth 20000 in
theorem ggX1_turn_X9_holds : GoodIn wsX1_turn wsX9_holds := goodIn_r _ [6, 7, 18, 19, 20, 21, 22, 23, 24, 25, 26] rfl (by decide +kernel)
set_option maxRecDepth 20000 in
theorem gX1_turn_X9_holds : GoodIn wsX1_turn (wsV RX1 50 RX9 yX9_holds wsX9_holds) := goodIn_app (goodIn_r _ [2, 3, 4, 5] rfl (by decide +kernel)) ggX1_turn_X9_holds
set_option maxRecDepth 20000 in
theorem ggX1_turn_X9_isShut : GoodIn wsX1_turn wsX9_isShut := goodIn_r _ [11, 12, 13, 14, 15, 16, 5, 17, 7, 18, 19, 20, 21, 22, 23, 24, 25, 26] rfl (by decide +kernel)
set_option maxRecDepth 20000 in
theorem gX1_turn_X9_isShut : GoodIn wsX1_turn (wsV RX1 21 RX9 yX9_isShut wsX9_isShut) := goodIn_app (goodIn_r _ [8, 9, 10, 5] rfl (by decide +kernel)) ggX1_turn_X9_isShut
set_option maxRecDepth 20000 in
theorem ggX1_bringIn_X9_isShut : GoodIn wsX1_bringIn wsX9_isShut := goodIn_r _ [8, 9, 10, 11, 12, 13, 7, 14, 15, 16, 17, 18, 19, 20, 21, 22, 23, 24] rfl (by decide +kernel)
set_option maxRecDepth 20000 in
theorem gX1_bringIn_X9_isShut : GoodIn wsX1_bringIn (wsV RX1 21 RX9 yX9_isShut wsX9_isShut) := goodIn_app (goodIn_r _ [4, 5, 6, 7] rfl (by decide +kernel)) ggX1_bringIn_X9_isShut
set_option maxRecDepth 20000 in
theorem ggX1_reprice_X9_holds : GoodIn wsX1_reprice wsX9_holds := goodIn_r _ [6, 7, 18, 19, 20, 21, 22, 23, 24, 25, 26] rfl (by decide +kernel)
set_option maxRecDepth 20000 in
theorem gX1_reprice_X9_holds : GoodIn wsX1_reprice (wsV RX1 50 RX9 yX9_holds wsX9_holds) := goodIn_app (goodIn_r _ [2, 3, 4, 5] rfl (by decide +kernel)) ggX1_reprice_X9_holds
set_option maxRecDepth 20000 in
theorem ggX1_reprice_X9_isShut : GoodIn wsX1_reprice wsX9_isShut := goodIn_r _ [11, 12, 13, 14, 15, 16, 5, 17, 7, 18, 19, 20, 21, 22, 23, 24, 25, 26] rfl (by decide +kernel)
set_option maxRecDepth 20000 in
theorem gX1_reprice_X9_isShut : GoodIn wsX1_reprice (wsV RX1 21 RX9 yX9_isShut wsX9_isShut) := goodIn_app (goodIn_r _ [8, 9, 10, 5] rfl (by decide +kernel)) ggX1_reprice_X9_isShut
set_option maxRecDepth 20000 in
theorem ggX1_passDay_X7_together : GoodIn wsX1_passDay wsX7_together := goodIn_r _ [6, 7, 8, 29, 30, 31, 32, 33, 34, 35, 36, 37, 38, 39] rfl (by decide +kernel)
set_option maxRecDepth 20000 in
theorem gX1_passDay_X7_together : GoodIn wsX1_passDay (wsV RX1 66 RX7 yX7_together wsX7_together) := goodIn_app (goodIn_r _ [2, 3, 4, 5] rfl (by decide +kernel)) ggX1_passDay_X7_together
set_option maxRecDepth 20000 in
theorem ggX1_passDay_X9_draw : GoodIn wsX1_passDay wsX9_draw := goodIn_r _ [13, 14, 15, 20, 21, 22, 23, 24, 25, 26, 27, 28] rfl (by decide +kernel)
set_option maxRecDepth 20000 in
theorem gX1_passDay_X9_draw : GoodIn wsX1_passDay (wsV RX1 70 RX9 yX9_draw wsX9_draw) := goodIn_app (goodIn_r _ [9, 10, 11, 12] rfl (by decide +kernel)) ggX1_passDay_X9_draw
set_option maxRecDepth 20000 in
theorem ggX1_passDay_X7_comerFor : GoodIn wsX1_passDay wsX7_comerFor := goodIn_r _ [19, 7, 8, 29, 30, 31, 32, 33, 34, 35, 36, 37, 38, 39] rfl (by decide +kernel)
set_option maxRecDepth 20000 in
theorem gX1_passDay_X7_comerFor : GoodIn wsX1_passDay (wsV RX1 73 RX7 yX7_comerFor wsX7_comerFor) := goodIn_app (goodIn_r _ [16, 17, 18, 5] rfl (by decide +kernel)) ggX1_passDay_X7_comerFor
set_option maxRecDepth 20000 in
theorem ggX1_carryOut_X1_passDay : GoodIn wsX1_carryOut wsX1_passDay := goodIn_r _ [7, 8, 9, 10, 11, 12, 13, 14, 15, 16, 17, 18, 19, 20, 21, 22, 23, 24, 25, 26, 125, 126, 127, 128, 129, 130, 131, 132, 133, 134, 135, 136, 137, 138, 139, 140, 141, 142, 143, 144] rfl (by decide +kernel)
set_option maxRecDepth 20000 in
theorem gX1_carryOut_X1_passDay : GoodIn wsX1_carryOut (wsV RX1 81 RX1 yX1_passDay wsX1_passDay) := goodIn_app (goodIn_r _ [3, 4, 5, 6] rfl (by decide +kernel)) ggX1_carryOut_X1_passDay
set_option maxRecDepth 20000 in
theorem ggX1_carryOut_X1_visitBy : GoodIn wsX1_carryOut wsX1_visitBy := goodIn_r _ [30, 31, 32, 33, 34, 35, 36, 37, 38, 39, 19, 40, 41, 42, 43, 44, 45, 46, 47, 48, 49, 50, 51, 52, 53, 54, 55, 56, 57, 58, 59, 60, 61, 62, 63, 64, 65, 66, 67, 68, 69, 70, 71, 72, 73, 74, 75, 76, 77, 78, 79, 80, 81, 82, 83, 84, 85, 86, 87, 88, 89, 90, 91, 92, 93, 94, 95, 96, 97, 98, 99, 100, 101, 102, 103, 104, 105, 106, 107, 134, 135, 136, 137, 138, 139, 140, 141, 142, 143, 144, 145, 125, 126, 127, 128, 129, 130, 131, 132, 133, 146, 147, 148, 149, 150, 151, 152] rfl (by decide +kernel)
set_option maxRecDepth 20000 in
theorem gX1_carryOut_X1_visitBy : GoodIn wsX1_carryOut (wsV RX1 85 RX1 yX1_visitBy wsX1_visitBy) := goodIn_app (goodIn_r _ [27, 28, 29, 6] rfl (by decide +kernel)) ggX1_carryOut_X1_visitBy
set_option maxRecDepth 20000 in
theorem ggX1_carryOut_X1_giveAway : GoodIn wsX1_carryOut wsX1_giveAway := goodIn_r _ [111, 112, 113, 114, 115, 19, 116, 47, 37, 38, 39, 40, 41, 42, 43, 44, 45, 46, 125, 126, 127, 128, 129, 130, 131, 132, 133] rfl (by decide +kernel)
set_option maxRecDepth 20000 in
theorem gX1_carryOut_X1_giveAway : GoodIn wsX1_carryOut (wsV RX1 89 RX1 yX1_giveAway wsX1_giveAway) := goodIn_app (goodIn_r _ [108, 109, 110, 6] rfl (by decide +kernel)) ggX1_carryOut_X1_giveAway
set_option maxRecDepth 20000 in
theorem ggX1_carryOut_X1_turn : GoodIn wsX1_carryOut wsX1_turn := goodIn_r _ [120, 34, 113, 114, 115, 19, 116, 47, 37, 38, 39, 40, 41, 42, 43, 44, 45, 46, 125, 126, 127, 128, 129, 130, 131, 132, 133] rfl (by decide +kernel)
set_option maxRecDepth 20000 in
theorem gX1_carryOut_X1_turn : GoodIn wsX1_carryOut (wsV RX1 93 RX1 yX1_turn wsX1_turn) := goodIn_app (goodIn_r _ [117, 118, 119, 6] rfl (by decide +kernel)) ggX1_carryOut_X1_turn
set_option maxRecDepth 20000 in
theorem ggX1_carryOut_X1_reprice : GoodIn wsX1_carryOut wsX1_reprice := goodIn_r _ [124, 36, 113, 114, 115, 19, 116, 47, 37, 38, 39, 40, 41, 42, 43, 44, 45, 46, 125, 126, 127, 128, 129, 130, 131, 132, 133] rfl (by decide +kernel)
set_option maxRecDepth 20000 in
theorem gX1_carryOut_X1_reprice : GoodIn wsX1_carryOut (wsV RX1 96 RX1 yX1_reprice wsX1_reprice) := goodIn_app (goodIn_r _ [121, 122, 123, 6] rfl (by decide +kernel)) ggX1_carryOut_X1_reprice
set_option maxRecDepth 20000 in
theorem ggX1_drawDeed_X9_draw : GoodIn wsX1_drawDeed wsX9_draw := goodIn_r _ [5, 6, 7, 8, 9, 10, 11, 12, 13, 14, 15, 16] rfl (by decide +kernel)
set_option maxRecDepth 20000 in
theorem gX1_drawDeed_X9_draw : GoodIn wsX1_drawDeed (wsV RX1 70 RX9 yX9_draw wsX9_draw) := goodIn_app (goodIn_r _ [1, 2, 3, 4] rfl (by decide +kernel)) ggX1_drawDeed_X9_draw
set_option maxRecDepth 20000 in
theorem ggX2_init_X7_init : GoodIn wsX2_init wsX7_init := goodIn_r _ [14, 15, 2, 3, 16, 17, 18, 19, 20, 21, 22, 23, 24, 25, 26, 27, 43, 44, 45, 46, 47, 48, 49, 50, 51, 52, 53] rfl (by decide +kernel)
set_option maxRecDepth 20000 in
theorem ggX2_init_X9_init : GoodIn wsX2_init wsX9_init := goodIn_r _ [29, 30, 2, 3, 31, 18, 32, 33, 34, 35, 36, 37, 38, 39, 54, 55, 56, 57, 58, 59, 60, 61, 62] rfl (by decide +kernel)
set_option maxRecDepth 20000 in
theorem ggX3_endOf_X3_isSmall : GoodIn wsX3_endOf wsX3_isSmall := goodIn_r _ [4] rfl (by decide +kernel)
set_option maxRecDepth 20000 in
theorem gX3_endOf_X3_isSmall : GoodIn wsX3_endOf (va_wsS RX3 9 yX3_isSmall wsX3_isSmall) := goodIn_app (goodIn_r _ [1, 2, 3] rfl (by decide +kernel)) ggX3_endOf_X3_isSmall
set_option maxRecDepth 20000 in
theorem ggX3_endOf_X3_isDigit : GoodIn wsX3_endOf wsX3_isDigit := goodIn_r _ [7] rfl (by decide +kernel)
set_option maxRecDepth 20000 in
theorem gX3_endOf_X3_isDigit : GoodIn wsX3_endOf (va_wsS RX3 13 yX3_isDigit wsX3_isDigit) := goodIn_app (goodIn_r _ [5, 6, 3] rfl (by decide +kernel)) ggX3_endOf_X3_isDigit
set_option maxRecDepth 20000 in
theorem ggX3_meaning_X3_isSmall : GoodIn wsX3_meaning wsX3_isSmall := goodIn_r _ [4] rfl (by decide +kernel)
set_option maxRecDepth 20000 in
theorem gX3_meaning_X3_isSmall : GoodIn wsX3_meaning (va_wsS RX3 9 yX3_isSmall wsX3_isSmall) := goodIn_app (goodIn_r _ [1, 2, 3] rfl (by decide +kernel)) ggX3_meaning_X3_isSmall
set_option maxRecDepth 20000 in
theorem ggX3_meaning_X3_wordOf : GoodIn wsX3_meaning wsX3_wordOf := goodIn_r _ [7, 8, 9, 10, 11, 12, 13, 14, 15, 16, 17, 18, 19, 20, 21, 22, 23, 24, 25, 26, 27, 28, 29, 30, 31, 32, 33, 34, 35, 36, 37, 38, 39, 40, 41, 42, 43, 44, 45, 46, 47, 48] rfl (by decide +kernel)
set_option maxRecDepth 20000 in
theorem gX3_meaning_X3_wordOf : GoodIn wsX3_meaning (va_wsS RX3 16 yX3_wordOf wsX3_wordOf) := goodIn_app (goodIn_r _ [5, 6, 3] rfl (by decide +kernel)) ggX3_meaning_X3_wordOf
set_option maxRecDepth 20000 in
theorem ggX3_meaning_X3_isDigit : GoodIn wsX3_meaning wsX3_isDigit := goodIn_r _ [51] rfl (by decide +kernel)
set_option maxRecDepth 20000 in
theorem gX3_meaning_X3_isDigit : GoodIn wsX3_meaning (va_wsS RX3 13 yX3_isDigit wsX3_isDigit) := goodIn_app (goodIn_r _ [49, 50, 3] rfl (by decide +kernel)) ggX3_meaning_X3_isDigit
set_option maxRecDepth 20000 in
theorem ggX3_meaning_X3_numberOf : GoodIn wsX3_meaning wsX3_numberOf := goodIn_r _ [54] rfl (by decide +kernel)
set_option maxRecDepth 20000 in
theorem gX3_meaning_X3_numberOf : GoodIn wsX3_meaning (va_wsS RX3 20 yX3_numberOf wsX3_numberOf) := goodIn_app (goodIn_r _ [52, 53, 3] rfl (by decide +kernel)) ggX3_meaning_X3_numberOf
set_option maxRecDepth 20000 in
theorem ggX3_meaning_J0_indexOf_0f7a4 : GoodIn wsX3_meaning wsJ0_indexOf_0f7a4 := goodIn_r _ [58, 59, 60, 61, 11, 62, 13, 14, 15, 16, 17, 18, 19, 63, 64, 65, 66, 67, 68, 69, 70, 71, 72, 22, 73, 74, 75, 76, 77, 78, 79, 80, 81, 82, 83, 84, 85, 86, 87, 88, 34, 89, 90, 91, 92, 93, 94, 95, 96, 97, 98, 39, 40, 41, 99, 100, 101, 27, 102, 103, 30, 104, 105, 106, 107, 43, 44, 45, 46, 47, 48, 108, 109, 110, 111, 112, 113, 114, 115, 116, 117, 118, 119, 120, 121, 122] rfl (by decide +kernel)
set_option maxRecDepth 20000 in
theorem gX3_meaning_J0_indexOf_0f7a4 : GoodIn wsX3_meaning (wsV RX3 25 RJ0 yJ0_indexOf_0f7a4 wsJ0_indexOf_0f7a4) := goodIn_app (goodIn_r _ [55, 56, 57, 11] rfl (by decide +kernel)) ggX3_meaning_J0_indexOf_0f7a4
set_option maxRecDepth 20000 in
theorem ggX3_wordOf_J0_charAt_5068e : GoodIn wsX3_wordOf wsJ0_charAt_5068e := goodIn_r _ [5, 6, 7, 8, 9, 4, 10, 11, 12, 13, 14, 15, 16, 17, 18, 19, 20, 21, 22, 23, 24, 25, 26, 27, 28, 29, 30, 31, 32, 33, 34, 35, 36, 37, 38, 39, 40, 41] rfl (by decide +kernel)
set_option maxRecDepth 20000 in
theorem gX3_wordOf_J0_charAt_5068e : GoodIn wsX3_wordOf (wsV RX3 33 RJ0 yJ0_charAt_5068e wsJ0_charAt_5068e) := goodIn_app (goodIn_r _ [1, 2, 3, 4] rfl (by decide +kernel)) ggX3_wordOf_J0_charAt_5068e
set_option maxRecDepth 20000 in
theorem ggX4_forget_J7_fill_53178 : GoodIn wsX4_forget wsJ7_fill_53178 := goodIn_r _ [5] rfl (by decide +kernel)
set_option maxRecDepth 20000 in
theorem gX4_forget_J7_fill_53178 : GoodIn wsX4_forget (va_wsS RX4 37 yJ7_fill_53178 wsJ7_fill_53178) := goodIn_app (goodIn_r _ [2, 3, 4] rfl (by decide +kernel)) ggX4_forget_J7_fill_53178
set_option maxRecDepth 20000 in
theorem ggX4_choice_J6_bitCount_0f7a4 : GoodIn wsX4_choice wsJ6_bitCount_0f7a4 := goodIn_r _ [10, 11, 12, 13] rfl (by decide +kernel)
set_option maxRecDepth 20000 in
theorem gX4_choice_J6_bitCount_0f7a4 : GoodIn wsX4_choice (va_wsS RX4 48 yJ6_bitCount_0f7a4 wsJ6_bitCount_0f7a4) := goodIn_app (goodIn_r _ [7, 8, 9] rfl (by decide +kernel)) ggX4_choice_J6_bitCount_0f7a4
set_option maxRecDepth 20000 in
theorem ggX4_choice_X4_lets : GoodIn wsX4_choice wsX4_lets := goodIn_r _ [18, 19, 20, 21, 22, 23, 24, 25, 26, 17, 27, 28, 29, 30, 7, 8, 9, 10, 11, 12, 13, 31, 32, 33, 34, 35, 36, 37, 38, 39, 40, 41, 42, 43, 50, 51, 52, 53, 54, 55, 56, 57, 58, 59, 60, 61, 62, 63, 64, 65, 66, 67] rfl (by decide +kernel)
set_option maxRecDepth 20000 in
theorem gX4_choice_X4_lets : GoodIn wsX4_choice (wsV RX4 54 RX4 yX4_lets wsX4_lets) := goodIn_app (goodIn_r _ [14, 15, 16, 17] rfl (by decide +kernel)) ggX4_choice_X4_lets
set_option maxRecDepth 20000 in
theorem ggX4_choice_X4_wish : GoodIn wsX4_choice wsX4_wish := goodIn_r _ [47, 20, 48, 49, 21, 19, 24, 25, 26, 17, 27, 28, 29, 30, 7, 8, 9, 10, 11, 12, 13, 31, 32, 33, 34, 35, 36, 37, 38, 39, 40, 41, 42, 43, 50, 51, 52, 53, 54, 55, 56, 57, 58, 59, 60, 61, 62, 63, 64, 65, 66, 67] rfl (by decide +kernel)
set_option maxRecDepth 20000 in
theorem gX4_choice_X4_wish : GoodIn wsX4_choice (wsV RX4 58 RX4 yX4_wish wsX4_wish) := goodIn_app (goodIn_r _ [44, 45, 46, 17] rfl (by decide +kernel)) ggX4_choice_X4_wish
set_option maxRecDepth 20000 in
theorem ggX4_allowed_X4_lets : GoodIn wsX4_allowed wsX4_lets := goodIn_r _ [6, 7, 8, 9, 10, 11, 12, 13, 14, 5, 15, 16, 17, 18, 19, 20, 21, 22, 23, 24, 25, 26, 27, 28, 29, 30, 31, 32, 33, 34, 35, 36, 37, 38, 39, 40, 41, 42, 43, 44, 45, 46, 47, 48, 49, 50, 51, 52, 53, 54, 55, 56] rfl (by decide +kernel)
set_option maxRecDepth 20000 in
theorem gX4_allowed_X4_lets : GoodIn wsX4_allowed (wsV RX4 54 RX4 yX4_lets wsX4_lets) := goodIn_app (goodIn_r _ [2, 3, 4, 5] rfl (by decide +kernel)) ggX4_allowed_X4_lets
set_option maxRecDepth 20000 in
theorem ggX4_lets_X4_learn : GoodIn wsX4_lets wsX4_learn := goodIn_r _ [10, 11, 2, 3, 12, 1, 13, 14, 15, 16, 17, 18, 19, 20, 34, 35, 36, 37, 38, 39, 40, 41, 42, 43, 44, 45, 46, 47, 48, 49, 50, 51] rfl (by decide +kernel)
set_option maxRecDepth 20000 in
theorem gX4_lets_X4_learn : GoodIn wsX4_lets (wsV RX4 79 RX4 yX4_learn wsX4_learn) := goodIn_app (goodIn_r _ [6, 7, 8, 9] rfl (by decide +kernel)) ggX4_lets_X4_learn
set_option maxRecDepth 20000 in
theorem ggX4_lets_X4_reckon : GoodIn wsX4_lets wsX4_reckon := goodIn_r _ [24, 2, 25, 26, 11, 27, 28, 9, 29, 30, 31, 32, 33, 34, 35, 36, 37, 38, 39, 40, 41, 42, 43, 44, 45, 46, 47, 48, 49, 50, 51] rfl (by decide +kernel)
set_option maxRecDepth 20000 in
theorem gX4_lets_X4_reckon : GoodIn wsX4_lets (wsV RX4 83 RX4 yX4_reckon wsX4_reckon) := goodIn_app (goodIn_r _ [21, 22, 23, 9] rfl (by decide +kernel)) ggX4_lets_X4_reckon
set_option maxRecDepth 20000 in
theorem ggX4_wish_X4_learn : GoodIn wsX4_wish wsX4_learn := goodIn_r _ [10, 11, 1, 4, 12, 5, 13, 14, 15, 16, 17, 18, 19, 20, 34, 35, 36, 37, 38, 39, 40, 41, 42, 43, 44, 45, 46, 47, 48, 49, 50, 51] rfl (by decide +kernel)
set_option maxRecDepth 20000 in
theorem gX4_wish_X4_learn : GoodIn wsX4_wish (wsV RX4 79 RX4 yX4_learn wsX4_learn) := goodIn_app (goodIn_r _ [6, 7, 8, 9] rfl (by decide +kernel)) ggX4_wish_X4_learn
set_option maxRecDepth 20000 in
theorem ggX4_wish_X4_reckon : GoodIn wsX4_wish wsX4_reckon := goodIn_r _ [24, 1, 25, 26, 11, 27, 28, 9, 29, 30, 31, 32, 33, 34, 35, 36, 37, 38, 39, 40, 41, 42, 43, 44, 45, 46, 47, 48, 49, 50, 51] rfl (by decide +kernel)
set_option maxRecDepth 20000 in
theorem gX4_wish_X4_reckon : GoodIn wsX4_wish (wsV RX4 83 RX4 yX4_reckon wsX4_reckon) := goodIn_app (goodIn_r _ [21, 22, 23, 9] rfl (by decide +kernel)) ggX4_wish_X4_reckon
set_option maxRecDepth 20000 in
theorem ggX4_learn_J6_bitCount_0f7a4 : GoodIn wsX4_learn wsJ6_bitCount_0f7a4 := goodIn_r _ [10, 11, 12, 13] rfl (by decide +kernel)
set_option maxRecDepth 20000 in
theorem gX4_learn_J6_bitCount_0f7a4 : GoodIn wsX4_learn (va_wsS RX4 48 yJ6_bitCount_0f7a4 wsJ6_bitCount_0f7a4) := goodIn_app (goodIn_r _ [7, 8, 9] rfl (by decide +kernel)) ggX4_learn_J6_bitCount_0f7a4
set_option maxRecDepth 20000 in
theorem ggX4_reckon_X4_joined : GoodIn wsX4_reckon wsX4_joined := goodIn_r _ [8, 9, 10, 11, 12] rfl (by decide +kernel)
set_option maxRecDepth 20000 in
theorem gX4_reckon_X4_joined : GoodIn wsX4_reckon (va_wsS RX4 98 yX4_joined wsX4_joined) := goodIn_app (goodIn_r _ [5, 6, 7] rfl (by decide +kernel)) ggX4_reckon_X4_joined
set_option maxRecDepth 20000 in
theorem ggX5_aim_X9_everyKind : GoodIn wsX5_aim wsX9_everyKind := goodIn_r _ [12, 13, 41, 42, 43, 44, 45, 46, 47, 48, 49] rfl (by decide +kernel)
set_option maxRecDepth 20000 in
theorem gX5_aim_X9_everyKind : GoodIn wsX5_aim (wsV RX5 60 RX9 yX9_everyKind wsX9_everyKind) := goodIn_app (goodIn_r _ [8, 9, 10, 11] rfl (by decide +kernel)) ggX5_aim_X9_everyKind
set_option maxRecDepth 20000 in
theorem ggX5_aim_X4_tune : GoodIn wsX5_aim wsX4_tune := goodIn_r _ [18, 19, 20, 21, 22, 23, 24, 25, 26, 50, 51, 52, 53, 54, 55, 56, 41, 42, 43, 44, 45, 46, 47, 48, 49] rfl (by decide +kernel)
set_option maxRecDepth 20000 in
theorem gX5_aim_X4_tune : GoodIn wsX5_aim (wsV RX5 69 RX4 yX4_tune wsX4_tune) := goodIn_app (goodIn_r _ [14, 15, 16, 17] rfl (by decide +kernel)) ggX5_aim_X4_tune
set_option maxRecDepth 20000 in
theorem ggX5_look_X5_aim : GoodIn wsX5_look wsX5_aim := goodIn_r _ [8, 9, 10, 3, 11, 12, 2, 13, 14, 15, 16, 17, 18, 19, 20, 21, 22, 23, 24, 25, 26, 27, 28, 29, 30, 31, 32, 90, 91, 92, 93, 94, 95, 96, 97, 98, 99, 100, 101, 102, 103, 104, 105, 106, 107, 108, 109, 110, 111, 112, 113, 114, 115, 116, 117, 118, 119] rfl (by decide +kernel)
set_option maxRecDepth 20000 in
theorem gX5_look_X5_aim : GoodIn wsX5_look (wsV RX5 75 RX5 yX5_aim wsX5_aim) := goodIn_app (goodIn_r _ [4, 5, 6, 7] rfl (by decide +kernel)) ggX5_look_X5_aim
set_option maxRecDepth 20000 in
theorem ggX5_look_J7_fill_53178 : GoodIn wsX5_look wsJ7_fill_53178 := goodIn_r _ [36] rfl (by decide +kernel)
set_option maxRecDepth 20000 in
theorem gX5_look_J7_fill_53178 : GoodIn wsX5_look (va_wsS RX5 79 yJ7_fill_53178 wsJ7_fill_53178) := goodIn_app (goodIn_r _ [33, 34, 35] rfl (by decide +kernel)) ggX5_look_J7_fill_53178
set_option maxRecDepth 20000 in
theorem ggX5_look_X5_meet : GoodIn wsX5_look wsX5_meet := goodIn_r _ [40, 1, 9, 41, 13, 42, 43, 44, 45, 23, 46, 27, 32, 47, 48, 49, 50, 51, 52, 53, 54, 55, 56, 57, 58, 59, 60, 61, 28, 25, 62, 63, 64, 65, 66, 67, 68, 69, 70, 30, 71, 72, 73, 74, 75, 76, 77, 78, 79, 80, 81, 82, 83, 84, 85, 86, 87, 88, 89, 90, 91, 92, 93, 94, 95, 96, 97, 98, 99, 100, 101, 102, 103, 120, 121, 122, 123, 124, 125, 126, 127, 128, 129, 130, 113, 114, 115, 116, 117, 118, 119] rfl (by decide +kernel)
set_option maxRecDepth 20000 in
theorem gX5_look_X5_meet : GoodIn wsX5_look (wsV RX5 85 RX5 yX5_meet wsX5_meet) := goodIn_app (goodIn_r _ [37, 38, 39, 7] rfl (by decide +kernel)) ggX5_look_X5_meet
set_option maxRecDepth 20000 in
theorem ggX5_lookEverywhere_X5_aim : GoodIn wsX5_lookEverywhere wsX5_aim := goodIn_r _ [7, 8, 9, 2, 10, 11, 12, 13, 14, 15, 16, 17, 18, 19, 20, 21, 22, 23, 24, 25, 26, 27, 28, 29, 30, 31, 32, 96, 97, 98, 99, 100, 101, 102, 103, 104, 105, 106, 107, 108, 109, 87, 88, 89, 90, 91, 92, 93, 94, 95, 110, 111, 112, 113, 114, 115, 116] rfl (by decide +kernel)
set_option maxRecDepth 20000 in
theorem gX5_lookEverywhere_X5_aim : GoodIn wsX5_lookEverywhere (wsV RX5 75 RX5 yX5_aim wsX5_aim) := goodIn_app (goodIn_r _ [3, 4, 5, 6] rfl (by decide +kernel)) ggX5_lookEverywhere_X5_aim
set_option maxRecDepth 20000 in
theorem ggX5_lookEverywhere_X5_meet : GoodIn wsX5_lookEverywhere wsX5_meet := goodIn_r _ [36, 37, 8, 38, 13, 39, 40, 41, 42, 23, 43, 27, 32, 44, 45, 46, 47, 48, 49, 50, 51, 52, 53, 54, 55, 56, 57, 58, 28, 25, 59, 60, 61, 62, 63, 64, 65, 66, 67, 30, 68, 69, 70, 71, 72, 73, 74, 75, 76, 77, 78, 79, 80, 81, 82, 83, 84, 85, 86, 96, 97, 98, 99, 100, 101, 102, 103, 104, 105, 106, 107, 108, 109, 117, 118, 119, 120, 121, 122, 123, 124, 125, 126, 127, 110, 111, 112, 113, 114, 115, 116] rfl (by decide +kernel)
set_option maxRecDepth 20000 in
theorem gX5_lookEverywhere_X5_meet : GoodIn wsX5_lookEverywhere (wsV RX5 85 RX5 yX5_meet wsX5_meet) := goodIn_app (goodIn_r _ [33, 34, 35, 6] rfl (by decide +kernel)) ggX5_lookEverywhere_X5_meet
set_option maxRecDepth 20000 in
theorem ggX5_meet_X4_choice : GoodIn wsX5_meet wsX4_choice := goodIn_r _ [10, 11, 12, 13, 14, 15, 16, 17, 18, 19, 20, 21, 22, 23, 24, 25, 26, 9, 27, 28, 29, 30, 31, 32, 33, 34, 35, 36, 37, 38, 39, 40, 41, 42, 43, 44, 45, 46, 47, 48, 49, 50, 51, 52, 53, 54, 55, 56, 57, 58, 84, 85, 86, 87, 88, 89, 90, 73, 74, 75, 76, 77, 78, 79, 80, 81, 82, 83] rfl (by decide +kernel)
set_option maxRecDepth 20000 in
theorem gX5_meet_X4_choice : GoodIn wsX5_meet (wsV RX5 97 RX4 yX4_choice wsX4_choice) := goodIn_app (goodIn_r _ [6, 7, 8, 9] rfl (by decide +kernel)) ggX5_meet_X4_choice
set_option maxRecDepth 20000 in
theorem ggX5_takersNow_X5_pick : GoodIn wsX5_takersNow wsX5_pick := goodIn_r _ [8, 9, 10, 11, 12, 13, 14, 15, 16, 17, 18, 19, 20, 21, 22, 23] rfl (by decide +kernel)
set_option maxRecDepth 20000 in
theorem gX5_takersNow_X5_pick : GoodIn wsX5_takersNow (wsV RX5 101 RX5 yX5_pick wsX5_pick) := goodIn_app (goodIn_r _ [4, 5, 6, 7] rfl (by decide +kernel)) ggX5_takersNow_X5_pick
set_option maxRecDepth 20000 in
theorem ggX5_shortest_X5_measure : GoodIn wsX5_shortest wsX5_measure := goodIn_r _ [7, 8, 9, 10, 11, 12, 13, 14, 6, 15, 16, 17, 18, 19, 20, 1, 2, 21, 22, 23, 24, 25, 26, 27, 28, 29, 30, 31, 32, 33, 34, 35, 36, 37, 38, 39, 40, 41, 42, 43, 44, 45, 46, 47, 48, 49, 50] rfl (by decide +kernel)
set_option maxRecDepth 20000 in
theorem gX5_shortest_X5_measure : GoodIn wsX5_shortest (wsV RX5 105 RX5 yX5_measure wsX5_measure) := goodIn_app (goodIn_r _ [3, 4, 5, 6] rfl (by decide +kernel)) ggX5_shortest_X5_measure
set_option maxRecDepth 20000 in
theorem ggX5_measure_X5_isShutAt : GoodIn wsX5_measure wsX5_isShutAt := goodIn_r _ [9, 10, 22, 23, 24, 25, 26, 27, 28, 29, 30, 31, 32, 33, 34, 35] rfl (by decide +kernel)
set_option maxRecDepth 20000 in
theorem gX5_measure_X5_isShutAt : GoodIn wsX5_measure (wsV RX5 109 RX5 yX5_isShutAt wsX5_isShutAt) := goodIn_app (goodIn_r _ [5, 6, 7, 8] rfl (by decide +kernel)) ggX5_measure_X5_isShutAt
set_option maxRecDepth 20000 in
theorem ggX5_measure_X5_stepsFrom : GoodIn wsX5_measure wsX5_stepsFrom := goodIn_r _ [14, 15, 16, 4, 17, 18, 19, 8, 20, 21, 22, 23, 24, 25, 26, 27, 28, 29, 30, 31, 32, 33, 34, 35, 36, 37, 38, 39, 40, 41, 42, 43, 44, 45, 46] rfl (by decide +kernel)
set_option maxRecDepth 20000 in
theorem gX5_measure_X5_stepsFrom : GoodIn wsX5_measure (wsV RX5 113 RX5 yX5_stepsFrom wsX5_stepsFrom) := goodIn_app (goodIn_r _ [11, 12, 13, 8] rfl (by decide +kernel)) ggX5_measure_X5_stepsFrom
set_option maxRecDepth 20000 in
theorem ggX5_stepsFrom_X5_pick : GoodIn wsX5_stepsFrom wsX5_pick := goodIn_r _ [8, 9, 10, 11, 12, 13, 14, 15, 16, 17, 18, 19, 20, 21, 22, 23] rfl (by decide +kernel)
set_option maxRecDepth 20000 in
theorem gX5_stepsFrom_X5_pick : GoodIn wsX5_stepsFrom (wsV RX5 101 RX5 yX5_pick wsX5_pick) := goodIn_app (goodIn_r _ [4, 5, 6, 7] rfl (by decide +kernel)) ggX5_stepsFrom_X5_pick
set_option maxRecDepth 20000 in
theorem ggX5_comerAt_X5_nearestComer : GoodIn wsX5_comerAt wsX5_nearestComer := goodIn_r _ [6, 7, 8, 9, 10, 11, 12, 5, 13, 14, 15, 16, 17, 18, 19, 20, 21, 22, 23, 24, 25, 26, 27, 28, 29, 30, 31, 32, 33, 34, 35, 36, 37, 38, 39] rfl (by decide +kernel)
set_option maxRecDepth 20000 in
theorem gX5_comerAt_X5_nearestComer : GoodIn wsX5_comerAt (wsV RX5 116 RX5 yX5_nearestComer wsX5_nearestComer) := goodIn_app (goodIn_r _ [2, 3, 4, 5] rfl (by decide +kernel)) ggX5_comerAt_X5_nearestComer
set_option maxRecDepth 20000 in
theorem ggX5_comerAt_X5_pick : GoodIn wsX5_comerAt wsX5_pick := goodIn_r _ [13, 14, 15, 16, 17, 18, 19, 20, 21, 22, 23, 24, 25, 26, 27, 28] rfl (by decide +kernel)
set_option maxRecDepth 20000 in
theorem gX5_comerAt_X5_pick : GoodIn wsX5_comerAt (wsV RX5 101 RX5 yX5_pick wsX5_pick) := goodIn_app (goodIn_r _ [10, 11, 12, 5] rfl (by decide +kernel)) ggX5_comerAt_X5_pick
set_option maxRecDepth 20000 in
theorem ggX5_nearestComer_X5_pick : GoodIn wsX5_nearestComer wsX5_pick := goodIn_r _ [8, 9, 10, 11, 12, 13, 14, 15, 16, 17, 18, 19, 20, 21, 22, 23] rfl (by decide +kernel)
set_option maxRecDepth 20000 in
theorem gX5_nearestComer_X5_pick : GoodIn wsX5_nearestComer (wsV RX5 101 RX5 yX5_pick wsX5_pick) := goodIn_app (goodIn_r _ [4, 5, 6, 7] rfl (by decide +kernel)) ggX5_nearestComer_X5_pick
set_option maxRecDepth 20000 in
theorem ggX5_neededBuyers_X5_measure : GoodIn wsX5_neededBuyers wsX5_measure := goodIn_r _ [7, 8, 9, 10, 11, 12, 13, 14, 6, 15, 16, 17, 18, 19, 20, 1, 2, 21, 22, 23, 24, 25, 26, 27, 28, 29, 30, 31, 32, 33, 34, 35, 36, 37, 38, 39, 40, 41, 42, 43, 44, 45, 46, 47, 48, 49, 50] rfl (by decide +kernel)
set_option maxRecDepth 20000 in
theorem gX5_neededBuyers_X5_measure : GoodIn wsX5_neededBuyers (wsV RX5 105 RX5 yX5_measure wsX5_measure) := goodIn_app (goodIn_r _ [3, 4, 5, 6] rfl (by decide +kernel)) ggX5_neededBuyers_X5_measure
set_option maxRecDepth 20000 in
theorem ggX5_lastLeft_J6_bitCount_0f7a4 : GoodIn wsX5_lastLeft wsJ6_bitCount_0f7a4 := goodIn_r _ [8, 9, 10, 11] rfl (by decide +kernel)
set_option maxRecDepth 20000 in
theorem gX5_lastLeft_J6_bitCount_0f7a4 : GoodIn wsX5_lastLeft (va_wsS RX5 119 yJ6_bitCount_0f7a4 wsJ6_bitCount_0f7a4) := goodIn_app (goodIn_r _ [5, 6, 7] rfl (by decide +kernel)) ggX5_lastLeft_J6_bitCount_0f7a4
set_option maxRecDepth 20000 in
theorem ggX5_beginRows_J7_fill_d0a16 : GoodIn wsX5_beginRows wsJ7_fill_d0a16 := goodIn_r _ [6] rfl (by decide +kernel)
set_option maxRecDepth 20000 in
theorem gX5_beginRows_J7_fill_d0a16 : GoodIn wsX5_beginRows (va_wsS RX5 124 yJ7_fill_d0a16 wsJ7_fill_d0a16) := goodIn_app (goodIn_r _ [3, 4, 5] rfl (by decide +kernel)) ggX5_beginRows_J7_fill_d0a16
set_option maxRecDepth 20000 in
theorem ggX5_lengthenRows_J7_fill_d0a16 : GoodIn wsX5_lengthenRows wsJ7_fill_d0a16 := goodIn_r _ [10] rfl (by decide +kernel)
set_option maxRecDepth 20000 in
theorem gX5_lengthenRows_J7_fill_d0a16 : GoodIn wsX5_lengthenRows (va_wsS RX5 124 yJ7_fill_d0a16 wsJ7_fill_d0a16) := goodIn_app (goodIn_r _ [7, 8, 9] rfl (by decide +kernel)) ggX5_lengthenRows_J7_fill_d0a16
set_option maxRecDepth 20000 in
theorem ggX5_lengthenRows_X5_pick : GoodIn wsX5_lengthenRows wsX5_pick := goodIn_r _ [15, 16, 21, 22, 23, 24, 25, 26, 27, 28, 29, 30, 31, 32, 33, 34] rfl (by decide +kernel)
set_option maxRecDepth 20000 in
theorem gX5_lengthenRows_X5_pick : GoodIn wsX5_lengthenRows (wsV RX5 101 RX5 yX5_pick wsX5_pick) := goodIn_app (goodIn_r _ [11, 12, 13, 14] rfl (by decide +kernel)) ggX5_lengthenRows_X5_pick
set_option maxRecDepth 20000 in
theorem ggX5_lengthenRows_X5_swapWays : GoodIn wsX5_lengthenRows wsX5_swapWays := goodIn_r _ [20, 6, 1, 21, 22, 23, 24, 25, 26, 27, 28, 29, 30, 31, 32, 33, 34] rfl (by decide +kernel)
set_option maxRecDepth 20000 in
theorem gX5_lengthenRows_X5_swapWays : GoodIn wsX5_lengthenRows (wsV RX5 127 RX5 yX5_swapWays wsX5_swapWays) := goodIn_app (goodIn_r _ [17, 18, 19, 14] rfl (by decide +kernel)) ggX5_lengthenRows_X5_swapWays
set_option maxRecDepth 20000 in
theorem ggX5_openWays_X5_isShutAt : GoodIn wsX5_openWays wsX5_isShutAt := goodIn_r _ [8, 9, 10, 11, 12, 13, 14, 15, 16, 17, 18, 19, 20, 21, 22, 23] rfl (by decide +kernel)
set_option maxRecDepth 20000 in
theorem gX5_openWays_X5_isShutAt : GoodIn wsX5_openWays (wsV RX5 109 RX5 yX5_isShutAt wsX5_isShutAt) := goodIn_app (goodIn_r _ [4, 5, 6, 7] rfl (by decide +kernel)) ggX5_openWays_X5_isShutAt
set_option maxRecDepth 20000 in
theorem ggX5_rowsToShut_X5_beginRows : GoodIn wsX5_rowsToShut wsX5_beginRows := goodIn_r _ [5, 6, 7, 8, 9, 10, 11, 42, 43, 44, 45, 46, 47, 48, 49, 50, 51, 52, 53, 54, 55] rfl (by decide +kernel)
set_option maxRecDepth 20000 in
theorem gX5_rowsToShut_X5_beginRows : GoodIn wsX5_rowsToShut (wsV RX5 130 RX5 yX5_beginRows wsX5_beginRows) := goodIn_app (goodIn_r _ [1, 2, 3, 4] rfl (by decide +kernel)) ggX5_rowsToShut_X5_beginRows
set_option maxRecDepth 20000 in
theorem ggX5_rowsToShut_X5_lengthenRows : GoodIn wsX5_rowsToShut wsX5_lengthenRows := goodIn_r _ [15, 16, 7, 17, 18, 19, 6, 8, 9, 10, 11, 20, 21, 22, 4, 23, 24, 25, 26, 27, 28, 42, 43, 44, 45, 46, 47, 48, 49, 50, 51, 52, 53, 54, 55, 56, 57, 58, 59, 60, 61, 62, 63, 64, 65, 66] rfl (by decide +kernel)
set_option maxRecDepth 20000 in
theorem gX5_rowsToShut_X5_lengthenRows : GoodIn wsX5_rowsToShut (wsV RX5 133 RX5 yX5_lengthenRows wsX5_lengthenRows) := goodIn_app (goodIn_r _ [12, 13, 14, 4] rfl (by decide +kernel)) ggX5_rowsToShut_X5_lengthenRows
set_option maxRecDepth 20000 in
theorem ggX5_rowsToShut_X5_allWays : GoodIn wsX5_rowsToShut wsX5_allWays := goodIn_r _ [32, 7, 17, 6, 42, 43, 44, 45, 46, 47, 48, 49, 50, 51, 52, 53, 54, 55] rfl (by decide +kernel)
set_option maxRecDepth 20000 in
theorem gX5_rowsToShut_X5_allWays : GoodIn wsX5_rowsToShut (wsV RX5 137 RX5 yX5_allWays wsX5_allWays) := goodIn_app (goodIn_r _ [29, 30, 31, 4] rfl (by decide +kernel)) ggX5_rowsToShut_X5_allWays
set_option maxRecDepth 20000 in
theorem ggX5_rowsToShut_X5_openWays : GoodIn wsX5_rowsToShut wsX5_openWays := goodIn_r _ [36, 7, 17, 6, 37, 38, 39, 4, 40, 41, 42, 43, 44, 45, 46, 47, 48, 49, 50, 51, 52, 53, 54, 55] rfl (by decide +kernel)
set_option maxRecDepth 20000 in
theorem gX5_rowsToShut_X5_openWays : GoodIn wsX5_rowsToShut (wsV RX5 141 RX5 yX5_openWays wsX5_openWays) := goodIn_app (goodIn_r _ [33, 34, 35, 4] rfl (by decide +kernel)) ggX5_rowsToShut_X5_openWays
set_option maxRecDepth 20000 in
theorem ggX5_passDays_X5_beginRows : GoodIn wsX5_passDays wsX5_beginRows := goodIn_r _ [9, 10, 11, 12, 13, 14, 15, 51, 52, 53, 54, 55, 56, 57, 58, 59, 60, 61, 62, 63, 64] rfl (by decide +kernel)
set_option maxRecDepth 20000 in
theorem gX5_passDays_X5_beginRows : GoodIn wsX5_passDays (wsV RX5 130 RX5 yX5_beginRows wsX5_beginRows) := goodIn_app (goodIn_r _ [5, 6, 7, 8] rfl (by decide +kernel)) ggX5_passDays_X5_beginRows
set_option maxRecDepth 20000 in
theorem ggX5_passDays_J7_fill_d0a16 : GoodIn wsX5_passDays wsJ7_fill_d0a16 := goodIn_r _ [15] rfl (by decide +kernel)
set_option maxRecDepth 20000 in
theorem gX5_passDays_J7_fill_d0a16 : GoodIn wsX5_passDays (va_wsS RX5 124 yJ7_fill_d0a16 wsJ7_fill_d0a16) := goodIn_app (goodIn_r _ [12, 13, 14] rfl (by decide +kernel)) ggX5_passDays_J7_fill_d0a16
set_option maxRecDepth 20000 in
theorem ggX5_passDays_X7_together : GoodIn wsX5_passDays wsX7_together := goodIn_r _ [20, 21, 22, 65, 66, 67, 68, 69, 70, 71, 72, 73, 74, 75] rfl (by decide +kernel)
set_option maxRecDepth 20000 in
theorem gX5_passDays_X7_together : GoodIn wsX5_passDays (wsV RX5 144 RX7 yX7_together wsX7_together) := goodIn_app (goodIn_r _ [16, 17, 18, 19] rfl (by decide +kernel)) ggX5_passDays_X7_together
set_option maxRecDepth 20000 in
theorem ggX5_passDays_X5_passDay : GoodIn wsX5_passDays wsX5_passDay := goodIn_r _ [26, 27, 2, 3, 4, 28, 1, 11, 29, 10, 12, 13, 14, 15, 30, 31, 32, 8, 33, 34, 35, 36, 37, 38, 39, 40, 41, 42, 43, 44, 45, 46, 47, 48, 49, 50, 51, 52, 53, 54, 55, 56, 57, 58, 59, 60, 61, 62, 63, 64, 65, 66, 67, 68, 69, 70, 71, 72, 73, 74, 75, 76, 77, 78, 79, 80, 81, 82, 83, 84] rfl (by decide +kernel)
set_option maxRecDepth 20000 in
theorem gX5_passDays_X5_passDay : GoodIn wsX5_passDays (wsV RX5 147 RX5 yX5_passDay wsX5_passDay) := goodIn_app (goodIn_r _ [23, 24, 25, 8] rfl (by decide +kernel)) ggX5_passDays_X5_passDay
set_option maxRecDepth 20000 in
theorem ggX5_passDay_J7_fill_d0a16 : GoodIn wsX5_passDay wsJ7_fill_d0a16 := goodIn_r _ [13] rfl (by decide +kernel)
set_option maxRecDepth 20000 in
theorem gX5_passDay_J7_fill_d0a16 : GoodIn wsX5_passDay (va_wsS RX5 124 yJ7_fill_d0a16 wsJ7_fill_d0a16) := goodIn_app (goodIn_r _ [10, 11, 12] rfl (by decide +kernel)) ggX5_passDay_J7_fill_d0a16
set_option maxRecDepth 20000 in
theorem ggX5_passDay_X5_spread : GoodIn wsX5_passDay wsX5_spread := goodIn_r _ [18, 4, 5, 9, 19, 1, 3, 20, 21, 6, 22, 23, 24, 17, 25, 26, 27, 28, 29, 30, 31, 36, 37, 38, 39, 40, 41, 42, 43, 44, 45, 46, 47, 48, 49, 50, 51, 52, 53, 54, 55, 56, 57, 58, 59, 60, 61, 62, 63, 64, 65, 66, 67, 68, 69] rfl (by decide +kernel)
set_option maxRecDepth 20000 in
theorem gX5_passDay_X5_spread : GoodIn wsX5_passDay (wsV RX5 150 RX5 yX5_spread wsX5_spread) := goodIn_app (goodIn_r _ [14, 15, 16, 17] rfl (by decide +kernel)) ggX5_passDay_X5_spread
set_option maxRecDepth 20000 in
theorem ggX5_passDay_X5_swapWays : GoodIn wsX5_passDay wsX5_swapWays := goodIn_r _ [35, 9, 1, 36, 37, 38, 39, 40, 41, 42, 43, 44, 45, 46, 47, 48, 49] rfl (by decide +kernel)
set_option maxRecDepth 20000 in
theorem gX5_passDay_X5_swapWays : GoodIn wsX5_passDay (wsV RX5 127 RX5 yX5_swapWays wsX5_swapWays) := goodIn_app (goodIn_r _ [32, 33, 34, 17] rfl (by decide +kernel)) ggX5_passDay_X5_swapWays
set_option maxRecDepth 20000 in
theorem ggX5_spread_X5_pick : GoodIn wsX5_spread wsX5_pick := goodIn_r _ [14, 15, 21, 22, 23, 24, 25, 26, 27, 28, 29, 30, 31, 32, 33, 34] rfl (by decide +kernel)
set_option maxRecDepth 20000 in
theorem gX5_spread_X5_pick : GoodIn wsX5_spread (wsV RX5 101 RX5 yX5_pick wsX5_pick) := goodIn_app (goodIn_r _ [10, 11, 12, 13] rfl (by decide +kernel)) ggX5_spread_X5_pick
set_option maxRecDepth 20000 in
theorem ggX5_spread_X5_isShutAt : GoodIn wsX5_spread wsX5_isShutAt := goodIn_r _ [19, 20, 21, 22, 23, 24, 25, 26, 27, 28, 29, 30, 31, 32, 33, 34] rfl (by decide +kernel)
set_option maxRecDepth 20000 in
theorem gX5_spread_X5_isShutAt : GoodIn wsX5_spread (wsV RX5 109 RX5 yX5_isShutAt wsX5_isShutAt) := goodIn_app (goodIn_r _ [16, 17, 18, 13] rfl (by decide +kernel)) ggX5_spread_X5_isShutAt
set_option maxRecDepth 20000 in
theorem ggX6_init_X9_init : GoodIn wsX6_init wsX9_init := goodIn_r _ [11, 12, 2, 3, 13, 14, 15, 16, 17, 18, 19, 20, 21, 22, 26, 27, 28, 29, 30, 31, 32, 33, 34] rfl (by decide +kernel)
set_option maxRecDepth 20000 in
theorem ggX6_keep_X9_copyFrom : GoodIn wsX6_keep wsX9_copyFrom := goodIn_r _ [12, 13, 14, 15, 16, 17, 18, 19, 20, 21, 25, 26, 27, 28, 29, 30, 31, 32, 33] rfl (by decide +kernel)
set_option maxRecDepth 20000 in
theorem gX6_keep_X9_copyFrom : GoodIn wsX6_keep (wsV RX6 25 RX9 yX9_copyFrom wsX9_copyFrom) := goodIn_app (goodIn_r _ [8, 9, 10, 11] rfl (by decide +kernel)) ggX6_keep_X9_copyFrom
set_option maxRecDepth 20000 in
theorem ggX6_bringBack_J9_floorMod_7cf53 : GoodIn wsX6_bringBack wsJ9_floorMod_7cf53 := goodIn_r _ [7] rfl (by decide +kernel)
set_option maxRecDepth 20000 in
theorem gX6_bringBack_J9_floorMod_7cf53 : GoodIn wsX6_bringBack (va_wsS RX6 35 yJ9_floorMod_7cf53 wsJ9_floorMod_7cf53) := goodIn_app (goodIn_r _ [4, 5, 6] rfl (by decide +kernel)) ggX6_bringBack_J9_floorMod_7cf53
set_option maxRecDepth 20000 in
theorem ggX6_bringBack_X9_copyFrom : GoodIn wsX6_bringBack wsX9_copyFrom := goodIn_r _ [12, 13, 14, 15, 16, 17, 18, 19, 20, 21, 25, 26, 27, 28, 29, 30, 31, 32, 33] rfl (by decide +kernel)
set_option maxRecDepth 20000 in
theorem gX6_bringBack_X9_copyFrom : GoodIn wsX6_bringBack (wsV RX6 25 RX9 yX9_copyFrom wsX9_copyFrom) := goodIn_app (goodIn_r _ [8, 9, 10, 11] rfl (by decide +kernel)) ggX6_bringBack_X9_copyFrom
set_option maxRecDepth 20000 in
theorem ggX8_read_X7_clear : GoodIn wsX8_read wsX7_clear := goodIn_r _ [10, 11, 12, 13, 14, 15, 16, 17, 264, 265, 266, 267, 268, 269, 270, 271, 272, 273, 274] rfl (by decide +kernel)
set_option maxRecDepth 20000 in
theorem gX8_read_X7_clear : GoodIn wsX8_read (wsV RX8 36 RX7 yX7_clear wsX7_clear) := goodIn_app (goodIn_r _ [6, 7, 8, 9] rfl (by decide +kernel)) ggX8_read_X7_clear
set_option maxRecDepth 20000 in
theorem ggX8_read_X9_clear : GoodIn wsX8_read wsX9_clear := goodIn_r _ [22, 23, 24, 25, 26, 27, 28, 29, 275, 276, 277, 278, 279, 280, 281, 282, 283] rfl (by decide +kernel)
set_option maxRecDepth 20000 in
theorem gX8_read_X9_clear : GoodIn wsX8_read (wsV RX8 41 RX9 yX9_clear wsX9_clear) := goodIn_app (goodIn_r _ [18, 19, 20, 21] rfl (by decide +kernel)) ggX8_read_X9_clear
set_option maxRecDepth 20000 in
theorem ggX8_read_X8_split : GoodIn wsX8_read wsX8_split := goodIn_r _ [34, 35, 36, 37, 38, 39, 40, 41, 42, 43, 44, 45, 46, 47, 48, 49, 50, 51, 52, 53, 54, 55, 56, 57, 58, 59, 60, 61, 62, 63, 64, 65, 66, 67, 68, 69, 70, 71, 72, 73, 74, 75, 76, 77, 78, 79, 80, 81, 82, 83, 84, 85, 86, 87, 88, 89, 90, 91, 92, 93, 94, 95, 96, 97, 98, 99, 100, 101, 102, 103, 104, 105, 106, 107, 108, 109, 110, 111, 112, 113, 114, 115, 116, 117, 118, 119, 120, 121, 122, 123, 124, 125, 126, 127, 128, 129, 130, 131, 132, 133, 134, 135, 136, 137, 138, 139, 140, 141, 142, 143, 144, 145, 146, 147, 148, 149, 150, 151, 152, 153, 154, 155, 156, 157, 158, 159, 160, 161, 162, 163, 164, 165, 166, 167, 168, 257, 258, 259, 260, 261, 262, 263] rfl (by decide +kernel)
set_option maxRecDepth 20000 in
theorem gX8_read_X8_split : GoodIn wsX8_read (wsV RX8 44 RX8 yX8_split wsX8_split) := goodIn_app (goodIn_r _ [30, 31, 32, 33] rfl (by decide +kernel)) ggX8_read_X8_split
set_option maxRecDepth 20000 in
theorem ggX8_read_X8_expect : GoodIn wsX8_read wsX8_expect := goodIn_r _ [172, 4, 3, 173, 174, 175, 33, 176, 36, 177, 178, 179, 180, 35, 5, 257, 258, 259, 260, 261, 262, 263] rfl (by decide +kernel)
set_option maxRecDepth 20000 in
theorem gX8_read_X8_expect : GoodIn wsX8_read (wsV RX8 50 RX8 yX8_expect wsX8_expect) := goodIn_app (goodIn_r _ [169, 170, 171, 33] rfl (by decide +kernel)) ggX8_read_X8_expect
set_option maxRecDepth 20000 in
theorem ggX8_read_X8_endLine : GoodIn wsX8_read wsX8_endLine := goodIn_r _ [184, 1, 185, 169, 170, 171, 33, 172, 4, 3, 173, 174, 175, 176, 36, 177, 178, 179, 180, 35, 5, 257, 258, 259, 260, 261, 262, 263, 264, 265, 266, 267, 268, 269, 270, 271, 272, 273, 274] rfl (by decide +kernel)
set_option maxRecDepth 20000 in
theorem gX8_read_X8_endLine : GoodIn wsX8_read (wsV RX8 54 RX8 yX8_endLine wsX8_endLine) := goodIn_app (goodIn_r _ [181, 182, 183, 33] rfl (by decide +kernel)) ggX8_read_X8_endLine
set_option maxRecDepth 20000 in
theorem ggX8_read_X8_token : GoodIn wsX8_read wsX8_token := goodIn_r _ [176, 3, 36, 257, 258, 259, 260, 261, 262, 263] rfl (by decide +kernel)
set_option maxRecDepth 20000 in
theorem gX8_read_X8_token : GoodIn wsX8_read (wsV RX8 57 RX8 yX8_token wsX8_token) := goodIn_app (goodIn_r _ [173, 174, 175, 33] rfl (by decide +kernel)) ggX8_read_X8_token
set_option maxRecDepth 20000 in
theorem ggX8_read_X8_line : GoodIn wsX8_read wsX8_line := goodIn_r _ [189, 3, 1, 190, 191, 192, 193, 194, 173, 174, 175, 33, 176, 36, 195, 196, 197, 198, 2, 199, 200, 201, 4, 177, 178, 179, 180, 35, 5, 169, 170, 171, 172, 202, 203, 204, 205, 206, 207, 208, 209, 210, 211, 212, 213, 214, 215, 216, 217, 218, 219, 220, 221, 222, 223, 224, 225, 226, 227, 228, 229, 230, 231, 232, 233, 234, 235, 236, 237, 238, 239, 240, 241, 242, 243, 244, 245, 246, 247, 248, 249, 250, 251, 252, 253, 254, 255, 256, 257, 258, 259, 260, 261, 262, 263, 264, 265, 266, 267, 268, 269, 270, 271, 272, 273, 274, 275, 276, 277, 278, 279, 280, 281, 282, 283] rfl (by decide +kernel)
set_option maxRecDepth 20000 in
theorem gX8_read_X8_line : GoodIn wsX8_read (wsV RX8 61 RX8 yX8_line wsX8_line) := goodIn_app (goodIn_r _ [186, 187, 188, 33] rfl (by decide +kernel)) ggX8_read_X8_line
set_option maxRecDepth 20000 in
theorem ggX8_split_X3_isBlank : GoodIn wsX8_split wsX3_isBlank := goodIn_r _ [10] rfl (by decide +kernel)
set_option maxRecDepth 20000 in
theorem gX8_split_X3_isBlank : GoodIn wsX8_split (va_wsS RX8 64 yX3_isBlank wsX3_isBlank) := goodIn_app (goodIn_r _ [7, 8, 9] rfl (by decide +kernel)) ggX8_split_X3_isBlank
set_option maxRecDepth 20000 in
theorem ggX8_split_X3_endOf : GoodIn wsX8_split wsX3_endOf := goodIn_r _ [13, 14, 15, 9, 16, 17, 18, 19] rfl (by decide +kernel)
set_option maxRecDepth 20000 in
theorem gX8_split_X3_endOf : GoodIn wsX8_split (va_wsS RX8 68 yX3_endOf wsX3_endOf) := goodIn_app (goodIn_r _ [11, 12, 9] rfl (by decide +kernel)) ggX8_split_X3_endOf
set_option maxRecDepth 20000 in
theorem ggX8_split_X3_meaning : GoodIn wsX8_split wsX3_meaning := goodIn_r _ [22, 14, 15, 9, 16, 23, 24, 25, 26, 27, 28, 29, 30, 31, 32, 33, 34, 35, 36, 37, 38, 39, 40, 41, 42, 43, 44, 45, 46, 47, 48, 49, 50, 51, 52, 53, 54, 55, 56, 57, 58, 59, 60, 61, 62, 63, 64, 65, 66, 17, 18, 19, 67, 68, 69, 70, 71, 72, 73, 74, 75, 76, 77, 78, 79, 80, 81, 82, 83, 84, 85, 86, 87, 88, 89, 4, 5, 6, 90, 91, 92, 93, 94, 95, 96, 97, 98, 99, 100, 101, 102, 103, 104, 105, 106, 107, 108, 109, 110, 111, 112, 113, 114, 115, 116, 117, 118, 119, 120, 121, 122, 123, 124, 125, 126, 127, 128, 129, 130, 131, 132, 133, 134] rfl (by decide +kernel)
set_option maxRecDepth 20000 in
theorem gX8_split_X3_meaning : GoodIn wsX8_split (va_wsS RX8 72 yX3_meaning wsX3_meaning) := goodIn_app (goodIn_r _ [20, 21, 9] rfl (by decide +kernel)) ggX8_split_X3_meaning
set_option maxRecDepth 20000 in
theorem ggX8_expect_X8_token : GoodIn wsX8_expect wsX8_token := goodIn_r _ [7, 2, 8, 15, 16, 17, 18, 19, 20, 21] rfl (by decide +kernel)
set_option maxRecDepth 20000 in
theorem gX8_expect_X8_token : GoodIn wsX8_expect (wsV RX8 57 RX8 yX8_token wsX8_token) := goodIn_app (goodIn_r _ [3, 4, 5, 6] rfl (by decide +kernel)) ggX8_expect_X8_token
set_option maxRecDepth 20000 in
theorem ggX8_expect_X8_fail : GoodIn wsX8_expect wsX8_fail := goodIn_r _ [12, 1, 2, 8, 13, 14, 15, 16, 17, 18, 19, 20, 21] rfl (by decide +kernel)
set_option maxRecDepth 20000 in
theorem gX8_expect_X8_fail : GoodIn wsX8_expect (wsV RX8 81 RX8 yX8_fail wsX8_fail) := goodIn_app (goodIn_r _ [9, 10, 11, 6] rfl (by decide +kernel)) ggX8_expect_X8_fail
set_option maxRecDepth 20000 in
theorem ggX8_endLine_X8_expect : GoodIn wsX8_endLine wsX8_expect := goodIn_r _ [7, 8, 9, 10, 11, 12, 6, 13, 14, 15, 16, 17, 18, 19, 20, 21, 22, 23, 24, 25, 26, 27] rfl (by decide +kernel)
set_option maxRecDepth 20000 in
theorem gX8_endLine_X8_expect : GoodIn wsX8_endLine (wsV RX8 50 RX8 yX8_expect wsX8_expect) := goodIn_app (goodIn_r _ [3, 4, 5, 6] rfl (by decide +kernel)) ggX8_endLine_X8_expect
set_option maxRecDepth 20000 in
theorem ggX8_numberWithin_X8_token : GoodIn wsX8_numberWithin wsX8_token := goodIn_r _ [7, 2, 8, 15, 16, 17, 18, 19, 20, 21] rfl (by decide +kernel)
set_option maxRecDepth 20000 in
theorem gX8_numberWithin_X8_token : GoodIn wsX8_numberWithin (wsV RX8 57 RX8 yX8_token wsX8_token) := goodIn_app (goodIn_r _ [3, 4, 5, 6] rfl (by decide +kernel)) ggX8_numberWithin_X8_token
set_option maxRecDepth 20000 in
theorem ggX8_numberWithin_X8_fail : GoodIn wsX8_numberWithin wsX8_fail := goodIn_r _ [12, 1, 2, 8, 13, 14, 15, 16, 17, 18, 19, 20, 21] rfl (by decide +kernel)
set_option maxRecDepth 20000 in
theorem gX8_numberWithin_X8_fail : GoodIn wsX8_numberWithin (wsV RX8 81 RX8 yX8_fail wsX8_fail) := goodIn_app (goodIn_r _ [9, 10, 11, 6] rfl (by decide +kernel)) ggX8_numberWithin_X8_fail
set_option maxRecDepth 20000 in
theorem ggX8_line_X8_token : GoodIn wsX8_line wsX8_token := goodIn_r _ [12, 1, 13, 88, 89, 90, 91, 92, 93, 94] rfl (by decide +kernel)
set_option maxRecDepth 20000 in
theorem gX8_line_X8_token : GoodIn wsX8_line (wsV RX8 57 RX8 yX8_token wsX8_token) := goodIn_app (goodIn_r _ [8, 9, 10, 11] rfl (by decide +kernel)) ggX8_line_X8_token
set_option maxRecDepth 20000 in
theorem ggX8_line_X8_kindLine : GoodIn wsX8_line wsX8_kindLine := goodIn_r _ [17, 18, 19, 1, 20, 21, 22, 23, 24, 25, 11, 26, 13, 27, 28, 29, 30, 31, 32, 8, 9, 10, 12, 33, 34, 35, 36, 37, 38, 39, 40, 41, 42, 88, 89, 90, 91, 92, 93, 94, 106, 107, 108, 109, 110, 111, 112, 113, 114] rfl (by decide +kernel)
set_option maxRecDepth 20000 in
theorem gX8_line_X8_kindLine : GoodIn wsX8_line (wsV RX8 87 RX8 yX8_kindLine wsX8_kindLine) := goodIn_app (goodIn_r _ [14, 15, 16, 11] rfl (by decide +kernel)) ggX8_line_X8_kindLine
set_option maxRecDepth 20000 in
theorem ggX8_line_X8_buyerLine : GoodIn wsX8_line wsX8_buyerLine := goodIn_r _ [46, 2, 47, 1, 48, 49, 50, 22, 23, 24, 25, 11, 26, 13, 27, 28, 29, 30, 31, 32, 8, 9, 10, 12, 33, 34, 35, 36, 51, 52, 53, 54, 88, 89, 90, 91, 92, 93, 94, 95, 96, 97, 98, 99, 100, 101, 102, 103, 104, 105] rfl (by decide +kernel)
set_option maxRecDepth 20000 in
theorem gX8_line_X8_buyerLine : GoodIn wsX8_line (wsV RX8 90 RX8 yX8_buyerLine wsX8_buyerLine) := goodIn_app (goodIn_r _ [43, 44, 45, 11] rfl (by decide +kernel)) ggX8_line_X8_buyerLine
set_option maxRecDepth 20000 in
theorem ggX8_line_X8_expect : GoodIn wsX8_line wsX8_expect := goodIn_r _ [32, 22, 1, 8, 9, 10, 11, 12, 13, 23, 24, 25, 26, 27, 28, 88, 89, 90, 91, 92, 93, 94] rfl (by decide +kernel)
set_option maxRecDepth 20000 in
theorem gX8_line_X8_expect : GoodIn wsX8_line (wsV RX8 50 RX8 yX8_expect wsX8_expect) := goodIn_app (goodIn_r _ [29, 30, 31, 11] rfl (by decide +kernel)) ggX8_line_X8_expect
set_option maxRecDepth 20000 in
theorem ggX8_line_X8_sum : GoodIn wsX8_line wsX8_sum := goodIn_r _ [58, 22, 1, 59, 60, 61, 11, 8, 9, 10, 12, 13, 62, 63, 64, 65, 2, 3, 66, 67, 68, 69, 70, 71, 23, 24, 25, 26, 27, 28, 55, 56, 57, 29, 30, 31, 32, 72, 73, 74, 75, 88, 89, 90, 91, 92, 93, 94, 95, 96, 97, 98, 99, 100, 101, 102, 103, 104, 105] rfl (by decide +kernel)
set_option maxRecDepth 20000 in
theorem gX8_line_X8_sum : GoodIn wsX8_line (wsV RX8 99 RX8 yX8_sum wsX8_sum) := goodIn_app (goodIn_r _ [55, 56, 57, 11] rfl (by decide +kernel)) ggX8_line_X8_sum
set_option maxRecDepth 20000 in
theorem ggX8_line_X8_truth : GoodIn wsX8_line wsX8_truth := goodIn_r _ [79, 22, 1, 80, 81, 82, 11, 8, 9, 10, 12, 13, 62, 63, 64, 65, 2, 3, 66, 83, 84, 85, 86, 87, 68, 69, 70, 71, 23, 24, 25, 26, 27, 28, 76, 77, 78, 29, 30, 31, 32, 55, 56, 57, 58, 59, 60, 61, 67, 72, 73, 74, 75, 88, 89, 90, 91, 92, 93, 94, 95, 96, 97, 98, 99, 100, 101, 102, 103, 104, 105] rfl (by decide +kernel)
set_option maxRecDepth 20000 in
theorem gX8_line_X8_truth : GoodIn wsX8_line (wsV RX8 108 RX8 yX8_truth wsX8_truth) := goodIn_app (goodIn_r _ [76, 77, 78, 11] rfl (by decide +kernel)) ggX8_line_X8_truth
set_option maxRecDepth 20000 in
theorem ggX8_line_X8_fail : GoodIn wsX8_line wsX8_fail := goodIn_r _ [26, 22, 1, 13, 27, 28, 88, 89, 90, 91, 92, 93, 94] rfl (by decide +kernel)
set_option maxRecDepth 20000 in
theorem gX8_line_X8_fail : GoodIn wsX8_line (wsV RX8 81 RX8 yX8_fail wsX8_fail) := goodIn_app (goodIn_r _ [23, 24, 25, 11] rfl (by decide +kernel)) ggX8_line_X8_fail
set_option maxRecDepth 20000 in
theorem ggX8_kindLine_X8_fail : GoodIn wsX8_kindLine wsX8_fail := goodIn_r _ [11, 6, 3, 12, 13, 14, 33, 34, 35, 36, 37, 38, 39] rfl (by decide +kernel)
set_option maxRecDepth 20000 in
theorem gX8_kindLine_X8_fail : GoodIn wsX8_kindLine (wsV RX8 81 RX8 yX8_fail wsX8_fail) := goodIn_app (goodIn_r _ [7, 8, 9, 10] rfl (by decide +kernel)) ggX8_kindLine_X8_fail
set_option maxRecDepth 20000 in
theorem ggX8_kindLine_X8_expect : GoodIn wsX8_kindLine wsX8_expect := goodIn_r _ [18, 6, 3, 19, 20, 21, 10, 22, 12, 7, 8, 9, 11, 13, 14, 33, 34, 35, 36, 37, 38, 39] rfl (by decide +kernel)
set_option maxRecDepth 20000 in
theorem gX8_kindLine_X8_expect : GoodIn wsX8_kindLine (wsV RX8 50 RX8 yX8_expect wsX8_expect) := goodIn_app (goodIn_r _ [15, 16, 17, 10] rfl (by decide +kernel)) ggX8_kindLine_X8_expect
set_option maxRecDepth 20000 in
theorem ggX8_kindLine_X8_numberWithin : GoodIn wsX8_kindLine wsX8_numberWithin := goodIn_r _ [26, 6, 3, 19, 20, 21, 10, 22, 12, 7, 8, 9, 11, 13, 14, 33, 34, 35, 36, 37, 38, 39] rfl (by decide +kernel)
set_option maxRecDepth 20000 in
theorem gX8_kindLine_X8_numberWithin : GoodIn wsX8_kindLine (wsV RX8 120 RX8 yX8_numberWithin wsX8_numberWithin) := goodIn_app (goodIn_r _ [23, 24, 25, 10] rfl (by decide +kernel)) ggX8_kindLine_X8_numberWithin
set_option maxRecDepth 20000 in
theorem ggX8_kindLine_X8_takeFlag : GoodIn wsX8_kindLine wsX8_takeFlag := goodIn_r _ [30, 3, 1, 5, 31, 32, 19, 20, 21, 10, 22, 12, 23, 24, 25, 26, 6, 7, 8, 9, 11, 13, 14, 33, 34, 35, 36, 37, 38, 39, 40, 41, 42, 43, 44, 45, 46, 47, 48] rfl (by decide +kernel)
set_option maxRecDepth 20000 in
theorem gX8_kindLine_X8_takeFlag : GoodIn wsX8_kindLine (wsV RX8 126 RX8 yX8_takeFlag wsX8_takeFlag) := goodIn_app (goodIn_r _ [27, 28, 29, 10] rfl (by decide +kernel)) ggX8_kindLine_X8_takeFlag
set_option maxRecDepth 20000 in
theorem ggX8_takeFlag_X8_token : GoodIn wsX8_takeFlag wsX8_token := goodIn_r _ [10, 1, 11, 23, 24, 25, 26, 27, 28, 29] rfl (by decide +kernel)
set_option maxRecDepth 20000 in
theorem gX8_takeFlag_X8_token : GoodIn wsX8_takeFlag (wsV RX8 57 RX8 yX8_token wsX8_token) := goodIn_app (goodIn_r _ [6, 7, 8, 9] rfl (by decide +kernel)) ggX8_takeFlag_X8_token
set_option maxRecDepth 20000 in
theorem ggX8_takeFlag_X8_numberWithin : GoodIn wsX8_takeFlag wsX8_numberWithin := goodIn_r _ [15, 16, 1, 6, 7, 8, 9, 10, 11, 17, 18, 19, 20, 21, 22, 23, 24, 25, 26, 27, 28, 29] rfl (by decide +kernel)
set_option maxRecDepth 20000 in
theorem gX8_takeFlag_X8_numberWithin : GoodIn wsX8_takeFlag (wsV RX8 120 RX8 yX8_numberWithin wsX8_numberWithin) := goodIn_app (goodIn_r _ [12, 13, 14, 9] rfl (by decide +kernel)) ggX8_takeFlag_X8_numberWithin
set_option maxRecDepth 20000 in
theorem ggX8_buyerLine_X8_fail : GoodIn wsX8_buyerLine wsX8_fail := goodIn_r _ [12, 7, 3, 13, 14, 15, 32, 33, 34, 35, 36, 37, 38] rfl (by decide +kernel)
set_option maxRecDepth 20000 in
theorem gX8_buyerLine_X8_fail : GoodIn wsX8_buyerLine (wsV RX8 81 RX8 yX8_fail wsX8_fail) := goodIn_app (goodIn_r _ [8, 9, 10, 11] rfl (by decide +kernel)) ggX8_buyerLine_X8_fail
set_option maxRecDepth 20000 in
theorem ggX8_buyerLine_X8_expect : GoodIn wsX8_buyerLine wsX8_expect := goodIn_r _ [19, 7, 3, 20, 21, 22, 11, 23, 13, 8, 9, 10, 12, 14, 15, 32, 33, 34, 35, 36, 37, 38] rfl (by decide +kernel)
set_option maxRecDepth 20000 in
theorem gX8_buyerLine_X8_expect : GoodIn wsX8_buyerLine (wsV RX8 50 RX8 yX8_expect wsX8_expect) := goodIn_app (goodIn_r _ [16, 17, 18, 11] rfl (by decide +kernel)) ggX8_buyerLine_X8_expect
set_option maxRecDepth 20000 in
theorem ggX8_buyerLine_X8_numberWithin : GoodIn wsX8_buyerLine wsX8_numberWithin := goodIn_r _ [27, 7, 3, 20, 21, 22, 11, 23, 13, 8, 9, 10, 12, 14, 15, 32, 33, 34, 35, 36, 37, 38] rfl (by decide +kernel)
set_option maxRecDepth 20000 in
theorem gX8_buyerLine_X8_numberWithin : GoodIn wsX8_buyerLine (wsV RX8 120 RX8 yX8_numberWithin wsX8_numberWithin) := goodIn_app (goodIn_r _ [24, 25, 26, 11] rfl (by decide +kernel)) ggX8_buyerLine_X8_numberWithin
set_option maxRecDepth 20000 in
theorem ggX8_buyerLine_X8_takeMark : GoodIn wsX8_buyerLine wsX8_takeMark := goodIn_r _ [31, 3, 1, 5, 6, 20, 21, 22, 11, 23, 13, 24, 25, 26, 27, 7, 8, 9, 10, 12, 14, 15, 32, 33, 34, 35, 36, 37, 38, 39, 40, 41, 42, 43, 44, 45, 46, 47, 48, 49] rfl (by decide +kernel)
set_option maxRecDepth 20000 in
theorem gX8_buyerLine_X8_takeMark : GoodIn wsX8_buyerLine (wsV RX8 147 RX8 yX8_takeMark wsX8_takeMark) := goodIn_app (goodIn_r _ [28, 29, 30, 11] rfl (by decide +kernel)) ggX8_buyerLine_X8_takeMark
set_option maxRecDepth 20000 in
theorem ggX8_takeMark_X8_token : GoodIn wsX8_takeMark wsX8_token := goodIn_r _ [9, 1, 10, 22, 23, 24, 25, 26, 27, 28] rfl (by decide +kernel)
set_option maxRecDepth 20000 in
theorem gX8_takeMark_X8_token : GoodIn wsX8_takeMark (wsV RX8 57 RX8 yX8_token wsX8_token) := goodIn_app (goodIn_r _ [5, 6, 7, 8] rfl (by decide +kernel)) ggX8_takeMark_X8_token
set_option maxRecDepth 20000 in
theorem ggX8_takeMark_X8_numberWithin : GoodIn wsX8_takeMark wsX8_numberWithin := goodIn_r _ [14, 15, 1, 5, 6, 7, 8, 9, 10, 16, 17, 18, 19, 20, 21, 22, 23, 24, 25, 26, 27, 28] rfl (by decide +kernel)
set_option maxRecDepth 20000 in
theorem gX8_takeMark_X8_numberWithin : GoodIn wsX8_takeMark (wsV RX8 120 RX8 yX8_numberWithin wsX8_numberWithin) := goodIn_app (goodIn_r _ [11, 12, 13, 8] rfl (by decide +kernel)) ggX8_takeMark_X8_numberWithin
set_option maxRecDepth 20000 in
theorem ggX8_truth_X8_both : GoodIn wsX8_truth wsX8_both := goodIn_r _ [19, 1, 2, 20, 21, 22, 6, 7, 8, 9, 10, 11, 12, 13, 14, 15, 16, 17, 18, 0, 3, 4, 5, 23, 24, 25, 26, 27, 28, 29, 30, 31, 32, 33, 34, 35, 36, 37, 38, 39, 40, 41, 42, 43, 44, 45, 46, 47, 48, 49, 50, 51, 52, 53, 54, 55, 56, 57, 58, 59, 60, 61, 62, 63, 64, 65, 66, 67, 68, 69, 70] rfl (by decide +kernel)
set_option maxRecDepth 20000 in
theorem gX8_truth_X8_both : GoodIn wsX8_truth (wsV RX8 153 RX8 yX8_both wsX8_both) := goodIn_app (goodIn_r _ [3, 4, 5, 6] rfl (by decide +kernel)) ggX8_truth_X8_both
set_option maxRecDepth 20000 in
theorem ggX8_truth_X8_token : GoodIn wsX8_truth wsX8_token := goodIn_r _ [10, 2, 11, 53, 54, 55, 56, 57, 58, 59] rfl (by decide +kernel)
set_option maxRecDepth 20000 in
theorem gX8_truth_X8_token : GoodIn wsX8_truth (wsV RX8 57 RX8 yX8_token wsX8_token) := goodIn_app (goodIn_r _ [7, 8, 9, 6] rfl (by decide +kernel)) ggX8_truth_X8_token
set_option maxRecDepth 20000 in
theorem ggX8_truth_X8_emit : GoodIn wsX8_truth wsX8_emit := goodIn_r _ [15, 1, 16, 17, 18, 53, 54, 55, 56, 57, 58, 59, 60, 61, 62, 63, 64, 65, 66, 67, 68, 69, 70] rfl (by decide +kernel)
set_option maxRecDepth 20000 in
theorem gX8_truth_X8_emit : GoodIn wsX8_truth (wsV RX8 156 RX8 yX8_emit wsX8_emit) := goodIn_app (goodIn_r _ [12, 13, 14, 6] rfl (by decide +kernel)) ggX8_truth_X8_emit
set_option maxRecDepth 20000 in
theorem ggX8_both_X8_unit : GoodIn wsX8_both wsX8_unit := goodIn_r _ [23, 1, 2, 7, 8, 9, 6, 10, 11, 24, 25, 26, 27, 28, 29, 30, 31, 32, 33, 3, 4, 5, 12, 13, 14, 15, 16, 17, 18, 34, 35, 36, 37, 38, 39, 40, 41, 42, 43, 44, 45, 46, 47, 48, 49, 50, 51, 52, 0, 19, 20, 21, 22, 53, 54, 55, 56, 57, 58, 59, 60, 61, 62, 63, 64, 65, 66, 67, 68, 69, 70] rfl (by decide +kernel)
set_option maxRecDepth 20000 in
theorem gX8_both_X8_unit : GoodIn wsX8_both (wsV RX8 159 RX8 yX8_unit wsX8_unit) := goodIn_app (goodIn_r _ [3, 4, 5, 6] rfl (by decide +kernel)) ggX8_both_X8_unit
set_option maxRecDepth 20000 in
theorem ggX8_both_X8_token : GoodIn wsX8_both wsX8_token := goodIn_r _ [10, 2, 11, 53, 54, 55, 56, 57, 58, 59] rfl (by decide +kernel)
set_option maxRecDepth 20000 in
theorem gX8_both_X8_token : GoodIn wsX8_both (wsV RX8 57 RX8 yX8_token wsX8_token) := goodIn_app (goodIn_r _ [7, 8, 9, 6] rfl (by decide +kernel)) ggX8_both_X8_token
set_option maxRecDepth 20000 in
theorem ggX8_both_X8_emit : GoodIn wsX8_both wsX8_emit := goodIn_r _ [15, 1, 16, 17, 18, 53, 54, 55, 56, 57, 58, 59, 60, 61, 62, 63, 64, 65, 66, 67, 68, 69, 70] rfl (by decide +kernel)
set_option maxRecDepth 20000 in
theorem gX8_both_X8_emit : GoodIn wsX8_both (wsV RX8 156 RX8 yX8_emit wsX8_emit) := goodIn_app (goodIn_r _ [12, 13, 14, 6] rfl (by decide +kernel)) ggX8_both_X8_emit
set_option maxRecDepth 20000 in
theorem ggX8_unit_X8_token : GoodIn wsX8_unit wsX8_token := goodIn_r _ [7, 2, 8, 53, 54, 55, 56, 57, 58, 59] rfl (by decide +kernel)
set_option maxRecDepth 20000 in
theorem gX8_unit_X8_token : GoodIn wsX8_unit (wsV RX8 57 RX8 yX8_token wsX8_token) := goodIn_app (goodIn_r _ [3, 4, 5, 6] rfl (by decide +kernel)) ggX8_unit_X8_token
set_option maxRecDepth 20000 in
theorem ggX8_unit_X8_goDeeper : GoodIn wsX8_unit wsX8_goDeeper := goodIn_r _ [12, 2, 13, 14, 15, 6, 16, 1, 8, 17, 18, 53, 54, 55, 56, 57, 58, 59] rfl (by decide +kernel)
set_option maxRecDepth 20000 in
theorem gX8_unit_X8_goDeeper : GoodIn wsX8_unit (wsV RX8 162 RX8 yX8_goDeeper wsX8_goDeeper) := goodIn_app (goodIn_r _ [9, 10, 11, 6] rfl (by decide +kernel)) ggX8_unit_X8_goDeeper
set_option maxRecDepth 20000 in
theorem ggX8_unit_X8_unit : GoodIn wsX8_unit wsX8_unit := goodIn_r _ [0, 1, 2, 3, 4, 5, 6, 7, 8, 9, 10, 11, 12, 13, 14, 15, 16, 17, 18, 19, 20, 21, 22, 23, 24, 25, 26, 27, 28, 29, 30, 31, 32, 33, 34, 35, 36, 37, 38, 39, 40, 41, 42, 43, 44, 45, 46, 47, 48, 49, 50, 51, 52, 53, 54, 55, 56, 57, 58, 59, 60, 61, 62, 63, 64, 65, 66, 67, 68, 69, 70] rfl (by decide +kernel)
set_option maxRecDepth 20000 in
theorem gX8_unit_X8_unit : GoodIn wsX8_unit (wsV RX8 159 RX8 yX8_unit wsX8_unit) := goodIn_app (goodIn_r _ [19, 20, 21, 6] rfl (by decide +kernel)) ggX8_unit_X8_unit
set_option maxRecDepth 20000 in
theorem ggX8_unit_X8_emit : GoodIn wsX8_unit wsX8_emit := goodIn_r _ [25, 1, 26, 27, 28, 53, 54, 55, 56, 57, 58, 59, 60, 61, 62, 63, 64, 65, 66, 67, 68, 69, 70] rfl (by decide +kernel)
set_option maxRecDepth 20000 in
theorem gX8_unit_X8_emit : GoodIn wsX8_unit (wsV RX8 156 RX8 yX8_emit wsX8_emit) := goodIn_app (goodIn_r _ [22, 23, 24, 6] rfl (by decide +kernel)) ggX8_unit_X8_emit
set_option maxRecDepth 20000 in
theorem ggX8_unit_X8_truth : GoodIn wsX8_unit wsX8_truth := goodIn_r _ [49, 1, 2, 50, 51, 52, 6, 3, 4, 5, 7, 8, 22, 23, 24, 25, 26, 27, 28, 48, 19, 20, 21, 0, 9, 10, 11, 12, 13, 14, 15, 16, 17, 18, 29, 30, 31, 32, 33, 34, 35, 36, 37, 38, 39, 40, 41, 42, 43, 44, 45, 46, 47, 53, 54, 55, 56, 57, 58, 59, 60, 61, 62, 63, 64, 65, 66, 67, 68, 69, 70] rfl (by decide +kernel)
set_option maxRecDepth 20000 in
theorem gX8_unit_X8_truth : GoodIn wsX8_unit (wsV RX8 108 RX8 yX8_truth wsX8_truth) := goodIn_app (goodIn_r _ [29, 30, 31, 6] rfl (by decide +kernel)) ggX8_unit_X8_truth
set_option maxRecDepth 20000 in
theorem ggX8_unit_X8_expect : GoodIn wsX8_unit wsX8_expect := goodIn_r _ [35, 1, 2, 3, 4, 5, 6, 7, 8, 13, 14, 15, 16, 17, 18, 53, 54, 55, 56, 57, 58, 59] rfl (by decide +kernel)
set_option maxRecDepth 20000 in
theorem gX8_unit_X8_expect : GoodIn wsX8_unit (wsV RX8 50 RX8 yX8_expect wsX8_expect) := goodIn_app (goodIn_r _ [32, 33, 34, 6] rfl (by decide +kernel)) ggX8_unit_X8_expect
set_option maxRecDepth 20000 in
theorem ggX8_unit_X8_sum : GoodIn wsX8_unit wsX8_sum := goodIn_r _ [39, 1, 2, 40, 41, 42, 6, 3, 4, 5, 7, 8, 22, 23, 24, 25, 26, 27, 28, 43, 9, 10, 11, 12, 13, 14, 15, 16, 17, 18, 36, 37, 38, 32, 33, 34, 35, 44, 45, 46, 47, 53, 54, 55, 56, 57, 58, 59, 60, 61, 62, 63, 64, 65, 66, 67, 68, 69, 70] rfl (by decide +kernel)
set_option maxRecDepth 20000 in
theorem gX8_unit_X8_sum : GoodIn wsX8_unit (wsV RX8 99 RX8 yX8_sum wsX8_sum) := goodIn_app (goodIn_r _ [36, 37, 38, 6] rfl (by decide +kernel)) ggX8_unit_X8_sum
set_option maxRecDepth 20000 in
theorem ggX8_unit_X8_fail : GoodIn wsX8_unit wsX8_fail := goodIn_r _ [16, 1, 2, 8, 17, 18, 53, 54, 55, 56, 57, 58, 59] rfl (by decide +kernel)
set_option maxRecDepth 20000 in
theorem gX8_unit_X8_fail : GoodIn wsX8_unit (wsV RX8 81 RX8 yX8_fail wsX8_fail) := goodIn_app (goodIn_r _ [13, 14, 15, 6] rfl (by decide +kernel)) ggX8_unit_X8_fail
set_option maxRecDepth 20000 in
theorem ggX8_goDeeper_X8_fail : GoodIn wsX8_goDeeper wsX8_fail := goodIn_r _ [6, 7, 1, 8, 9, 10, 11, 12, 13, 14, 15, 16, 17] rfl (by decide +kernel)
set_option maxRecDepth 20000 in
theorem gX8_goDeeper_X8_fail : GoodIn wsX8_goDeeper (wsV RX8 81 RX8 yX8_fail wsX8_fail) := goodIn_app (goodIn_r _ [2, 3, 4, 5] rfl (by decide +kernel)) ggX8_goDeeper_X8_fail
set_option maxRecDepth 20000 in
theorem ggX8_sum_X8_term : GoodIn wsX8_sum wsX8_term := goodIn_r _ [37, 1, 2, 38, 39, 40, 6, 7, 8, 9, 10, 11, 12, 13, 14, 15, 16, 17, 18, 19, 20, 21, 22, 23, 24, 25, 26, 27, 28, 29, 30, 31, 32, 33, 34, 35, 36, 0, 3, 4, 5, 41, 42, 43, 44, 45, 46, 47, 48, 49, 50, 51, 52, 53, 54, 55, 56, 57, 58] rfl (by decide +kernel)
set_option maxRecDepth 20000 in
theorem gX8_sum_X8_term : GoodIn wsX8_sum (wsV RX8 165 RX8 yX8_term wsX8_term) := goodIn_app (goodIn_r _ [3, 4, 5, 6] rfl (by decide +kernel)) ggX8_sum_X8_term
set_option maxRecDepth 20000 in
theorem ggX8_sum_X8_token : GoodIn wsX8_sum wsX8_token := goodIn_r _ [10, 2, 11, 41, 42, 43, 44, 45, 46, 47] rfl (by decide +kernel)
set_option maxRecDepth 20000 in
theorem gX8_sum_X8_token : GoodIn wsX8_sum (wsV RX8 57 RX8 yX8_token wsX8_token) := goodIn_app (goodIn_r _ [7, 8, 9, 6] rfl (by decide +kernel)) ggX8_sum_X8_token
set_option maxRecDepth 20000 in
theorem ggX8_sum_X8_emit : GoodIn wsX8_sum wsX8_emit := goodIn_r _ [15, 1, 16, 17, 18, 41, 42, 43, 44, 45, 46, 47, 48, 49, 50, 51, 52, 53, 54, 55, 56, 57, 58] rfl (by decide +kernel)
set_option maxRecDepth 20000 in
theorem gX8_sum_X8_emit : GoodIn wsX8_sum (wsV RX8 156 RX8 yX8_emit wsX8_emit) := goodIn_app (goodIn_r _ [12, 13, 14, 6] rfl (by decide +kernel)) ggX8_sum_X8_emit
set_option maxRecDepth 20000 in
theorem ggX8_term_X8_atom : GoodIn wsX8_term wsX8_atom := goodIn_r _ [19, 1, 2, 7, 8, 9, 6, 10, 11, 12, 13, 14, 15, 16, 17, 18, 20, 21, 22, 23, 24, 25, 26, 27, 28, 29, 30, 31, 32, 33, 34, 35, 36, 37, 38, 39, 40, 0, 3, 4, 5, 41, 42, 43, 44, 45, 46, 47, 48, 49, 50, 51, 52, 53, 54, 55, 56, 57, 58] rfl (by decide +kernel)
set_option maxRecDepth 20000 in
theorem gX8_term_X8_atom : GoodIn wsX8_term (wsV RX8 168 RX8 yX8_atom wsX8_atom) := goodIn_app (goodIn_r _ [3, 4, 5, 6] rfl (by decide +kernel)) ggX8_term_X8_atom
set_option maxRecDepth 20000 in
theorem ggX8_term_X8_token : GoodIn wsX8_term wsX8_token := goodIn_r _ [10, 2, 11, 41, 42, 43, 44, 45, 46, 47] rfl (by decide +kernel)
set_option maxRecDepth 20000 in
theorem gX8_term_X8_token : GoodIn wsX8_term (wsV RX8 57 RX8 yX8_token wsX8_token) := goodIn_app (goodIn_r _ [7, 8, 9, 6] rfl (by decide +kernel)) ggX8_term_X8_token
set_option maxRecDepth 20000 in
theorem ggX8_term_X8_emit : GoodIn wsX8_term wsX8_emit := goodIn_r _ [15, 1, 16, 17, 18, 41, 42, 43, 44, 45, 46, 47, 48, 49, 50, 51, 52, 53, 54, 55, 56, 57, 58] rfl (by decide +kernel)
set_option maxRecDepth 20000 in
theorem gX8_term_X8_emit : GoodIn wsX8_term (wsV RX8 156 RX8 yX8_emit wsX8_emit) := goodIn_app (goodIn_r _ [12, 13, 14, 6] rfl (by decide +kernel)) ggX8_term_X8_emit
set_option maxRecDepth 20000 in
theorem ggX8_atom_X8_token : GoodIn wsX8_atom wsX8_token := goodIn_r _ [7, 2, 8, 41, 42, 43, 44, 45, 46, 47] rfl (by decide +kernel)
set_option maxRecDepth 20000 in
theorem gX8_atom_X8_token : GoodIn wsX8_atom (wsV RX8 57 RX8 yX8_token wsX8_token) := goodIn_app (goodIn_r _ [3, 4, 5, 6] rfl (by decide +kernel)) ggX8_atom_X8_token
set_option maxRecDepth 20000 in
theorem ggX8_atom_X8_emit : GoodIn wsX8_atom wsX8_emit := goodIn_r _ [12, 1, 13, 14, 15, 41, 42, 43, 44, 45, 46, 47, 48, 49, 50, 51, 52, 53, 54, 55, 56, 57, 58] rfl (by decide +kernel)
set_option maxRecDepth 20000 in
theorem gX8_atom_X8_emit : GoodIn wsX8_atom (wsV RX8 156 RX8 yX8_emit wsX8_emit) := goodIn_app (goodIn_r _ [9, 10, 11, 6] rfl (by decide +kernel)) ggX8_atom_X8_emit
set_option maxRecDepth 20000 in
theorem ggX8_atom_X8_goDeeper : GoodIn wsX8_atom wsX8_goDeeper := goodIn_r _ [19, 2, 20, 21, 22, 6, 23, 1, 8, 24, 25, 41, 42, 43, 44, 45, 46, 47] rfl (by decide +kernel)
set_option maxRecDepth 20000 in
theorem gX8_atom_X8_goDeeper : GoodIn wsX8_atom (wsV RX8 162 RX8 yX8_goDeeper wsX8_goDeeper) := goodIn_app (goodIn_r _ [16, 17, 18, 6] rfl (by decide +kernel)) ggX8_atom_X8_goDeeper
set_option maxRecDepth 20000 in
theorem ggX8_atom_X8_sum : GoodIn wsX8_atom wsX8_sum := goodIn_r _ [33, 1, 2, 34, 35, 36, 6, 3, 4, 5, 7, 8, 9, 10, 11, 12, 13, 14, 15, 0, 16, 17, 18, 19, 20, 21, 22, 23, 24, 25, 26, 27, 28, 29, 30, 31, 32, 37, 38, 39, 40, 41, 42, 43, 44, 45, 46, 47, 48, 49, 50, 51, 52, 53, 54, 55, 56, 57, 58] rfl (by decide +kernel)
set_option maxRecDepth 20000 in
theorem gX8_atom_X8_sum : GoodIn wsX8_atom (wsV RX8 99 RX8 yX8_sum wsX8_sum) := goodIn_app (goodIn_r _ [26, 27, 28, 6] rfl (by decide +kernel)) ggX8_atom_X8_sum
set_option maxRecDepth 20000 in
theorem ggX8_atom_X8_expect : GoodIn wsX8_atom wsX8_expect := goodIn_r _ [32, 1, 2, 3, 4, 5, 6, 7, 8, 20, 21, 22, 23, 24, 25, 41, 42, 43, 44, 45, 46, 47] rfl (by decide +kernel)
set_option maxRecDepth 20000 in
theorem gX8_atom_X8_expect : GoodIn wsX8_atom (wsV RX8 50 RX8 yX8_expect wsX8_expect) := goodIn_app (goodIn_r _ [29, 30, 31, 6] rfl (by decide +kernel)) ggX8_atom_X8_expect
set_option maxRecDepth 20000 in
theorem ggX8_atom_X8_fail : GoodIn wsX8_atom wsX8_fail := goodIn_r _ [23, 1, 2, 8, 24, 25, 41, 42, 43, 44, 45, 46, 47] rfl (by decide +kernel)
set_option maxRecDepth 20000 in
theorem gX8_atom_X8_fail : GoodIn wsX8_atom (wsV RX8 81 RX8 yX8_fail wsX8_fail) := goodIn_app (goodIn_r _ [20, 21, 22, 6] rfl (by decide +kernel)) ggX8_atom_X8_fail
set_option maxRecDepth 20000 in
theorem ggX9_isShut_X9_everyKind : GoodIn wsX9_isShut wsX9_everyKind := goodIn_r _ [7, 8, 9, 10, 11, 12, 13, 14, 15, 16, 17] rfl (by decide +kernel)
set_option maxRecDepth 20000 in
theorem gX9_isShut_X9_everyKind : GoodIn wsX9_isShut (wsV RX9 40 RX9 yX9_everyKind wsX9_everyKind) := goodIn_app (goodIn_r _ [3, 4, 5, 6] rfl (by decide +kernel)) ggX9_isShut_X9_everyKind
set_option maxRecDepth 20000 in
theorem ggX10_layOut_J7_fill_d0a16 : GoodIn wsX10_layOut wsJ7_fill_d0a16 := goodIn_r _ [7] rfl (by decide +kernel)
set_option maxRecDepth 20000 in
theorem gX10_layOut_J7_fill_d0a16 : GoodIn wsX10_layOut (va_wsS RX10 28 yJ7_fill_d0a16 wsJ7_fill_d0a16) := goodIn_app (goodIn_r _ [4, 5, 6] rfl (by decide +kernel)) ggX10_layOut_J7_fill_d0a16
set_option maxRecDepth 20000 in
theorem ggX10_numberAt_X10_has : GoodIn wsX10_numberAt wsX10_has := goodIn_r _ [6, 7, 8, 9, 10] rfl (by decide +kernel)
set_option maxRecDepth 20000 in
theorem gX10_numberAt_X10_has : GoodIn wsX10_numberAt (wsV RX10 34 RX10 yX10_has wsX10_has) := goodIn_app (goodIn_r _ [2, 3, 4, 5] rfl (by decide +kernel)) ggX10_numberAt_X10_has
set_option maxRecDepth 20000 in
theorem ggX10_put_X10_has : GoodIn wsX10_put wsX10_has := goodIn_r _ [6, 7, 13, 14, 15] rfl (by decide +kernel)
set_option maxRecDepth 20000 in
theorem gX10_put_X10_has : GoodIn wsX10_put (wsV RX10 34 RX10 yX10_has wsX10_has) := goodIn_app (goodIn_r _ [2, 3, 4, 5] rfl (by decide +kernel)) ggX10_put_X10_has
set_option maxRecDepth 20000 in
theorem ggX10_put_X10_cut : GoodIn wsX10_put wsX10_cut := goodIn_r _ [11, 12, 13, 14, 15] rfl (by decide +kernel)
set_option maxRecDepth 20000 in
theorem gX10_put_X10_cut : GoodIn wsX10_put (wsV RX10 38 RX10 yX10_cut wsX10_cut) := goodIn_app (goodIn_r _ [8, 9, 10, 5] rfl (by decide +kernel)) ggX10_put_X10_cut
set_option maxRecDepth 20000 in
theorem ggX11_init_X7_init : GoodIn wsX11_init wsX7_init := goodIn_r _ [52, 53, 2, 3, 54, 55, 4, 56, 57, 58, 59, 60, 61, 62, 63, 64, 170, 171, 172, 173, 174, 175, 176, 177, 178, 179, 180] rfl (by decide +kernel)
set_option maxRecDepth 20000 in
theorem ggX11_init_X9_init : GoodIn wsX11_init wsX9_init := goodIn_r _ [66, 67, 2, 3, 68, 4, 69, 70, 71, 72, 73, 74, 75, 76, 181, 182, 183, 184, 185, 186, 187, 188, 189] rfl (by decide +kernel)
set_option maxRecDepth 20000 in
theorem ggX11_init_X6_init : GoodIn wsX11_init wsX6_init := goodIn_r _ [79, 80, 2, 3, 81, 82, 83, 84, 15, 16, 65, 66, 67, 68, 4, 69, 70, 71, 72, 73, 74, 75, 76, 190, 191, 192, 181, 182, 183, 184, 185, 186, 187, 188, 189] rfl (by decide +kernel)
set_option maxRecDepth 20000 in
theorem gX11_init_X6_init : GoodIn wsX11_init (wsX6_init) := ggX11_init_X6_init
set_option maxRecDepth 20000 in
theorem ggX11_init_X8_init : GoodIn wsX11_init wsX8_init := goodIn_r _ [87, 88, 2, 3, 4, 89, 90, 91, 92, 93, 94, 95, 193, 194, 195, 196, 197, 198, 199] rfl (by decide +kernel)
set_option maxRecDepth 20000 in
theorem gX11_init_X8_init : GoodIn wsX11_init (wsX8_init) := ggX11_init_X8_init
set_option maxRecDepth 20000 in
theorem ggX11_init_X4_init : GoodIn wsX11_init wsX4_init := goodIn_r _ [98, 99, 2, 3, 4, 100, 101, 102, 103, 104, 105, 106, 200, 201, 202, 203, 204, 205, 206] rfl (by decide +kernel)
set_option maxRecDepth 20000 in
theorem gX11_init_X4_init : GoodIn wsX11_init (wsX4_init) := ggX11_init_X4_init
set_option maxRecDepth 20000 in
theorem ggX11_init_X1_init : GoodIn wsX11_init wsX1_init := goodIn_r _ [109, 110, 2, 3, 111, 207] rfl (by decide +kernel)
set_option maxRecDepth 20000 in
theorem gX11_init_X1_init : GoodIn wsX11_init (wsX1_init) := ggX11_init_X1_init
set_option maxRecDepth 20000 in
theorem ggX11_init_X5_init : GoodIn wsX11_init wsX5_init := goodIn_r _ [114, 115, 2, 3, 4, 116, 117, 118, 119, 120, 121, 122, 123, 124, 125, 126, 127, 128, 129, 130, 208, 209, 210, 211, 212, 213, 214, 215, 216, 217, 218, 219, 220, 221] rfl (by decide +kernel)
set_option maxRecDepth 20000 in
theorem gX11_init_X5_init : GoodIn wsX11_init (wsX5_init) := ggX11_init_X5_init
set_option maxRecDepth 20000 in
theorem ggX11_init_X0_init : GoodIn wsX11_init wsX0_init := goodIn_r _ [133, 134, 2, 3, 4, 135, 136, 137, 138, 139, 222, 223, 224, 225, 226] rfl (by decide +kernel)
set_option maxRecDepth 20000 in
theorem gX11_init_X0_init : GoodIn wsX11_init (wsX0_init) := ggX11_init_X0_init
set_option maxRecDepth 20000 in
theorem ggX11_init_X10_init : GoodIn wsX11_init wsX10_init := goodIn_r _ [141, 142, 2, 3, 119, 143, 144, 145, 227, 228, 229] rfl (by decide +kernel)
set_option maxRecDepth 20000 in
theorem ggX11_init_X2_init : GoodIn wsX11_init wsX2_init := goodIn_r _ [147, 148, 2, 3, 149, 150, 10, 11, 151, 152, 15, 16, 153, 51, 52, 53, 54, 55, 4, 56, 57, 58, 59, 60, 61, 62, 63, 64, 65, 66, 67, 68, 69, 70, 71, 72, 73, 74, 75, 76, 230, 231, 232, 170, 171, 172, 173, 174, 175, 176, 177, 178, 179, 180, 181, 182, 183, 184, 185, 186, 187, 188, 189] rfl (by decide +kernel)
set_option maxRecDepth 20000 in
theorem ggX11_feed_X11_putBytes : GoodIn wsX11_feed wsX11_putBytes := goodIn_r _ [6, 1, 7, 8, 9, 10, 11, 12, 13, 14, 15, 16, 17, 18, 19, 20, 21, 22, 23] rfl (by decide +kernel)
set_option maxRecDepth 20000 in
theorem gX11_feed_X11_putBytes : GoodIn wsX11_feed (wsV RX11 109 RX11 yX11_putBytes wsX11_putBytes) := goodIn_app (goodIn_r _ [2, 3, 4, 5] rfl (by decide +kernel)) ggX11_feed_X11_putBytes
set_option maxRecDepth 20000 in
theorem ggX11_shop_X8_read : GoodIn wsX11_shop wsX8_read := goodIn_r _ [18, 19, 20, 21, 22, 23, 24, 25, 26, 27, 28, 29, 30, 31, 32, 33, 34, 35, 36, 37, 38, 39, 40, 41, 42, 43, 44, 45, 46, 47, 48, 49, 50, 17, 51, 52, 53, 54, 55, 56, 57, 58, 59, 60, 61, 62, 63, 64, 65, 66, 67, 68, 69, 70, 71, 72, 73, 74, 75, 76, 77, 78, 79, 80, 81, 82, 83, 84, 85, 86, 87, 88, 89, 90, 91, 92, 93, 94, 95, 96, 97, 98, 99, 100, 101, 102, 103, 104, 105, 106, 107, 108, 109, 110, 111, 112, 113, 114, 115, 116, 117, 118, 119, 120, 121, 122, 123, 124, 125, 126, 127, 128, 129, 130, 131, 132, 133, 134, 135, 136, 137, 138, 139, 140, 141, 142, 143, 144, 145, 146, 147, 148, 149, 150, 151, 152, 153, 154, 155, 156, 157, 158, 159, 160, 161, 162, 163, 164, 165, 166, 167, 168, 169, 170, 171, 172, 173, 174, 175, 176, 177, 178, 179, 180, 181, 182, 183, 184, 185, 186, 187, 188, 189, 190, 191, 192, 193, 194, 195, 196, 197, 198, 199, 200, 201, 202, 203, 204, 205, 206, 207, 208, 209, 210, 211, 212, 213, 214, 215, 216, 217, 218, 219, 220, 221, 222, 223, 224, 225, 226, 227, 228, 229, 230, 231, 232, 233, 234, 235, 236, 237, 238, 239, 240, 241, 242, 243, 244, 245, 246, 247, 248, 249, 250, 251, 252, 253, 254, 255, 256, 257, 258, 259, 260, 261, 262, 263, 264, 265, 266, 267, 268, 269, 270, 271, 272, 273, 319, 320, 321, 322, 323, 324, 325, 335, 336, 337, 338, 339, 340, 341, 342, 343, 344, 345, 326, 327, 328, 329, 330, 331, 332, 333, 334] rfl (by decide +kernel)
set_option maxRecDepth 20000 in
theorem gX11_shop_X8_read : GoodIn wsX11_shop (wsV RX11 113 RX8 yX8_read wsX8_read) := goodIn_app (goodIn_r _ [14, 15, 16, 17] rfl (by decide +kernel)) ggX11_shop_X8_read
set_option maxRecDepth 20000 in
theorem ggX11_shop_X9_copyFrom : GoodIn wsX11_shop wsX9_copyFrom := goodIn_r _ [277, 41, 278, 279, 42, 43, 44, 45, 46, 47, 326, 327, 328, 329, 330, 331, 332, 333, 334] rfl (by decide +kernel)
set_option maxRecDepth 20000 in
theorem gX11_shop_X9_copyFrom : GoodIn wsX11_shop (wsV RX11 124 RX9 yX9_copyFrom wsX9_copyFrom) := goodIn_app (goodIn_r _ [274, 275, 276, 39] rfl (by decide +kernel)) ggX11_shop_X9_copyFrom
set_option maxRecDepth 20000 in
theorem ggX11_shop_X11_beginAnew : GoodIn wsX11_shop wsX11_beginAnew := goodIn_r _ [284, 285, 286, 287, 288, 289, 290, 291, 292, 293, 294, 295, 296, 297, 298, 299, 300, 301, 302, 303, 304, 305, 306, 307, 308, 309, 310, 311, 312, 313, 314, 315, 316, 317, 318, 346, 347, 348, 349, 350, 351, 352, 353, 354, 355] rfl (by decide +kernel)
set_option maxRecDepth 20000 in
theorem gX11_shop_X11_beginAnew : GoodIn wsX11_shop (wsV RX11 128 RX11 yX11_beginAnew wsX11_beginAnew) := goodIn_app (goodIn_r _ [280, 281, 282, 283] rfl (by decide +kernel)) ggX11_shop_X11_beginAnew
set_option maxRecDepth 20000 in
theorem ggX11_beginAnew_X6_clear : GoodIn wsX11_beginAnew wsX6_clear := goodIn_r _ [7, 8, 35, 36, 37] rfl (by decide +kernel)
set_option maxRecDepth 20000 in
theorem gX11_beginAnew_X6_clear : GoodIn wsX11_beginAnew (wsV RX11 134 RX6 yX6_clear wsX6_clear) := goodIn_app (goodIn_r _ [3, 4, 5, 6] rfl (by decide +kernel)) ggX11_beginAnew_X6_clear
set_option maxRecDepth 20000 in
theorem ggX11_beginAnew_X4_forget : GoodIn wsX11_beginAnew wsX4_forget := goodIn_r _ [13, 14, 15, 16, 17, 18, 38, 39, 40, 41, 42, 43, 44] rfl (by decide +kernel)
set_option maxRecDepth 20000 in
theorem gX11_beginAnew_X4_forget : GoodIn wsX11_beginAnew (wsV RX11 137 RX4 yX4_forget wsX4_forget) := goodIn_app (goodIn_r _ [9, 10, 11, 12] rfl (by decide +kernel)) ggX11_beginAnew_X4_forget
set_option maxRecDepth 20000 in
theorem ggX11_kind_X11_isKind : GoodIn wsX11_kind wsX11_isKind := goodIn_r _ [10, 1, 11, 79, 80, 81, 82, 83, 84, 85, 86, 87, 88, 89, 90, 91, 92, 93, 94, 95, 96, 97, 98, 99, 100, 101, 102, 103] rfl (by decide +kernel)
set_option maxRecDepth 20000 in
theorem gX11_kind_X11_isKind : GoodIn wsX11_kind (wsV RX11 140 RX11 yX11_isKind wsX11_isKind) := goodIn_app (goodIn_r _ [6, 7, 8, 9] rfl (by decide +kernel)) ggX11_kind_X11_isKind
set_option maxRecDepth 20000 in
theorem ggX11_kind_X11_takersOf : GoodIn wsX11_kind wsX11_takersOf := goodIn_r _ [15, 16, 17, 1, 18, 4, 5, 19, 20, 21, 22, 23, 24, 25, 26, 27, 28, 29, 30, 31, 32, 33, 34, 35, 36, 37, 38, 39, 40, 41, 42, 43, 44, 45, 46, 47, 48, 49, 50, 51, 52, 53, 54, 55, 56, 57, 58, 59, 60, 61, 62, 63, 64, 65, 66, 67, 68, 69, 70, 71, 72, 73, 74, 75, 76, 77, 78, 79, 80, 81, 82, 83, 84, 85, 86, 87, 88, 89, 90, 91, 92, 93, 94, 104, 105, 106, 107, 108, 109, 110, 111, 112, 113, 114, 95, 96, 97, 98, 99, 100, 101, 102, 103, 115, 116, 117, 118, 119, 120, 121] rfl (by decide +kernel)
set_option maxRecDepth 20000 in
theorem gX11_kind_X11_takersOf : GoodIn wsX11_kind (wsV RX11 156 RX11 yX11_takersOf wsX11_takersOf) := goodIn_app (goodIn_r _ [12, 13, 14, 9] rfl (by decide +kernel)) ggX11_kind_X11_takersOf
set_option maxRecDepth 20000 in
theorem ggX11_takersOf_X4_tune : GoodIn wsX11_takersOf wsX4_tune := goodIn_r _ [11, 12, 13, 14, 15, 16, 17, 18, 19, 103, 104, 105, 106, 107, 108, 109, 94, 95, 96, 97, 98, 99, 100, 101, 102] rfl (by decide +kernel)
set_option maxRecDepth 20000 in
theorem gX11_takersOf_X4_tune : GoodIn wsX11_takersOf (wsV RX11 166 RX4 yX4_tune wsX4_tune) := goodIn_app (goodIn_r _ [7, 8, 9, 10] rfl (by decide +kernel)) ggX11_takersOf_X4_tune
set_option maxRecDepth 20000 in
theorem ggX11_takersOf_X4_choice : GoodIn wsX11_takersOf wsX4_choice := goodIn_r _ [23, 14, 19, 24, 25, 26, 27, 28, 29, 30, 31, 32, 33, 34, 35, 36, 37, 10, 38, 15, 12, 39, 40, 41, 42, 43, 44, 45, 46, 47, 17, 48, 49, 50, 51, 52, 53, 54, 55, 56, 57, 58, 59, 60, 61, 62, 63, 64, 65, 66, 103, 104, 105, 106, 107, 108, 109, 83, 84, 85, 86, 87, 88, 89, 90, 91, 92, 93] rfl (by decide +kernel)
set_option maxRecDepth 20000 in
theorem gX11_takersOf_X4_choice : GoodIn wsX11_takersOf (wsV RX11 169 RX4 yX4_choice wsX4_choice) := goodIn_app (goodIn_r _ [20, 21, 22, 10] rfl (by decide +kernel)) ggX11_takersOf_X4_choice
set_option maxRecDepth 20000 in
theorem ggX11_buyer_X11_isBuyer : GoodIn wsX11_buyer wsX11_isBuyer := goodIn_r _ [13, 2, 14, 79, 80, 81, 82, 83, 84, 85, 86, 87, 88, 89, 90, 91, 92, 93, 94, 95, 96, 97, 98, 99, 100, 101, 102, 103, 104, 105] rfl (by decide +kernel)
set_option maxRecDepth 20000 in
theorem gX11_buyer_X11_isBuyer : GoodIn wsX11_buyer (wsV RX11 173 RX11 yX11_isBuyer wsX11_isBuyer) := goodIn_app (goodIn_r _ [9, 10, 11, 12] rfl (by decide +kernel)) ggX11_buyer_X11_isBuyer
set_option maxRecDepth 20000 in
theorem ggX11_buyer_X4_tune : GoodIn wsX11_buyer wsX4_tune := goodIn_r _ [19, 20, 21, 22, 23, 24, 25, 26, 27, 115, 116, 117, 118, 119, 120, 121, 106, 107, 108, 109, 110, 111, 112, 113, 114] rfl (by decide +kernel)
set_option maxRecDepth 20000 in
theorem gX11_buyer_X4_tune : GoodIn wsX11_buyer (wsV RX11 166 RX4 yX4_tune wsX4_tune) := goodIn_app (goodIn_r _ [15, 16, 17, 18] rfl (by decide +kernel)) ggX11_buyer_X4_tune
set_option maxRecDepth 20000 in
theorem ggX11_buyer_X4_allowed : GoodIn wsX11_buyer wsX4_allowed := goodIn_r _ [31, 22, 32, 33, 34, 18, 35, 23, 20, 36, 37, 38, 39, 40, 41, 42, 43, 44, 25, 45, 46, 47, 48, 49, 50, 51, 52, 53, 54, 55, 56, 57, 58, 59, 60, 61, 62, 63, 64, 115, 116, 117, 118, 119, 120, 121, 95, 96, 97, 98, 99, 100, 101, 102, 103, 104, 105] rfl (by decide +kernel)
set_option maxRecDepth 20000 in
theorem gX11_buyer_X4_allowed : GoodIn wsX11_buyer (wsV RX11 185 RX4 yX4_allowed wsX4_allowed) := goodIn_app (goodIn_r _ [28, 29, 30, 18] rfl (by decide +kernel)) ggX11_buyer_X4_allowed
set_option maxRecDepth 20000 in
theorem ggX11_buyer_X4_choice : GoodIn wsX11_buyer wsX4_choice := goodIn_r _ [68, 22, 27, 69, 70, 71, 72, 45, 46, 47, 48, 49, 50, 51, 32, 33, 34, 18, 35, 23, 20, 36, 37, 38, 39, 40, 41, 42, 43, 44, 25, 52, 53, 54, 55, 56, 57, 58, 59, 60, 61, 62, 63, 64, 73, 74, 75, 76, 77, 78, 115, 116, 117, 118, 119, 120, 121, 95, 96, 97, 98, 99, 100, 101, 102, 103, 104, 105] rfl (by decide +kernel)
set_option maxRecDepth 20000 in
theorem gX11_buyer_X4_choice : GoodIn wsX11_buyer (wsV RX11 169 RX4 yX4_choice wsX4_choice) := goodIn_app (goodIn_r _ [65, 66, 67, 18] rfl (by decide +kernel)) ggX11_buyer_X4_choice
set_option maxRecDepth 20000 in
theorem ggX11_wants_X11_isBuyer : GoodIn wsX11_wants wsX11_isBuyer := goodIn_r _ [10, 3, 11, 63, 64, 65, 66, 67, 68, 69, 70, 71, 72, 73, 74, 75, 76, 77, 78, 88, 89, 90, 91, 92, 93, 94, 95, 96, 97, 98] rfl (by decide +kernel)
set_option maxRecDepth 20000 in
theorem gX11_wants_X11_isBuyer : GoodIn wsX11_wants (wsV RX11 173 RX11 yX11_isBuyer wsX11_isBuyer) := goodIn_app (goodIn_r _ [6, 7, 8, 9] rfl (by decide +kernel)) ggX11_wants_X11_isBuyer
set_option maxRecDepth 20000 in
theorem ggX11_wants_X11_isKind : GoodIn wsX11_wants wsX11_isKind := goodIn_r _ [15, 4, 16, 63, 64, 65, 66, 67, 68, 69, 70, 71, 72, 73, 74, 75, 76, 77, 78, 79, 80, 81, 82, 83, 84, 85, 86, 87] rfl (by decide +kernel)
set_option maxRecDepth 20000 in
theorem gX11_wants_X11_isKind : GoodIn wsX11_wants (wsV RX11 140 RX11 yX11_isKind wsX11_isKind) := goodIn_app (goodIn_r _ [12, 13, 14, 9] rfl (by decide +kernel)) ggX11_wants_X11_isKind
set_option maxRecDepth 20000 in
theorem ggX11_wants_X4_tune : GoodIn wsX11_wants wsX4_tune := goodIn_r _ [21, 22, 23, 24, 25, 26, 27, 28, 29, 99, 100, 101, 102, 103, 104, 105, 79, 80, 81, 82, 83, 84, 85, 86, 87] rfl (by decide +kernel)
set_option maxRecDepth 20000 in
theorem gX11_wants_X4_tune : GoodIn wsX11_wants (wsV RX11 166 RX4 yX4_tune wsX4_tune) := goodIn_app (goodIn_r _ [17, 18, 19, 20] rfl (by decide +kernel)) ggX11_wants_X4_tune
set_option maxRecDepth 20000 in
theorem ggX11_wants_X4_wish : GoodIn wsX11_wants wsX4_wish := goodIn_r _ [33, 22, 34, 35, 36, 25, 37, 38, 39, 20, 40, 41, 42, 27, 43, 44, 45, 46, 47, 48, 49, 50, 51, 52, 53, 54, 55, 56, 57, 58, 59, 60, 61, 62, 99, 100, 101, 102, 103, 104, 105, 88, 89, 90, 91, 92, 93, 94, 95, 96, 97, 98] rfl (by decide +kernel)
set_option maxRecDepth 20000 in
theorem gX11_wants_X4_wish : GoodIn wsX11_wants (wsV RX11 189 RX4 yX4_wish wsX4_wish) := goodIn_app (goodIn_r _ [30, 31, 32, 20] rfl (by decide +kernel)) ggX11_wants_X4_wish
set_option maxRecDepth 20000 in
theorem ggX11_seed_X6_keep : GoodIn wsX11_seed wsX6_keep := goodIn_r _ [8, 9, 10, 11, 12, 13, 14, 15, 16, 17, 18, 19, 20, 21, 22, 23, 24, 25, 26, 27, 28, 29, 55, 56, 57, 46, 47, 48, 49, 50, 51, 52, 53, 54] rfl (by decide +kernel)
set_option maxRecDepth 20000 in
theorem gX11_seed_X6_keep : GoodIn wsX11_seed (wsV RX11 192 RX6 yX6_keep wsX6_keep) := goodIn_app (goodIn_r _ [4, 5, 6, 7] rfl (by decide +kernel)) ggX11_seed_X6_keep
set_option maxRecDepth 20000 in
theorem ggX11_visit_X9_copyFrom : GoodIn wsX11_visit wsX9_copyFrom := goodIn_r _ [9, 10, 11, 12, 13, 14, 15, 16, 17, 18, 132, 133, 134, 135, 136, 137, 138, 139, 140] rfl (by decide +kernel)
set_option maxRecDepth 20000 in
theorem gX11_visit_X9_copyFrom : GoodIn wsX11_visit (wsV RX11 124 RX9 yX9_copyFrom wsX9_copyFrom) := goodIn_app (goodIn_r _ [5, 6, 7, 8] rfl (by decide +kernel)) ggX11_visit_X9_copyFrom
set_option maxRecDepth 20000 in
theorem ggX11_visit_X1_visitBy : GoodIn wsX11_visit wsX1_visitBy := goodIn_r _ [23, 24, 25, 26, 27, 28, 29, 30, 31, 32, 8, 33, 14, 13, 34, 35, 36, 37, 10, 38, 39, 40, 41, 42, 43, 44, 45, 46, 47, 48, 49, 50, 51, 52, 53, 54, 55, 56, 57, 58, 59, 60, 61, 62, 63, 64, 65, 66, 67, 68, 69, 70, 71, 72, 73, 74, 75, 76, 77, 78, 79, 80, 81, 82, 83, 84, 85, 86, 87, 88, 89, 90, 91, 92, 93, 94, 95, 96, 97, 141, 142, 143, 144, 145, 146, 147, 148, 149, 150, 151, 152, 132, 133, 134, 135, 136, 137, 138, 139, 140, 153, 154, 155, 156, 157, 158, 159] rfl (by decide +kernel)
set_option maxRecDepth 20000 in
theorem gX11_visit_X1_visitBy : GoodIn wsX11_visit (wsV RX11 198 RX1 yX1_visitBy wsX1_visitBy) := goodIn_app (goodIn_r _ [19, 20, 21, 22] rfl (by decide +kernel)) ggX11_visit_X1_visitBy
set_option maxRecDepth 20000 in
theorem ggX11_visit_X11_settle : GoodIn wsX11_visit wsX11_settle := goodIn_r _ [102, 103, 1, 104, 105, 106, 107, 108, 109, 110, 111, 112, 113, 57, 114, 115, 6, 7, 8, 9, 10, 11, 12, 13, 14, 15, 16, 17, 18, 116, 117, 118, 119, 120, 121, 122, 123, 124, 125, 126, 127, 128, 129, 130, 131, 160, 161, 162, 132, 133, 134, 135, 136, 137, 138, 139, 140] rfl (by decide +kernel)
set_option maxRecDepth 20000 in
theorem gX11_visit_X11_settle : GoodIn wsX11_visit (wsV RX11 202 RX11 yX11_settle wsX11_settle) := goodIn_app (goodIn_r _ [98, 99, 100, 101] rfl (by decide +kernel)) ggX11_visit_X11_settle
set_option maxRecDepth 20000 in
theorem ggX11_gift_X9_copyFrom : GoodIn wsX11_gift wsX9_copyFrom := goodIn_r _ [8, 9, 10, 11, 12, 13, 14, 15, 16, 17, 71, 72, 73, 74, 75, 76, 77, 78, 79] rfl (by decide +kernel)
set_option maxRecDepth 20000 in
theorem gX11_gift_X9_copyFrom : GoodIn wsX11_gift (wsV RX11 124 RX9 yX9_copyFrom wsX9_copyFrom) := goodIn_app (goodIn_r _ [4, 5, 6, 7] rfl (by decide +kernel)) ggX11_gift_X9_copyFrom
set_option maxRecDepth 20000 in
theorem ggX11_gift_X1_giveAway : GoodIn wsX11_gift wsX1_giveAway := goodIn_r _ [22, 23, 24, 25, 26, 7, 27, 9, 28, 29, 30, 31, 13, 12, 32, 33, 34, 35, 71, 72, 73, 74, 75, 76, 77, 78, 79] rfl (by decide +kernel)
set_option maxRecDepth 20000 in
theorem gX11_gift_X1_giveAway : GoodIn wsX11_gift (wsV RX11 205 RX1 yX1_giveAway wsX1_giveAway) := goodIn_app (goodIn_r _ [18, 19, 20, 21] rfl (by decide +kernel)) ggX11_gift_X1_giveAway
set_option maxRecDepth 20000 in
theorem ggX11_gift_X11_settle : GoodIn wsX11_gift wsX11_settle := goodIn_r _ [40, 41, 1, 42, 43, 44, 45, 46, 47, 48, 49, 50, 51, 52, 53, 54, 5, 6, 7, 8, 9, 10, 11, 12, 13, 14, 15, 16, 17, 55, 56, 57, 58, 59, 60, 61, 62, 63, 64, 65, 66, 67, 68, 69, 70, 80, 81, 82, 71, 72, 73, 74, 75, 76, 77, 78, 79] rfl (by decide +kernel)
set_option maxRecDepth 20000 in
theorem gX11_gift_X11_settle : GoodIn wsX11_gift (wsV RX11 202 RX11 yX11_settle wsX11_settle) := goodIn_app (goodIn_r _ [36, 37, 38, 39] rfl (by decide +kernel)) ggX11_gift_X11_settle
set_option maxRecDepth 20000 in
theorem ggX11_hide_X9_copyFrom : GoodIn wsX11_hide wsX9_copyFrom := goodIn_r _ [8, 9, 10, 11, 12, 13, 14, 15, 16, 17, 71, 72, 73, 74, 75, 76, 77, 78, 79] rfl (by decide +kernel)
set_option maxRecDepth 20000 in
theorem gX11_hide_X9_copyFrom : GoodIn wsX11_hide (wsV RX11 124 RX9 yX9_copyFrom wsX9_copyFrom) := goodIn_app (goodIn_r _ [4, 5, 6, 7] rfl (by decide +kernel)) ggX11_hide_X9_copyFrom
set_option maxRecDepth 20000 in
theorem ggX11_hide_X1_turn : GoodIn wsX11_hide wsX1_turn := goodIn_r _ [22, 23, 24, 25, 26, 7, 27, 9, 28, 29, 30, 31, 13, 12, 32, 33, 34, 35, 71, 72, 73, 74, 75, 76, 77, 78, 79] rfl (by decide +kernel)
set_option maxRecDepth 20000 in
theorem gX11_hide_X1_turn : GoodIn wsX11_hide (wsV RX11 209 RX1 yX1_turn wsX1_turn) := goodIn_app (goodIn_r _ [18, 19, 20, 21] rfl (by decide +kernel)) ggX11_hide_X1_turn
set_option maxRecDepth 20000 in
theorem ggX11_hide_X11_settle : GoodIn wsX11_hide wsX11_settle := goodIn_r _ [40, 41, 1, 42, 43, 44, 45, 46, 47, 48, 49, 50, 51, 52, 53, 54, 5, 6, 7, 8, 9, 10, 11, 12, 13, 14, 15, 16, 17, 55, 56, 57, 58, 59, 60, 61, 62, 63, 64, 65, 66, 67, 68, 69, 70, 80, 81, 82, 71, 72, 73, 74, 75, 76, 77, 78, 79] rfl (by decide +kernel)
set_option maxRecDepth 20000 in
theorem gX11_hide_X11_settle : GoodIn wsX11_hide (wsV RX11 202 RX11 yX11_settle wsX11_settle) := goodIn_app (goodIn_r _ [36, 37, 38, 39] rfl (by decide +kernel)) ggX11_hide_X11_settle
set_option maxRecDepth 20000 in
theorem ggX11_add_X9_copyFrom : GoodIn wsX11_add wsX9_copyFrom := goodIn_r _ [8, 9, 10, 11, 12, 13, 14, 15, 16, 17, 69, 70, 71, 72, 73, 74, 75, 76, 77] rfl (by decide +kernel)
set_option maxRecDepth 20000 in
theorem gX11_add_X9_copyFrom : GoodIn wsX11_add (wsV RX11 124 RX9 yX9_copyFrom wsX9_copyFrom) := goodIn_app (goodIn_r _ [4, 5, 6, 7] rfl (by decide +kernel)) ggX11_add_X9_copyFrom
set_option maxRecDepth 20000 in
theorem ggX11_add_X1_bringIn : GoodIn wsX11_add wsX1_bringIn := goodIn_r _ [22, 23, 24, 25, 26, 27, 28, 7, 29, 13, 12, 30, 31, 32, 33, 9, 69, 70, 71, 72, 73, 74, 75, 76, 77] rfl (by decide +kernel)
set_option maxRecDepth 20000 in
theorem gX11_add_X1_bringIn : GoodIn wsX11_add (wsV RX11 212 RX1 yX1_bringIn wsX1_bringIn) := goodIn_app (goodIn_r _ [18, 19, 20, 21] rfl (by decide +kernel)) ggX11_add_X1_bringIn
set_option maxRecDepth 20000 in
theorem ggX11_add_X11_settle : GoodIn wsX11_add wsX11_settle := goodIn_r _ [38, 39, 1, 40, 41, 42, 43, 44, 45, 46, 47, 48, 49, 50, 51, 52, 5, 6, 7, 8, 9, 10, 11, 12, 13, 14, 15, 16, 17, 53, 54, 55, 56, 57, 58, 59, 60, 61, 62, 63, 64, 65, 66, 67, 68, 78, 79, 80, 69, 70, 71, 72, 73, 74, 75, 76, 77] rfl (by decide +kernel)
set_option maxRecDepth 20000 in
theorem gX11_add_X11_settle : GoodIn wsX11_add (wsV RX11 202 RX11 yX11_settle wsX11_settle) := goodIn_app (goodIn_r _ [34, 35, 36, 37] rfl (by decide +kernel)) ggX11_add_X11_settle
set_option maxRecDepth 20000 in
theorem ggX11_price_X9_copyFrom : GoodIn wsX11_price wsX9_copyFrom := goodIn_r _ [8, 9, 10, 11, 12, 13, 14, 15, 16, 17, 71, 72, 73, 74, 75, 76, 77, 78, 79] rfl (by decide +kernel)
set_option maxRecDepth 20000 in
theorem gX11_price_X9_copyFrom : GoodIn wsX11_price (wsV RX11 124 RX9 yX9_copyFrom wsX9_copyFrom) := goodIn_app (goodIn_r _ [4, 5, 6, 7] rfl (by decide +kernel)) ggX11_price_X9_copyFrom
set_option maxRecDepth 20000 in
theorem ggX11_price_X1_reprice : GoodIn wsX11_price wsX1_reprice := goodIn_r _ [22, 23, 24, 25, 26, 7, 27, 9, 28, 29, 30, 31, 13, 12, 32, 33, 34, 35, 71, 72, 73, 74, 75, 76, 77, 78, 79] rfl (by decide +kernel)
set_option maxRecDepth 20000 in
theorem gX11_price_X1_reprice : GoodIn wsX11_price (wsV RX11 216 RX1 yX1_reprice wsX1_reprice) := goodIn_app (goodIn_r _ [18, 19, 20, 21] rfl (by decide +kernel)) ggX11_price_X1_reprice
set_option maxRecDepth 20000 in
theorem ggX11_price_X11_settle : GoodIn wsX11_price wsX11_settle := goodIn_r _ [40, 41, 1, 42, 43, 44, 45, 46, 47, 48, 49, 50, 51, 52, 53, 54, 5, 6, 7, 8, 9, 10, 11, 12, 13, 14, 15, 16, 17, 55, 56, 57, 58, 59, 60, 61, 62, 63, 64, 65, 66, 67, 68, 69, 70, 80, 81, 82, 71, 72, 73, 74, 75, 76, 77, 78, 79] rfl (by decide +kernel)
set_option maxRecDepth 20000 in
theorem gX11_price_X11_settle : GoodIn wsX11_price (wsV RX11 202 RX11 yX11_settle wsX11_settle) := goodIn_app (goodIn_r _ [36, 37, 38, 39] rfl (by decide +kernel)) ggX11_price_X11_settle
set_option maxRecDepth 20000 in
theorem ggX11_settle_X6_keep : GoodIn wsX11_settle wsX6_keep := goodIn_r _ [7, 8, 9, 10, 11, 12, 13, 14, 15, 16, 17, 18, 19, 20, 21, 22, 23, 24, 25, 26, 27, 28, 45, 46, 47, 48, 49, 50, 51, 52, 53, 54, 55, 56] rfl (by decide +kernel)
set_option maxRecDepth 20000 in
theorem gX11_settle_X6_keep : GoodIn wsX11_settle (wsV RX11 192 RX6 yX6_keep wsX6_keep) := goodIn_app (goodIn_r _ [3, 4, 5, 6] rfl (by decide +kernel)) ggX11_settle_X6_keep
set_option maxRecDepth 20000 in
theorem ggX11_days_X9_copyFrom : GoodIn wsX11_days wsX9_copyFrom := goodIn_r _ [11, 12, 13, 14, 15, 16, 17, 18, 19, 20, 172, 173, 174, 175, 176, 177, 178, 179, 180] rfl (by decide +kernel)
set_option maxRecDepth 20000 in
theorem gX11_days_X9_copyFrom : GoodIn wsX11_days (wsV RX11 124 RX9 yX9_copyFrom wsX9_copyFrom) := goodIn_app (goodIn_r _ [7, 8, 9, 10] rfl (by decide +kernel)) ggX11_days_X9_copyFrom
set_option maxRecDepth 20000 in
theorem ggX11_days_X1_carryOut : GoodIn wsX11_days wsX1_carryOut := goodIn_r _ [25, 26, 27, 28, 29, 30, 24, 31, 32, 33, 34, 35, 36, 37, 38, 39, 40, 41, 42, 10, 43, 44, 20, 45, 46, 47, 48, 49, 50, 51, 52, 53, 54, 55, 56, 57, 58, 59, 60, 61, 62, 16, 15, 63, 64, 65, 66, 12, 67, 68, 69, 70, 71, 72, 73, 74, 75, 76, 77, 78, 79, 80, 81, 82, 83, 84, 85, 86, 87, 88, 89, 90, 91, 92, 93, 94, 95, 96, 97, 98, 99, 100, 101, 102, 103, 104, 105, 106, 107, 108, 109, 110, 111, 112, 113, 114, 115, 116, 117, 118, 119, 120, 121, 122, 123, 124, 125, 126, 127, 128, 129, 130, 131, 132, 133, 134, 135, 136, 137, 138, 139, 140, 141, 142, 143, 172, 173, 174, 175, 176, 177, 178, 179, 180, 181, 182, 183, 184, 185, 186, 187, 188, 189, 190, 191, 192, 193, 194, 195, 196, 197, 198, 199] rfl (by decide +kernel)
set_option maxRecDepth 20000 in
theorem gX11_days_X1_carryOut : GoodIn wsX11_days (wsV RX11 221 RX1 yX1_carryOut wsX1_carryOut) := goodIn_app (goodIn_r _ [21, 22, 23, 24] rfl (by decide +kernel)) ggX11_days_X1_carryOut
set_option maxRecDepth 20000 in
theorem ggX11_days_X6_keep : GoodIn wsX11_days wsX6_keep := goodIn_r _ [148, 149, 150, 151, 152, 153, 86, 154, 155, 8, 9, 10, 11, 12, 13, 14, 15, 16, 17, 18, 19, 20, 200, 201, 202, 172, 173, 174, 175, 176, 177, 178, 179, 180] rfl (by decide +kernel)
set_option maxRecDepth 20000 in
theorem gX11_days_X6_keep : GoodIn wsX11_days (wsV RX11 192 RX6 yX6_keep wsX6_keep) := goodIn_app (goodIn_r _ [144, 145, 146, 147] rfl (by decide +kernel)) ggX11_days_X6_keep
set_option maxRecDepth 20000 in
theorem ggX11_undo_X6_bringBack : GoodIn wsX11_undo wsX6_bringBack := goodIn_r _ [8, 9, 10, 11, 12, 13, 14, 15, 16, 17, 18, 19, 20, 21, 22, 23, 24, 25, 26, 27, 28, 29, 46, 47, 48, 49, 50, 51, 52, 53, 54, 55, 56, 57] rfl (by decide +kernel)
set_option maxRecDepth 20000 in
theorem gX11_undo_X6_bringBack : GoodIn wsX11_undo (wsV RX11 228 RX6 yX6_bringBack wsX6_bringBack) := goodIn_app (goodIn_r _ [4, 5, 6, 7] rfl (by decide +kernel)) ggX11_undo_X6_bringBack
set_option maxRecDepth 20000 in
theorem ggX11_judge_X11_isTray : GoodIn wsX11_judge wsX11_isTray := goodIn_r _ [15] rfl (by decide +kernel)
set_option maxRecDepth 20000 in
theorem gX11_judge_X11_isTray : GoodIn wsX11_judge (va_wsS RX11 232 yX11_isTray wsX11_isTray) := goodIn_app (goodIn_r _ [12, 13, 14] rfl (by decide +kernel)) ggX11_judge_X11_isTray
set_option maxRecDepth 20000 in
theorem ggX11_judge_X10_isMissing : GoodIn wsX11_judge wsX10_isMissing := goodIn_r _ [20, 21, 197, 198, 199] rfl (by decide +kernel)
set_option maxRecDepth 20000 in
theorem gX11_judge_X10_isMissing : GoodIn wsX11_judge (wsV RX11 235 RX10 yX10_isMissing wsX10_isMissing) := goodIn_app (goodIn_r _ [16, 17, 18, 19] rfl (by decide +kernel)) ggX11_judge_X10_isMissing
set_option maxRecDepth 20000 in
theorem ggX11_judge_X9_copyFrom : GoodIn wsX11_judge wsX9_copyFrom := goodIn_r _ [26, 27, 28, 29, 30, 31, 32, 33, 34, 35, 188, 189, 190, 191, 192, 193, 194, 195, 196] rfl (by decide +kernel)
set_option maxRecDepth 20000 in
theorem gX11_judge_X9_copyFrom : GoodIn wsX11_judge (wsV RX11 124 RX9 yX9_copyFrom wsX9_copyFrom) := goodIn_app (goodIn_r _ [22, 23, 24, 25] rfl (by decide +kernel)) ggX11_judge_X9_copyFrom
set_option maxRecDepth 20000 in
theorem ggX11_judge_X10_size : GoodIn wsX11_judge wsX10_size := goodIn_r _ [39, 21, 40, 41, 8, 42, 197, 198, 199] rfl (by decide +kernel)
set_option maxRecDepth 20000 in
theorem gX11_judge_X10_size : GoodIn wsX11_judge (wsV RX11 239 RX10 yX10_size wsX10_size) := goodIn_app (goodIn_r _ [36, 37, 38, 19] rfl (by decide +kernel)) ggX11_judge_X10_size
set_option maxRecDepth 20000 in
theorem ggX11_judge_X10_numberAt : GoodIn wsX11_judge wsX10_numberAt := goodIn_r _ [46, 47, 48, 49, 50, 19, 51, 21, 197, 198, 199] rfl (by decide +kernel)
set_option maxRecDepth 20000 in
theorem gX11_judge_X10_numberAt : GoodIn wsX11_judge (wsV RX11 242 RX10 yX10_numberAt wsX10_numberAt) := goodIn_app (goodIn_r _ [43, 44, 45, 19] rfl (by decide +kernel)) ggX11_judge_X10_numberAt
set_option maxRecDepth 20000 in
theorem ggX11_judge_X1_carryOut : GoodIn wsX11_judge wsX1_carryOut := goodIn_r _ [56, 57, 58, 59, 60, 61, 55, 62, 63, 64, 65, 66, 67, 68, 69, 70, 71, 72, 73, 25, 74, 75, 35, 76, 77, 78, 79, 80, 81, 82, 83, 84, 85, 86, 87, 88, 89, 90, 91, 92, 93, 31, 30, 94, 95, 96, 97, 27, 98, 99, 100, 101, 102, 103, 104, 105, 106, 107, 108, 109, 110, 111, 112, 113, 114, 115, 41, 8, 42, 116, 117, 118, 119, 120, 121, 122, 123, 124, 125, 126, 127, 128, 129, 130, 131, 132, 133, 134, 135, 136, 137, 138, 139, 140, 141, 142, 143, 144, 145, 146, 147, 148, 149, 150, 151, 152, 153, 154, 155, 156, 157, 158, 159, 160, 161, 162, 163, 164, 165, 166, 167, 168, 169, 170, 171, 188, 189, 190, 191, 192, 193, 194, 195, 196, 200, 201, 202, 203, 204, 205, 206, 207, 208, 209, 210, 211, 212, 213, 214, 215, 216, 217, 218] rfl (by decide +kernel)
set_option maxRecDepth 20000 in
theorem gX11_judge_X1_carryOut : GoodIn wsX11_judge (wsV RX11 221 RX1 yX1_carryOut wsX1_carryOut) := goodIn_app (goodIn_r _ [52, 53, 54, 55] rfl (by decide +kernel)) ggX11_judge_X1_carryOut
set_option maxRecDepth 20000 in
theorem ggX11_perform_X11_trayRefusal : GoodIn wsX11_perform wsX11_trayRefusal := goodIn_r _ [11, 1, 12, 13, 10, 14, 15, 16, 17, 18, 19, 20, 184, 185, 186, 187, 188, 189, 190, 191, 192, 193, 194, 195, 196, 197, 198, 199, 200, 201, 202] rfl (by decide +kernel)
set_option maxRecDepth 20000 in
theorem gX11_perform_X11_trayRefusal : GoodIn wsX11_perform (wsV RX11 255 RX11 yX11_trayRefusal wsX11_trayRefusal) := goodIn_app (goodIn_r _ [7, 8, 9, 10] rfl (by decide +kernel)) ggX11_perform_X11_trayRefusal
set_option maxRecDepth 20000 in
theorem ggX11_perform_X9_copyFrom : GoodIn wsX11_perform wsX9_copyFrom := goodIn_r _ [25, 26, 27, 28, 29, 30, 31, 32, 33, 34, 203, 204, 205, 206, 207, 208, 209, 210, 211] rfl (by decide +kernel)
set_option maxRecDepth 20000 in
theorem gX11_perform_X9_copyFrom : GoodIn wsX11_perform (wsV RX11 124 RX9 yX9_copyFrom wsX9_copyFrom) := goodIn_app (goodIn_r _ [21, 22, 23, 24] rfl (by decide +kernel)) ggX11_perform_X9_copyFrom
set_option maxRecDepth 20000 in
theorem ggX11_perform_X10_size : GoodIn wsX11_perform wsX10_size := goodIn_r _ [38, 20, 39, 40, 41, 42, 200, 201, 202] rfl (by decide +kernel)
set_option maxRecDepth 20000 in
theorem gX11_perform_X10_size : GoodIn wsX11_perform (wsV RX11 239 RX10 yX10_size wsX10_size) := goodIn_app (goodIn_r _ [35, 36, 37, 18] rfl (by decide +kernel)) ggX11_perform_X10_size
set_option maxRecDepth 20000 in
theorem ggX11_perform_X10_numberAt : GoodIn wsX11_perform wsX10_numberAt := goodIn_r _ [46, 47, 48, 49, 50, 18, 51, 20, 200, 201, 202] rfl (by decide +kernel)
set_option maxRecDepth 20000 in
theorem gX11_perform_X10_numberAt : GoodIn wsX11_perform (wsV RX11 242 RX10 yX10_numberAt wsX10_numberAt) := goodIn_app (goodIn_r _ [43, 44, 45, 18] rfl (by decide +kernel)) ggX11_perform_X10_numberAt
set_option maxRecDepth 20000 in
theorem ggX11_perform_X1_carryOut : GoodIn wsX11_perform wsX1_carryOut := goodIn_r _ [56, 57, 58, 59, 60, 61, 55, 62, 63, 64, 65, 66, 67, 68, 69, 70, 71, 72, 73, 24, 74, 75, 34, 76, 77, 78, 79, 80, 81, 82, 83, 84, 85, 86, 87, 88, 89, 90, 91, 92, 93, 30, 29, 94, 95, 96, 97, 26, 98, 99, 100, 101, 102, 103, 104, 105, 106, 107, 108, 109, 110, 111, 112, 113, 114, 115, 40, 41, 42, 116, 117, 118, 119, 120, 121, 122, 123, 124, 125, 126, 127, 128, 129, 130, 131, 132, 133, 134, 135, 136, 137, 138, 139, 140, 141, 142, 143, 144, 145, 146, 147, 148, 149, 150, 151, 152, 153, 154, 155, 156, 157, 158, 159, 160, 161, 162, 163, 164, 165, 166, 167, 168, 169, 170, 171, 203, 204, 205, 206, 207, 208, 209, 210, 211, 212, 213, 214, 215, 216, 217, 218, 219, 220, 221, 222, 223, 224, 225, 226, 227, 228, 229, 230] rfl (by decide +kernel)
set_option maxRecDepth 20000 in
theorem gX11_perform_X1_carryOut : GoodIn wsX11_perform (wsV RX11 221 RX1 yX1_carryOut wsX1_carryOut) := goodIn_app (goodIn_r _ [52, 53, 54, 55] rfl (by decide +kernel)) ggX11_perform_X1_carryOut
set_option maxRecDepth 20000 in
theorem ggX11_perform_X6_keep : GoodIn wsX11_perform wsX6_keep := goodIn_r _ [176, 177, 178, 179, 180, 181, 41, 182, 183, 22, 23, 24, 25, 26, 27, 28, 29, 30, 31, 32, 33, 34, 231, 232, 233, 203, 204, 205, 206, 207, 208, 209, 210, 211] rfl (by decide +kernel)
set_option maxRecDepth 20000 in
theorem gX11_perform_X6_keep : GoodIn wsX11_perform (wsV RX11 192 RX6 yX6_keep wsX6_keep) := goodIn_app (goodIn_r _ [172, 173, 174, 175] rfl (by decide +kernel)) ggX11_perform_X6_keep
set_option maxRecDepth 20000 in
theorem ggX11_season_X9_copyFrom : GoodIn wsX11_season wsX9_copyFrom := goodIn_r _ [11, 12, 13, 14, 15, 16, 17, 18, 19, 20, 176, 177, 178, 179, 180, 181, 182, 183, 184] rfl (by decide +kernel)
set_option maxRecDepth 20000 in
theorem gX11_season_X9_copyFrom : GoodIn wsX11_season (wsV RX11 124 RX9 yX9_copyFrom wsX9_copyFrom) := goodIn_app (goodIn_r _ [7, 8, 9, 10] rfl (by decide +kernel)) ggX11_season_X9_copyFrom
set_option maxRecDepth 20000 in
theorem ggX11_season_X1_drawDeed : GoodIn wsX11_season wsX1_drawDeed := goodIn_r _ [25, 26, 27, 28, 10, 29, 30, 20, 176, 177, 178, 179, 180, 181, 182, 183, 184] rfl (by decide +kernel)
set_option maxRecDepth 20000 in
theorem gX11_season_X1_drawDeed : GoodIn wsX11_season (wsV RX11 258 RX1 yX1_drawDeed wsX1_drawDeed) := goodIn_app (goodIn_r _ [21, 22, 23, 24] rfl (by decide +kernel)) ggX11_season_X1_drawDeed
set_option maxRecDepth 20000 in
theorem ggX11_season_X1_carryOut : GoodIn wsX11_season wsX1_carryOut := goodIn_r _ [34, 35, 36, 37, 38, 39, 24, 40, 41, 42, 43, 44, 45, 46, 47, 48, 26, 27, 28, 10, 29, 30, 20, 49, 50, 51, 52, 53, 54, 55, 56, 57, 58, 59, 60, 61, 62, 63, 64, 65, 66, 16, 15, 67, 68, 69, 70, 12, 71, 72, 73, 74, 75, 76, 77, 78, 79, 80, 81, 82, 83, 84, 85, 86, 87, 88, 89, 90, 91, 92, 93, 94, 95, 96, 97, 98, 99, 100, 101, 102, 103, 104, 105, 106, 107, 108, 109, 110, 111, 112, 113, 114, 115, 116, 117, 118, 119, 120, 121, 122, 123, 124, 125, 126, 127, 128, 129, 130, 131, 132, 133, 134, 135, 136, 137, 138, 139, 140, 141, 142, 143, 144, 145, 146, 147, 176, 177, 178, 179, 180, 181, 182, 183, 184, 185, 186, 187, 188, 189, 190, 191, 192, 193, 194, 195, 196, 197, 198, 199, 200, 201, 202, 203] rfl (by decide +kernel)
set_option maxRecDepth 20000 in
theorem gX11_season_X1_carryOut : GoodIn wsX11_season (wsV RX11 221 RX1 yX1_carryOut wsX1_carryOut) := goodIn_app (goodIn_r _ [31, 32, 33, 24] rfl (by decide +kernel)) ggX11_season_X1_carryOut
set_option maxRecDepth 20000 in
theorem ggX11_season_X6_keep : GoodIn wsX11_season wsX6_keep := goodIn_r _ [152, 153, 154, 155, 156, 157, 90, 158, 159, 8, 9, 10, 11, 12, 13, 14, 15, 16, 17, 18, 19, 20, 204, 205, 206, 176, 177, 178, 179, 180, 181, 182, 183, 184] rfl (by decide +kernel)
set_option maxRecDepth 20000 in
theorem gX11_season_X6_keep : GoodIn wsX11_season (wsV RX11 192 RX6 yX6_keep wsX6_keep) := goodIn_app (goodIn_r _ [148, 149, 150, 151] rfl (by decide +kernel)) ggX11_season_X6_keep
set_option maxRecDepth 20000 in
theorem ggX11_ending_X5_look : GoodIn wsX11_ending wsX5_look := goodIn_r _ [9, 10, 11, 12, 13, 14, 15, 8, 16, 17, 18, 19, 20, 21, 22, 23, 24, 25, 26, 27, 28, 29, 30, 31, 32, 33, 34, 35, 36, 37, 38, 39, 40, 41, 42, 43, 44, 45, 46, 47, 48, 49, 50, 51, 52, 53, 54, 55, 56, 57, 58, 59, 60, 61, 62, 63, 64, 65, 66, 67, 68, 69, 70, 71, 72, 73, 74, 75, 76, 77, 78, 79, 80, 81, 82, 83, 84, 85, 86, 87, 88, 89, 90, 91, 92, 93, 94, 95, 96, 97, 144, 145, 146, 147, 148, 149, 150, 151, 152, 153, 154, 155, 156, 157, 135, 136, 137, 138, 139, 140, 141, 142, 143, 158, 159, 160, 161, 162, 163, 164, 165, 166, 167, 168, 169, 170, 171, 172, 173, 174, 175] rfl (by decide +kernel)
set_option maxRecDepth 20000 in
theorem gX11_ending_X5_look : GoodIn wsX11_ending (wsV RX11 262 RX5 yX5_look wsX5_look) := goodIn_app (goodIn_r _ [5, 6, 7, 8] rfl (by decide +kernel)) ggX11_ending_X5_look
set_option maxRecDepth 20000 in
theorem ggX11_ending_X5_shortest : GoodIn wsX11_ending wsX5_shortest := goodIn_r _ [101, 17, 49, 102, 103, 104, 8, 105, 12, 11, 10, 106, 107, 108, 109, 110, 19, 111, 112, 113, 114, 115, 116, 117, 118, 50, 144, 145, 146, 147, 148, 149, 150, 151, 152, 153, 154, 155, 156, 157, 165, 166, 167, 168, 169, 170, 171, 172, 173, 174, 175] rfl (by decide +kernel)
set_option maxRecDepth 20000 in
theorem gX11_ending_X5_shortest : GoodIn wsX11_ending (wsV RX11 266 RX5 yX5_shortest wsX5_shortest) := goodIn_app (goodIn_r _ [98, 99, 100, 8] rfl (by decide +kernel)) ggX11_ending_X5_shortest
set_option maxRecDepth 20000 in
theorem ggX11_endingBy_X5_look : GoodIn wsX11_endingBy wsX5_look := goodIn_r _ [9, 10, 11, 12, 13, 14, 15, 8, 16, 17, 18, 19, 20, 21, 22, 23, 24, 25, 26, 27, 28, 29, 30, 31, 32, 33, 34, 35, 36, 37, 38, 39, 40, 41, 42, 43, 44, 45, 46, 47, 48, 49, 50, 51, 52, 53, 54, 55, 56, 57, 58, 59, 60, 61, 62, 63, 64, 65, 66, 67, 68, 69, 70, 71, 72, 73, 74, 75, 76, 77, 78, 79, 80, 81, 82, 83, 84, 85, 86, 87, 88, 89, 90, 91, 92, 93, 94, 95, 96, 97, 152, 153, 154, 155, 156, 157, 158, 159, 160, 161, 162, 163, 164, 165, 143, 144, 145, 146, 147, 148, 149, 150, 151, 166, 167, 168, 169, 170, 171, 172, 173, 174, 175, 176, 177, 178, 179, 180, 181, 182, 183] rfl (by decide +kernel)
set_option maxRecDepth 20000 in
theorem gX11_endingBy_X5_look : GoodIn wsX11_endingBy (wsV RX11 262 RX5 yX5_look wsX5_look) := goodIn_app (goodIn_r _ [5, 6, 7, 8] rfl (by decide +kernel)) ggX11_endingBy_X5_look
set_option maxRecDepth 20000 in
theorem ggX11_endingBy_X5_shortest : GoodIn wsX11_endingBy wsX5_shortest := goodIn_r _ [101, 17, 49, 102, 103, 104, 8, 105, 12, 11, 10, 106, 107, 108, 109, 110, 19, 111, 112, 113, 114, 115, 116, 117, 118, 50, 152, 153, 154, 155, 156, 157, 158, 159, 160, 161, 162, 163, 164, 165, 173, 174, 175, 176, 177, 178, 179, 180, 181, 182, 183] rfl (by decide +kernel)
set_option maxRecDepth 20000 in
theorem gX11_endingBy_X5_shortest : GoodIn wsX11_endingBy (wsV RX11 266 RX5 yX5_shortest wsX5_shortest) := goodIn_app (goodIn_r _ [98, 99, 100, 8] rfl (by decide +kernel)) ggX11_endingBy_X5_shortest
set_option maxRecDepth 20000 in
theorem ggX11_endingBy_X5_comerAt : GoodIn wsX11_endingBy wsX5_comerAt := goodIn_r _ [122, 11, 123, 124, 125, 8, 126, 17, 49, 106, 115, 116, 117, 118, 50, 152, 153, 154, 155, 156, 157, 158, 159, 160, 161, 162, 163, 164, 165, 173, 174, 175, 176, 177, 178, 179, 180, 181, 182, 183] rfl (by decide +kernel)
set_option maxRecDepth 20000 in
theorem gX11_endingBy_X5_comerAt : GoodIn wsX11_endingBy (wsV RX11 269 RX5 yX5_comerAt wsX5_comerAt) := goodIn_app (goodIn_r _ [119, 120, 121, 8] rfl (by decide +kernel)) ggX11_endingBy_X5_comerAt
set_option maxRecDepth 20000 in
theorem ggX11_endings_X5_look : GoodIn wsX11_endings wsX5_look := goodIn_r _ [10, 11, 12, 13, 14, 15, 16, 9, 17, 18, 19, 20, 21, 22, 23, 24, 25, 26, 27, 28, 29, 30, 31, 32, 33, 34, 35, 36, 37, 38, 39, 40, 41, 42, 43, 44, 45, 46, 47, 48, 49, 50, 51, 52, 53, 54, 55, 56, 57, 58, 59, 60, 61, 62, 63, 64, 65, 66, 67, 68, 69, 70, 71, 72, 73, 74, 75, 76, 77, 78, 79, 80, 81, 82, 83, 84, 85, 86, 87, 88, 89, 90, 91, 92, 93, 94, 95, 96, 97, 98, 161, 162, 163, 164, 165, 166, 167, 168, 169, 170, 171, 172, 173, 174, 152, 153, 154, 155, 156, 157, 158, 159, 160, 175, 176, 177, 178, 179, 180, 181, 182, 183, 184, 185, 186, 187, 188, 189, 190, 191, 192] rfl (by decide +kernel)
set_option maxRecDepth 20000 in
theorem gX11_endings_X5_look : GoodIn wsX11_endings (wsV RX11 262 RX5 yX5_look wsX5_look) := goodIn_app (goodIn_r _ [6, 7, 8, 9] rfl (by decide +kernel)) ggX11_endings_X5_look
set_option maxRecDepth 20000 in
theorem ggX11_endings_X5_rowsToShut : GoodIn wsX11_endings wsX5_rowsToShut := goodIn_r _ [102, 103, 104, 105, 9, 106, 107, 12, 108, 109, 44, 110, 111, 112, 113, 114, 115, 13, 18, 50, 116, 117, 118, 119, 51, 120, 121, 122, 123, 124, 125, 126, 127, 128, 129, 130, 131, 132, 133, 134, 135, 20, 161, 162, 163, 164, 165, 166, 167, 168, 169, 170, 171, 172, 173, 174, 182, 183, 184, 185, 186, 187, 188, 189, 190, 191, 192] rfl (by decide +kernel)
set_option maxRecDepth 20000 in
theorem gX11_endings_X5_rowsToShut : GoodIn wsX11_endings (wsV RX11 274 RX5 yX5_rowsToShut wsX5_rowsToShut) := goodIn_app (goodIn_r _ [99, 100, 101, 9] rfl (by decide +kernel)) ggX11_endings_X5_rowsToShut
set_option maxRecDepth 20000 in
theorem ggX11_needed_X5_look : GoodIn wsX11_needed wsX5_look := goodIn_r _ [9, 10, 11, 12, 13, 14, 15, 8, 16, 17, 18, 19, 20, 21, 22, 23, 24, 25, 26, 27, 28, 29, 30, 31, 32, 33, 34, 35, 36, 37, 38, 39, 40, 41, 42, 43, 44, 45, 46, 47, 48, 49, 50, 51, 52, 53, 54, 55, 56, 57, 58, 59, 60, 61, 62, 63, 64, 65, 66, 67, 68, 69, 70, 71, 72, 73, 74, 75, 76, 77, 78, 79, 80, 81, 82, 83, 84, 85, 86, 87, 88, 89, 90, 91, 92, 93, 94, 95, 96, 97, 144, 145, 146, 147, 148, 149, 150, 151, 152, 153, 154, 155, 156, 157, 135, 136, 137, 138, 139, 140, 141, 142, 143, 158, 159, 160, 161, 162, 163, 164, 165, 166, 167, 168, 169, 170, 171, 172, 173, 174, 175] rfl (by decide +kernel)
set_option maxRecDepth 20000 in
theorem gX11_needed_X5_look : GoodIn wsX11_needed (wsV RX11 262 RX5 yX5_look wsX5_look) := goodIn_app (goodIn_r _ [5, 6, 7, 8] rfl (by decide +kernel)) ggX11_needed_X5_look
set_option maxRecDepth 20000 in
theorem ggX11_needed_X5_neededBuyers : GoodIn wsX11_needed wsX5_neededBuyers := goodIn_r _ [101, 17, 49, 102, 103, 104, 8, 105, 12, 11, 10, 106, 107, 108, 109, 110, 19, 111, 112, 113, 114, 115, 116, 117, 118, 50, 144, 145, 146, 147, 148, 149, 150, 151, 152, 153, 154, 155, 156, 157, 165, 166, 167, 168, 169, 170, 171, 172, 173, 174, 175] rfl (by decide +kernel)
set_option maxRecDepth 20000 in
theorem gX11_needed_X5_neededBuyers : GoodIn wsX11_needed (wsV RX11 277 RX5 yX5_neededBuyers wsX5_neededBuyers) := goodIn_app (goodIn_r _ [98, 99, 100, 8] rfl (by decide +kernel)) ggX11_needed_X5_neededBuyers
set_option maxRecDepth 20000 in
theorem ggX11_sellable_X5_look : GoodIn wsX11_sellable wsX5_look := goodIn_r _ [9, 10, 11, 12, 13, 14, 15, 8, 16, 17, 18, 19, 20, 21, 22, 23, 24, 25, 26, 27, 28, 29, 30, 31, 32, 33, 34, 35, 36, 37, 38, 39, 40, 41, 42, 43, 44, 45, 46, 47, 48, 49, 50, 51, 52, 53, 54, 55, 56, 57, 58, 59, 60, 61, 62, 63, 64, 65, 66, 67, 68, 69, 70, 71, 72, 73, 74, 75, 76, 77, 78, 79, 80, 81, 82, 83, 84, 85, 86, 87, 88, 89, 90, 91, 92, 93, 94, 95, 96, 97, 127, 128, 129, 130, 131, 132, 133, 134, 135, 136, 137, 138, 139, 140, 118, 119, 120, 121, 122, 123, 124, 125, 126, 141, 142, 143, 144, 145, 146, 147, 148, 149, 150, 151, 152, 153, 154, 155, 156, 157, 158] rfl (by decide +kernel)
set_option maxRecDepth 20000 in
theorem gX11_sellable_X5_look : GoodIn wsX11_sellable (wsV RX11 262 RX5 yX5_look wsX5_look) := goodIn_app (goodIn_r _ [5, 6, 7, 8] rfl (by decide +kernel)) ggX11_sellable_X5_look
set_option maxRecDepth 20000 in
theorem ggX11_sellable_X5_everSold : GoodIn wsX11_sellable wsX5_everSold := goodIn_r _ [101, 11, 12, 10, 127, 128, 129, 130, 131, 132, 133, 134, 135, 136, 137, 138, 139, 140] rfl (by decide +kernel)
set_option maxRecDepth 20000 in
theorem gX11_sellable_X5_everSold : GoodIn wsX11_sellable (wsV RX11 280 RX5 yX5_everSold wsX5_everSold) := goodIn_app (goodIn_r _ [98, 99, 100, 8] rfl (by decide +kernel)) ggX11_sellable_X5_everSold
set_option maxRecDepth 20000 in
theorem ggX11_guards_X5_look : GoodIn wsX11_guards wsX5_look := goodIn_r _ [10, 11, 12, 13, 14, 15, 16, 9, 17, 18, 19, 20, 21, 22, 23, 24, 25, 26, 27, 28, 29, 30, 31, 32, 33, 34, 35, 36, 37, 38, 39, 40, 41, 42, 43, 44, 45, 46, 47, 48, 49, 50, 51, 52, 53, 54, 55, 56, 57, 58, 59, 60, 61, 62, 63, 64, 65, 66, 67, 68, 69, 70, 71, 72, 73, 74, 75, 76, 77, 78, 79, 80, 81, 82, 83, 84, 85, 86, 87, 88, 89, 90, 91, 92, 93, 94, 95, 96, 97, 98, 145, 146, 147, 148, 149, 150, 151, 152, 153, 154, 155, 156, 157, 158, 136, 137, 138, 139, 140, 141, 142, 143, 144, 159, 160, 161, 162, 163, 164, 165, 166, 167, 168, 169, 170, 171, 172, 173, 174, 175, 176] rfl (by decide +kernel)
set_option maxRecDepth 20000 in
theorem gX11_guards_X5_look : GoodIn wsX11_guards (wsV RX11 262 RX5 yX5_look wsX5_look) := goodIn_app (goodIn_r _ [6, 7, 8, 9] rfl (by decide +kernel)) ggX11_guards_X5_look
set_option maxRecDepth 20000 in
theorem ggX11_guards_X5_shortest : GoodIn wsX11_guards wsX5_shortest := goodIn_r _ [102, 18, 50, 103, 104, 105, 9, 106, 13, 12, 11, 107, 108, 109, 110, 111, 20, 112, 113, 114, 115, 116, 117, 118, 119, 51, 145, 146, 147, 148, 149, 150, 151, 152, 153, 154, 155, 156, 157, 158, 166, 167, 168, 169, 170, 171, 172, 173, 174, 175, 176] rfl (by decide +kernel)
set_option maxRecDepth 20000 in
theorem gX11_guards_X5_shortest : GoodIn wsX11_guards (wsV RX11 266 RX5 yX5_shortest wsX5_shortest) := goodIn_app (goodIn_r _ [99, 100, 101, 9] rfl (by decide +kernel)) ggX11_guards_X5_shortest
set_option maxRecDepth 20000 in
theorem ggX11_last_X5_look : GoodIn wsX11_last wsX5_look := goodIn_r _ [9, 10, 11, 12, 13, 14, 15, 8, 16, 17, 18, 19, 20, 21, 22, 23, 24, 25, 26, 27, 28, 29, 30, 31, 32, 33, 34, 35, 36, 37, 38, 39, 40, 41, 42, 43, 44, 45, 46, 47, 48, 49, 50, 51, 52, 53, 54, 55, 56, 57, 58, 59, 60, 61, 62, 63, 64, 65, 66, 67, 68, 69, 70, 71, 72, 73, 74, 75, 76, 77, 78, 79, 80, 81, 82, 83, 84, 85, 86, 87, 88, 89, 90, 91, 92, 93, 94, 95, 96, 97, 128, 129, 130, 131, 132, 133, 134, 135, 136, 137, 138, 139, 140, 141, 119, 120, 121, 122, 123, 124, 125, 126, 127, 142, 143, 144, 145, 146, 147, 148, 149, 150, 151, 152, 153, 154, 155, 156, 157, 158, 159] rfl (by decide +kernel)
set_option maxRecDepth 20000 in
theorem gX11_last_X5_look : GoodIn wsX11_last (wsV RX11 262 RX5 yX5_look wsX5_look) := goodIn_app (goodIn_r _ [5, 6, 7, 8] rfl (by decide +kernel)) ggX11_last_X5_look
set_option maxRecDepth 20000 in
theorem ggX11_last_X5_lastLeft : GoodIn wsX11_last wsX5_lastLeft := goodIn_r _ [101, 11, 12, 19, 10, 102, 60, 61, 62, 63, 64, 65, 128, 129, 130, 131, 132, 133, 134, 135, 136, 137, 138, 139, 140, 141] rfl (by decide +kernel)
set_option maxRecDepth 20000 in
theorem gX11_last_X5_lastLeft : GoodIn wsX11_last (wsV RX11 283 RX5 yX5_lastLeft wsX5_lastLeft) := goodIn_app (goodIn_r _ [98, 99, 100, 8] rfl (by decide +kernel)) ggX11_last_X5_lastLeft
set_option maxRecDepth 20000 in
theorem ggX11_open_X11_chanceRefusal : GoodIn wsX11_open wsX11_chanceRefusal := goodIn_r _ [9] rfl (by decide +kernel)
set_option maxRecDepth 20000 in
theorem gX11_open_X11_chanceRefusal : GoodIn wsX11_open (va_wsS RX11 286 yX11_chanceRefusal wsX11_chanceRefusal) := goodIn_app (goodIn_r _ [6, 7, 8] rfl (by decide +kernel)) ggX11_open_X11_chanceRefusal
set_option maxRecDepth 20000 in
theorem ggX11_open_X5_look : GoodIn wsX11_open wsX5_look := goodIn_r _ [14, 15, 16, 17, 18, 19, 20, 13, 21, 22, 23, 24, 25, 26, 27, 28, 29, 30, 31, 32, 33, 34, 35, 36, 37, 38, 39, 40, 41, 42, 43, 44, 45, 46, 47, 48, 49, 50, 51, 52, 53, 54, 55, 56, 57, 58, 59, 60, 61, 62, 63, 64, 65, 66, 67, 68, 69, 70, 71, 72, 73, 74, 75, 76, 77, 78, 79, 80, 81, 82, 83, 84, 85, 86, 87, 88, 89, 90, 91, 92, 93, 94, 95, 96, 97, 98, 99, 100, 101, 102, 183, 184, 185, 186, 187, 188, 189, 190, 191, 192, 193, 194, 195, 196, 174, 175, 176, 177, 178, 179, 180, 181, 182, 197, 198, 199, 200, 201, 202, 203, 204, 205, 206, 207, 208, 209, 210, 211, 212, 213, 214] rfl (by decide +kernel)
set_option maxRecDepth 20000 in
theorem gX11_open_X5_look : GoodIn wsX11_open (wsV RX11 262 RX5 yX5_look wsX5_look) := goodIn_app (goodIn_r _ [10, 11, 12, 13] rfl (by decide +kernel)) ggX11_open_X5_look
set_option maxRecDepth 20000 in
theorem ggX11_open_X5_passDays : GoodIn wsX11_open wsX5_passDays := goodIn_r _ [106, 107, 108, 109, 22, 110, 111, 112, 13, 113, 114, 16, 115, 116, 48, 117, 118, 119, 120, 121, 122, 123, 124, 125, 126, 127, 128, 129, 54, 17, 130, 131, 132, 133, 134, 23, 135, 136, 137, 138, 139, 55, 140, 141, 142, 143, 24, 144, 145, 146, 147, 183, 184, 185, 186, 187, 188, 189, 190, 191, 192, 193, 194, 195, 196, 204, 205, 206, 207, 208, 209, 210, 211, 212, 213, 214, 174, 175, 176, 177, 178, 179, 180, 181, 182] rfl (by decide +kernel)
set_option maxRecDepth 20000 in
theorem gX11_open_X5_passDays : GoodIn wsX11_open (wsV RX11 289 RX5 yX5_passDays wsX5_passDays) := goodIn_app (goodIn_r _ [103, 104, 105, 13] rfl (by decide +kernel)) ggX11_open_X5_passDays
set_option maxRecDepth 20000 in
theorem ggX11_open_X5_openWays : GoodIn wsX11_open wsX5_openWays := goodIn_r _ [151, 16, 17, 114, 140, 141, 142, 13, 143, 24, 183, 184, 185, 186, 187, 188, 189, 190, 191, 192, 193, 194, 195, 196] rfl (by decide +kernel)
set_option maxRecDepth 20000 in
theorem gX11_open_X5_openWays : GoodIn wsX11_open (wsV RX11 292 RX5 yX5_openWays wsX5_openWays) := goodIn_app (goodIn_r _ [148, 149, 150, 13] rfl (by decide +kernel)) ggX11_open_X5_openWays
set_option maxRecDepth 20000 in
theorem ggX11_open_X11_inLowestTerms : GoodIn wsX11_open wsX11_inLowestTerms := goodIn_r _ [154, 155, 156, 8, 157] rfl (by decide +kernel)
set_option maxRecDepth 20000 in
theorem gX11_open_X11_inLowestTerms : GoodIn wsX11_open (va_wsS RX11 300 yX11_inLowestTerms wsX11_inLowestTerms) := goodIn_app (goodIn_r _ [152, 153, 8] rfl (by decide +kernel)) ggX11_open_X11_inLowestTerms
set_option maxRecDepth 20000 in
theorem ggX11_likely_X5_look : GoodIn wsX11_likely wsX5_look := goodIn_r _ [10, 11, 12, 13, 14, 15, 16, 9, 17, 18, 19, 20, 21, 22, 23, 24, 25, 26, 27, 28, 29, 30, 31, 32, 33, 34, 35, 36, 37, 38, 39, 40, 41, 42, 43, 44, 45, 46, 47, 48, 49, 50, 51, 52, 53, 54, 55, 56, 57, 58, 59, 60, 61, 62, 63, 64, 65, 66, 67, 68, 69, 70, 71, 72, 73, 74, 75, 76, 77, 78, 79, 80, 81, 82, 83, 84, 85, 86, 87, 88, 89, 90, 91, 92, 93, 94, 95, 96, 97, 98, 178, 179, 180, 181, 182, 183, 184, 185, 186, 187, 188, 189, 190, 191, 169, 170, 171, 172, 173, 174, 175, 176, 177, 192, 193, 194, 195, 196, 197, 198, 199, 200, 201, 202, 203, 204, 205, 206, 207, 208, 209] rfl (by decide +kernel)
set_option maxRecDepth 20000 in
theorem gX11_likely_X5_look : GoodIn wsX11_likely (wsV RX11 262 RX5 yX5_look wsX5_look) := goodIn_app (goodIn_r _ [6, 7, 8, 9] rfl (by decide +kernel)) ggX11_likely_X5_look
set_option maxRecDepth 20000 in
theorem ggX11_likely_X5_passDays : GoodIn wsX11_likely wsX5_passDays := goodIn_r _ [102, 103, 104, 105, 18, 106, 107, 108, 9, 109, 110, 12, 111, 112, 44, 113, 114, 115, 116, 117, 118, 119, 120, 121, 122, 123, 124, 125, 50, 13, 126, 127, 128, 129, 130, 19, 131, 132, 133, 134, 135, 51, 136, 137, 138, 139, 20, 140, 141, 142, 143, 178, 179, 180, 181, 182, 183, 184, 185, 186, 187, 188, 189, 190, 191, 199, 200, 201, 202, 203, 204, 205, 206, 207, 208, 209, 169, 170, 171, 172, 173, 174, 175, 176, 177] rfl (by decide +kernel)
set_option maxRecDepth 20000 in
theorem gX11_likely_X5_passDays : GoodIn wsX11_likely (wsV RX11 289 RX5 yX5_passDays wsX5_passDays) := goodIn_app (goodIn_r _ [99, 100, 101, 9] rfl (by decide +kernel)) ggX11_likely_X5_passDays
set_option maxRecDepth 20000 in
theorem ggX11_likely_X5_openWays : GoodIn wsX11_likely wsX5_openWays := goodIn_r _ [147, 12, 13, 110, 136, 137, 138, 9, 139, 20, 178, 179, 180, 181, 182, 183, 184, 185, 186, 187, 188, 189, 190, 191] rfl (by decide +kernel)
set_option maxRecDepth 20000 in
theorem gX11_likely_X5_openWays : GoodIn wsX11_likely (wsV RX11 292 RX5 yX5_openWays wsX5_openWays) := goodIn_app (goodIn_r _ [144, 145, 146, 9] rfl (by decide +kernel)) ggX11_likely_X5_openWays
set_option maxRecDepth 20000 in
theorem ggX11_likely_X11_hundredths : GoodIn wsX11_likely wsX11_hundredths := goodIn_r _ [151, 152] rfl (by decide +kernel)
set_option maxRecDepth 20000 in
theorem gX11_likely_X11_hundredths : GoodIn wsX11_likely (va_wsS RX11 304 yX11_hundredths wsX11_hundredths) := goodIn_app (goodIn_r _ [148, 149, 150] rfl (by decide +kernel)) ggX11_likely_X11_hundredths
set_option maxRecDepth 20000 in
theorem ggX11_shutsBy_X11_isBuyer : GoodIn wsX11_shutsBy wsX11_isBuyer := goodIn_r _ [11, 2, 12, 160, 161, 162, 163, 164, 165, 166, 167, 168, 169, 170, 171, 172, 173, 174, 175, 199, 200, 201, 202, 203, 204, 205, 206, 207, 208, 209] rfl (by decide +kernel)
set_option maxRecDepth 20000 in
theorem gX11_shutsBy_X11_isBuyer : GoodIn wsX11_shutsBy (wsV RX11 173 RX11 yX11_isBuyer wsX11_isBuyer) := goodIn_app (goodIn_r _ [7, 8, 9, 10] rfl (by decide +kernel)) ggX11_shutsBy_X11_isBuyer
set_option maxRecDepth 20000 in
theorem ggX11_shutsBy_X11_chanceRefusal : GoodIn wsX11_shutsBy wsX11_chanceRefusal := goodIn_r _ [15] rfl (by decide +kernel)
set_option maxRecDepth 20000 in
theorem gX11_shutsBy_X11_chanceRefusal : GoodIn wsX11_shutsBy (va_wsS RX11 286 yX11_chanceRefusal wsX11_chanceRefusal) := goodIn_app (goodIn_r _ [13, 14, 10] rfl (by decide +kernel)) ggX11_shutsBy_X11_chanceRefusal
set_option maxRecDepth 20000 in
theorem ggX11_shutsBy_X5_look : GoodIn wsX11_shutsBy wsX5_look := goodIn_r _ [20, 21, 22, 23, 24, 25, 26, 19, 27, 28, 29, 30, 31, 32, 33, 34, 35, 36, 37, 38, 39, 40, 41, 42, 43, 44, 45, 46, 47, 48, 49, 50, 51, 52, 53, 54, 55, 56, 57, 58, 59, 60, 61, 62, 63, 64, 65, 66, 67, 68, 69, 70, 71, 72, 73, 74, 75, 76, 77, 78, 79, 80, 81, 82, 83, 84, 85, 86, 87, 88, 89, 90, 91, 92, 93, 94, 95, 96, 97, 98, 99, 100, 101, 102, 103, 104, 105, 106, 107, 108, 185, 186, 187, 188, 189, 190, 191, 192, 193, 194, 195, 196, 197, 198, 176, 177, 178, 179, 180, 181, 182, 183, 184, 210, 211, 212, 213, 214, 215, 216, 199, 200, 201, 202, 203, 204, 205, 206, 207, 208, 209] rfl (by decide +kernel)
set_option maxRecDepth 20000 in
theorem gX11_shutsBy_X5_look : GoodIn wsX11_shutsBy (wsV RX11 262 RX5 yX5_look wsX5_look) := goodIn_app (goodIn_r _ [16, 17, 18, 19] rfl (by decide +kernel)) ggX11_shutsBy_X5_look
set_option maxRecDepth 20000 in
theorem ggX11_shutsBy_X5_passDays : GoodIn wsX11_shutsBy wsX5_passDays := goodIn_r _ [112, 113, 114, 115, 28, 116, 117, 118, 19, 119, 120, 22, 121, 122, 54, 123, 124, 125, 126, 127, 128, 129, 130, 131, 132, 133, 134, 135, 60, 23, 136, 137, 138, 139, 140, 29, 141, 142, 143, 144, 145, 61, 146, 147, 148, 149, 30, 150, 151, 152, 153, 185, 186, 187, 188, 189, 190, 191, 192, 193, 194, 195, 196, 197, 198, 199, 200, 201, 202, 203, 204, 205, 206, 207, 208, 209, 176, 177, 178, 179, 180, 181, 182, 183, 184] rfl (by decide +kernel)
set_option maxRecDepth 20000 in
theorem gX11_shutsBy_X5_passDays : GoodIn wsX11_shutsBy (wsV RX11 289 RX5 yX5_passDays wsX5_passDays) := goodIn_app (goodIn_r _ [109, 110, 111, 19] rfl (by decide +kernel)) ggX11_shutsBy_X5_passDays
set_option maxRecDepth 20000 in
theorem ggX11_shutsBy_X11_inLowestTerms : GoodIn wsX11_shutsBy wsX11_inLowestTerms := goodIn_r _ [156, 157, 158, 10, 159] rfl (by decide +kernel)
set_option maxRecDepth 20000 in
theorem gX11_shutsBy_X11_inLowestTerms : GoodIn wsX11_shutsBy (va_wsS RX11 300 yX11_inLowestTerms wsX11_inLowestTerms) := goodIn_app (goodIn_r _ [154, 155, 10] rfl (by decide +kernel)) ggX11_shutsBy_X11_inLowestTerms
set_option maxRecDepth 20000 in
theorem ggX11_closer_X5_look : GoodIn wsX11_closer wsX5_look := goodIn_r _ [11, 12, 13, 14, 15, 16, 17, 10, 18, 19, 20, 21, 22, 23, 24, 25, 26, 27, 28, 29, 30, 31, 32, 33, 34, 35, 36, 37, 38, 39, 40, 41, 42, 43, 44, 45, 46, 47, 48, 49, 50, 51, 52, 53, 54, 55, 56, 57, 58, 59, 60, 61, 62, 63, 64, 65, 66, 67, 68, 69, 70, 71, 72, 73, 74, 75, 76, 77, 78, 79, 80, 81, 82, 83, 84, 85, 86, 87, 88, 89, 90, 91, 92, 93, 94, 95, 96, 97, 98, 99, 181, 182, 183, 184, 185, 186, 187, 188, 189, 190, 191, 192, 193, 194, 161, 162, 163, 164, 165, 166, 167, 168, 169, 195, 196, 197, 198, 199, 200, 201, 170, 171, 172, 173, 174, 175, 176, 177, 178, 179, 180] rfl (by decide +kernel)
set_option maxRecDepth 20000 in
theorem gX11_closer_X5_look : GoodIn wsX11_closer (wsV RX11 262 RX5 yX5_look wsX5_look) := goodIn_app (goodIn_r _ [7, 8, 9, 10] rfl (by decide +kernel)) ggX11_closer_X5_look
set_option maxRecDepth 20000 in
theorem ggX11_closer_X5_passDays : GoodIn wsX11_closer wsX5_passDays := goodIn_r _ [103, 104, 105, 106, 19, 107, 108, 109, 10, 110, 111, 13, 112, 113, 45, 114, 115, 116, 117, 118, 119, 120, 121, 122, 123, 124, 125, 126, 51, 14, 127, 128, 129, 130, 131, 20, 132, 133, 134, 135, 136, 52, 137, 138, 139, 140, 21, 141, 142, 143, 144, 181, 182, 183, 184, 185, 186, 187, 188, 189, 190, 191, 192, 193, 194, 170, 171, 172, 173, 174, 175, 176, 177, 178, 179, 180, 161, 162, 163, 164, 165, 166, 167, 168, 169] rfl (by decide +kernel)
set_option maxRecDepth 20000 in
theorem gX11_closer_X5_passDays : GoodIn wsX11_closer (wsV RX11 289 RX5 yX5_passDays wsX5_passDays) := goodIn_app (goodIn_r _ [100, 101, 102, 10] rfl (by decide +kernel)) ggX11_closer_X5_passDays
set_option maxRecDepth 20000 in
theorem ggX11_soldIn_X11_isKind : GoodIn wsX11_soldIn wsX11_isKind := goodIn_r _ [10, 3, 11, 163, 164, 165, 166, 167, 168, 169, 170, 171, 172, 173, 174, 175, 176, 177, 178, 179, 180, 181, 182, 183, 184, 185, 186, 187] rfl (by decide +kernel)
set_option maxRecDepth 20000 in
theorem gX11_soldIn_X11_isKind : GoodIn wsX11_soldIn (wsV RX11 140 RX11 yX11_isKind wsX11_isKind) := goodIn_app (goodIn_r _ [6, 7, 8, 9] rfl (by decide +kernel)) ggX11_soldIn_X11_isKind
set_option maxRecDepth 20000 in
theorem ggX11_soldIn_X11_chanceRefusal : GoodIn wsX11_soldIn wsX11_chanceRefusal := goodIn_r _ [14] rfl (by decide +kernel)
set_option maxRecDepth 20000 in
theorem gX11_soldIn_X11_chanceRefusal : GoodIn wsX11_soldIn (va_wsS RX11 286 yX11_chanceRefusal wsX11_chanceRefusal) := goodIn_app (goodIn_r _ [12, 13, 9] rfl (by decide +kernel)) ggX11_soldIn_X11_chanceRefusal
set_option maxRecDepth 20000 in
theorem ggX11_soldIn_X5_look : GoodIn wsX11_soldIn wsX5_look := goodIn_r _ [19, 20, 21, 22, 23, 24, 25, 18, 26, 27, 28, 29, 30, 31, 32, 33, 34, 35, 36, 37, 38, 39, 40, 41, 42, 43, 44, 45, 46, 47, 48, 49, 50, 51, 52, 53, 54, 55, 56, 57, 58, 59, 60, 61, 62, 63, 64, 65, 66, 67, 68, 69, 70, 71, 72, 73, 74, 75, 76, 77, 78, 79, 80, 81, 82, 83, 84, 85, 86, 87, 88, 89, 90, 91, 92, 93, 94, 95, 96, 97, 98, 99, 100, 101, 102, 103, 104, 105, 106, 107, 188, 189, 190, 191, 192, 193, 194, 195, 196, 197, 198, 199, 200, 201, 179, 180, 181, 182, 183, 184, 185, 186, 187, 202, 203, 204, 205, 206, 207, 208, 209, 210, 211, 212, 213, 214, 215, 216, 217, 218, 219] rfl (by decide +kernel)
set_option maxRecDepth 20000 in
theorem gX11_soldIn_X5_look : GoodIn wsX11_soldIn (wsV RX11 262 RX5 yX5_look wsX5_look) := goodIn_app (goodIn_r _ [15, 16, 17, 18] rfl (by decide +kernel)) ggX11_soldIn_X5_look
set_option maxRecDepth 20000 in
theorem ggX11_soldIn_X5_passDays : GoodIn wsX11_soldIn wsX5_passDays := goodIn_r _ [111, 112, 113, 114, 27, 115, 116, 117, 18, 118, 119, 21, 120, 121, 53, 122, 123, 124, 125, 126, 127, 128, 129, 130, 131, 132, 133, 134, 59, 22, 135, 136, 137, 138, 139, 28, 140, 141, 142, 143, 144, 60, 145, 146, 147, 148, 29, 149, 150, 151, 152, 188, 189, 190, 191, 192, 193, 194, 195, 196, 197, 198, 199, 200, 201, 209, 210, 211, 212, 213, 214, 215, 216, 217, 218, 219, 179, 180, 181, 182, 183, 184, 185, 186, 187] rfl (by decide +kernel)
set_option maxRecDepth 20000 in
theorem gX11_soldIn_X5_passDays : GoodIn wsX11_soldIn (wsV RX11 289 RX5 yX5_passDays wsX5_passDays) := goodIn_app (goodIn_r _ [108, 109, 110, 18] rfl (by decide +kernel)) ggX11_soldIn_X5_passDays
set_option maxRecDepth 20000 in
theorem ggX11_soldIn_X5_soldWays : GoodIn wsX11_soldIn wsX5_soldWays := goodIn_r _ [156, 21, 22, 119, 188, 189, 190, 191, 192, 193, 194, 195, 196, 197, 198, 199, 200, 201] rfl (by decide +kernel)
set_option maxRecDepth 20000 in
theorem gX11_soldIn_X5_soldWays : GoodIn wsX11_soldIn (wsV RX11 312 RX5 yX5_soldWays wsX5_soldWays) := goodIn_app (goodIn_r _ [153, 154, 155, 18] rfl (by decide +kernel)) ggX11_soldIn_X5_soldWays
set_option maxRecDepth 20000 in
theorem ggX11_soldIn_X11_inLowestTerms : GoodIn wsX11_soldIn wsX11_inLowestTerms := goodIn_r _ [159, 160, 161, 9, 162] rfl (by decide +kernel)
set_option maxRecDepth 20000 in
theorem gX11_soldIn_X11_inLowestTerms : GoodIn wsX11_soldIn (va_wsS RX11 300 yX11_inLowestTerms wsX11_inLowestTerms) := goodIn_app (goodIn_r _ [157, 158, 9] rfl (by decide +kernel)) ggX11_soldIn_X11_inLowestTerms
set_option maxRecDepth 20000 in
theorem ggX11_inLowestTerms_X11_commonDivisor : GoodIn wsX11_inLowestTerms wsX11_commonDivisor := goodIn_r _ [4] rfl (by decide +kernel)
set_option maxRecDepth 20000 in
theorem gX11_inLowestTerms_X11_commonDivisor : GoodIn wsX11_inLowestTerms (va_wsS RX11 315 yX11_commonDivisor wsX11_commonDivisor) := goodIn_app (goodIn_r _ [1, 2, 3] rfl (by decide +kernel)) ggX11_inLowestTerms_X11_commonDivisor
set_option maxRecDepth 20000 in
theorem ggX11_hides_X9_isShut : GoodIn wsX11_hides wsX9_isShut := goodIn_r _ [14, 15, 16, 17, 18, 19, 13, 20, 21, 181, 182, 183, 184, 185, 186, 187, 188, 189] rfl (by decide +kernel)
set_option maxRecDepth 20000 in
theorem gX11_hides_X9_isShut : GoodIn wsX11_hides (wsV RX11 320 RX9 yX9_isShut wsX9_isShut) := goodIn_app (goodIn_r _ [10, 11, 12, 13] rfl (by decide +kernel)) ggX11_hides_X9_isShut
set_option maxRecDepth 20000 in
theorem ggX11_hides_X9_everyKind : GoodIn wsX11_hides wsX9_everyKind := goodIn_r _ [20, 21, 181, 182, 183, 184, 185, 186, 187, 188, 189] rfl (by decide +kernel)
set_option maxRecDepth 20000 in
theorem gX11_hides_X9_everyKind : GoodIn wsX11_hides (wsV RX11 323 RX9 yX9_everyKind wsX9_everyKind) := goodIn_app (goodIn_r _ [22, 18, 19, 13] rfl (by decide +kernel)) ggX11_hides_X9_everyKind
set_option maxRecDepth 20000 in
theorem ggX11_hides_X11_isHideable : GoodIn wsX11_hides wsX11_isHideable := goodIn_r _ [27, 1, 5, 28, 29, 30, 31, 32, 33, 34, 165, 166, 167, 168, 169, 170, 171, 172, 173, 174, 175, 176, 177, 178, 179, 180, 181, 182, 183, 184, 185, 186, 187, 188, 189] rfl (by decide +kernel)
set_option maxRecDepth 20000 in
theorem gX11_hides_X11_isHideable : GoodIn wsX11_hides (wsV RX11 326 RX11 yX11_isHideable wsX11_isHideable) := goodIn_app (goodIn_r _ [23, 24, 25, 26] rfl (by decide +kernel)) ggX11_hides_X11_isHideable
set_option maxRecDepth 20000 in
theorem ggX11_hides_X5_look : GoodIn wsX11_hides wsX5_look := goodIn_r _ [39, 40, 41, 42, 43, 44, 45, 38, 46, 47, 48, 49, 50, 51, 52, 18, 19, 13, 20, 21, 53, 54, 55, 56, 57, 58, 59, 60, 61, 62, 63, 64, 65, 66, 67, 68, 69, 70, 71, 72, 73, 74, 75, 76, 77, 78, 79, 80, 81, 8, 82, 83, 29, 30, 31, 32, 33, 34, 84, 85, 86, 87, 88, 89, 90, 91, 92, 93, 94, 95, 96, 97, 98, 99, 100, 101, 102, 103, 104, 105, 106, 107, 108, 109, 110, 111, 112, 113, 114, 115, 190, 191, 192, 193, 194, 195, 196, 197, 198, 199, 200, 201, 202, 203, 181, 182, 183, 184, 185, 186, 187, 188, 189, 204, 205, 206, 207, 208, 209, 210, 211, 212, 213, 214, 215, 216, 217, 218, 219, 220, 221] rfl (by decide +kernel)
set_option maxRecDepth 20000 in
theorem gX11_hides_X5_look : GoodIn wsX11_hides (wsV RX11 262 RX5 yX5_look wsX5_look) := goodIn_app (goodIn_r _ [35, 36, 37, 38] rfl (by decide +kernel)) ggX11_hides_X5_look
set_option maxRecDepth 20000 in
theorem ggX11_hides_X5_passDays : GoodIn wsX11_hides wsX5_passDays := goodIn_r _ [119, 120, 121, 122, 47, 123, 124, 125, 38, 126, 127, 41, 128, 129, 68, 130, 131, 132, 133, 134, 135, 136, 137, 138, 139, 140, 141, 142, 74, 42, 143, 144, 145, 146, 147, 48, 148, 149, 150, 151, 152, 75, 153, 154, 155, 156, 49, 157, 158, 159, 160, 190, 191, 192, 193, 194, 195, 196, 197, 198, 199, 200, 201, 202, 203, 211, 212, 213, 214, 215, 216, 217, 218, 219, 220, 221, 181, 182, 183, 184, 185, 186, 187, 188, 189] rfl (by decide +kernel)
set_option maxRecDepth 20000 in
theorem gX11_hides_X5_passDays : GoodIn wsX11_hides (wsV RX11 289 RX5 yX5_passDays wsX5_passDays) := goodIn_app (goodIn_r _ [116, 117, 118, 38] rfl (by decide +kernel)) ggX11_hides_X5_passDays
set_option maxRecDepth 20000 in
theorem ggX11_hides_X5_openWays : GoodIn wsX11_hides wsX5_openWays := goodIn_r _ [164, 41, 42, 127, 153, 154, 155, 38, 156, 49, 190, 191, 192, 193, 194, 195, 196, 197, 198, 199, 200, 201, 202, 203] rfl (by decide +kernel)
set_option maxRecDepth 20000 in
theorem gX11_hides_X5_openWays : GoodIn wsX11_hides (wsV RX11 292 RX5 yX5_openWays wsX5_openWays) := goodIn_app (goodIn_r _ [161, 162, 163, 38] rfl (by decide +kernel)) ggX11_hides_X5_openWays
set_option maxRecDepth 20000 in
theorem ggX11_hides_J6_bitCount_0f7a4 : GoodIn wsX11_hides wsJ6_bitCount_0f7a4 := goodIn_r _ [31, 32, 33, 34] rfl (by decide +kernel)
set_option maxRecDepth 20000 in
theorem gX11_hides_J6_bitCount_0f7a4 : GoodIn wsX11_hides (va_wsS RX11 333 yJ6_bitCount_0f7a4 wsJ6_bitCount_0f7a4) := goodIn_app (goodIn_r _ [28, 29, 30] rfl (by decide +kernel)) ggX11_hides_J6_bitCount_0f7a4
set_option maxRecDepth 20000 in
theorem ggX11_isHideable_J6_bitCount_0f7a4 : GoodIn wsX11_isHideable wsJ6_bitCount_0f7a4 := goodIn_r _ [6, 7, 8, 9] rfl (by decide +kernel)
set_option maxRecDepth 20000 in
theorem gX11_isHideable_J6_bitCount_0f7a4 : GoodIn wsX11_isHideable (va_wsS RX11 333 yJ6_bitCount_0f7a4 wsJ6_bitCount_0f7a4) := goodIn_app (goodIn_r _ [3, 4, 5] rfl (by decide +kernel)) ggX11_isHideable_J6_bitCount_0f7a4
set_option maxRecDepth 20000 in
theorem ggX11_rota_X9_isShut : GoodIn wsX11_rota wsX9_isShut := goodIn_r _ [10, 11, 12, 13, 14, 15, 9, 16, 17, 154, 155, 156, 157, 158, 159, 160, 161, 162] rfl (by decide +kernel)
set_option maxRecDepth 20000 in
theorem gX11_rota_X9_isShut : GoodIn wsX11_rota (wsV RX11 320 RX9 yX9_isShut wsX9_isShut) := goodIn_app (goodIn_r _ [6, 7, 8, 9] rfl (by decide +kernel)) ggX11_rota_X9_isShut
set_option maxRecDepth 20000 in
theorem ggX11_rota_X5_look : GoodIn wsX11_rota wsX5_look := goodIn_r _ [22, 23, 24, 25, 26, 27, 28, 21, 29, 30, 31, 32, 33, 34, 35, 14, 15, 9, 16, 17, 36, 37, 38, 39, 40, 41, 42, 43, 44, 45, 46, 47, 48, 49, 50, 51, 52, 53, 54, 55, 56, 57, 58, 59, 60, 61, 62, 63, 64, 65, 66, 67, 68, 69, 70, 71, 72, 73, 74, 75, 76, 77, 78, 79, 80, 81, 82, 83, 84, 85, 86, 87, 88, 89, 90, 91, 92, 93, 94, 95, 96, 97, 98, 99, 100, 101, 102, 103, 104, 105, 163, 164, 165, 166, 167, 168, 169, 170, 171, 172, 173, 174, 175, 176, 154, 155, 156, 157, 158, 159, 160, 161, 162, 177, 178, 179, 180, 181, 182, 183, 184, 185, 186, 187, 188, 189, 190, 191, 192, 193, 194] rfl (by decide +kernel)
set_option maxRecDepth 20000 in
theorem gX11_rota_X5_look : GoodIn wsX11_rota (wsV RX11 262 RX5 yX5_look wsX5_look) := goodIn_app (goodIn_r _ [18, 19, 20, 21] rfl (by decide +kernel)) ggX11_rota_X5_look
set_option maxRecDepth 20000 in
theorem ggX11_rota_X5_takersNow : GoodIn wsX11_rota wsX5_takersNow := goodIn_r _ [109, 30, 57, 24, 110, 111, 112, 21, 113, 58, 163, 164, 165, 166, 167, 168, 169, 170, 171, 172, 173, 174, 175, 176, 184, 185, 186, 187, 188, 189, 190, 191, 192, 193, 194] rfl (by decide +kernel)
set_option maxRecDepth 20000 in
theorem gX11_rota_X5_takersNow : GoodIn wsX11_rota (wsV RX11 338 RX5 yX5_takersNow wsX5_takersNow) := goodIn_app (goodIn_r _ [106, 107, 108, 21] rfl (by decide +kernel)) ggX11_rota_X5_takersNow
set_option maxRecDepth 20000 in
theorem ggX11_rota_X9_everyKind : GoodIn wsX11_rota wsX9_everyKind := goodIn_r _ [16, 17, 154, 155, 156, 157, 158, 159, 160, 161, 162] rfl (by decide +kernel)
set_option maxRecDepth 20000 in
theorem gX11_rota_X9_everyKind : GoodIn wsX11_rota (wsV RX11 323 RX9 yX9_everyKind wsX9_everyKind) := goodIn_app (goodIn_r _ [114, 14, 15, 9] rfl (by decide +kernel)) ggX11_rota_X9_everyKind
set_option maxRecDepth 20000 in
theorem ggX11_rota_X11_isHideable : GoodIn wsX11_rota wsX11_isHideable := goodIn_r _ [119, 1, 4, 120, 68, 69, 70, 71, 72, 73, 138, 139, 140, 141, 142, 143, 144, 145, 146, 147, 148, 149, 150, 151, 152, 153, 154, 155, 156, 157, 158, 159, 160, 161, 162] rfl (by decide +kernel)
set_option maxRecDepth 20000 in
theorem gX11_rota_X11_isHideable : GoodIn wsX11_rota (wsV RX11 326 RX11 yX11_isHideable wsX11_isHideable) := goodIn_app (goodIn_r _ [115, 116, 117, 118] rfl (by decide +kernel)) ggX11_rota_X11_isHideable
set_option maxRecDepth 20000 in
theorem ggX11_rota_X5_shortest : GoodIn wsX11_rota wsX5_shortest := goodIn_r _ [124, 30, 57, 125, 126, 127, 21, 128, 25, 24, 23, 129, 130, 131, 132, 133, 32, 134, 135, 136, 137, 110, 111, 112, 113, 58, 163, 164, 165, 166, 167, 168, 169, 170, 171, 172, 173, 174, 175, 176, 184, 185, 186, 187, 188, 189, 190, 191, 192, 193, 194] rfl (by decide +kernel)
set_option maxRecDepth 20000 in
theorem gX11_rota_X5_shortest : GoodIn wsX11_rota (wsV RX11 266 RX5 yX5_shortest wsX5_shortest) := goodIn_app (goodIn_r _ [121, 122, 123, 21] rfl (by decide +kernel)) ggX11_rota_X5_shortest
set_option maxRecDepth 20000 in
theorem ggX11_earns_X11_chanceRefusal : GoodIn wsX11_earns wsX11_chanceRefusal := goodIn_r _ [10] rfl (by decide +kernel)
set_option maxRecDepth 20000 in
theorem gX11_earns_X11_chanceRefusal : GoodIn wsX11_earns (va_wsS RX11 286 yX11_chanceRefusal wsX11_chanceRefusal) := goodIn_app (goodIn_r _ [7, 8, 9] rfl (by decide +kernel)) ggX11_earns_X11_chanceRefusal
set_option maxRecDepth 20000 in
theorem ggX11_earns_X5_look : GoodIn wsX11_earns wsX5_look := goodIn_r _ [15, 16, 17, 18, 19, 20, 21, 14, 22, 23, 24, 25, 26, 27, 28, 29, 30, 31, 32, 33, 34, 35, 36, 37, 38, 39, 40, 41, 42, 43, 44, 45, 46, 47, 48, 49, 50, 51, 52, 53, 54, 55, 56, 57, 58, 59, 60, 61, 62, 63, 64, 65, 66, 67, 68, 69, 70, 71, 72, 73, 74, 75, 76, 77, 78, 79, 80, 81, 82, 83, 84, 85, 86, 87, 88, 89, 90, 91, 92, 93, 94, 95, 96, 97, 98, 99, 100, 101, 102, 103, 180, 181, 182, 183, 184, 185, 186, 187, 188, 189, 190, 191, 192, 193, 171, 172, 173, 174, 175, 176, 177, 178, 179, 194, 195, 196, 197, 198, 199, 200, 201, 202, 203, 204, 205, 206, 207, 208, 209, 210, 211] rfl (by decide +kernel)
set_option maxRecDepth 20000 in
theorem gX11_earns_X5_look : GoodIn wsX11_earns (wsV RX11 262 RX5 yX5_look wsX5_look) := goodIn_app (goodIn_r _ [11, 12, 13, 14] rfl (by decide +kernel)) ggX11_earns_X5_look
set_option maxRecDepth 20000 in
theorem ggX11_earns_X5_passDays : GoodIn wsX11_earns wsX5_passDays := goodIn_r _ [107, 108, 109, 110, 23, 111, 112, 113, 14, 114, 115, 17, 116, 117, 49, 118, 119, 120, 121, 122, 123, 124, 125, 126, 127, 128, 129, 130, 55, 18, 131, 132, 133, 134, 135, 24, 136, 137, 138, 139, 140, 56, 141, 142, 143, 144, 25, 145, 146, 147, 148, 180, 181, 182, 183, 184, 185, 186, 187, 188, 189, 190, 191, 192, 193, 201, 202, 203, 204, 205, 206, 207, 208, 209, 210, 211, 171, 172, 173, 174, 175, 176, 177, 178, 179] rfl (by decide +kernel)
set_option maxRecDepth 20000 in
theorem gX11_earns_X5_passDays : GoodIn wsX11_earns (wsV RX11 289 RX5 yX5_passDays wsX5_passDays) := goodIn_app (goodIn_r _ [104, 105, 106, 14] rfl (by decide +kernel)) ggX11_earns_X5_passDays
set_option maxRecDepth 20000 in
theorem ggX11_earns_X11_inLowestTerms : GoodIn wsX11_earns wsX11_inLowestTerms := goodIn_r _ [151, 152, 153, 9, 154] rfl (by decide +kernel)
set_option maxRecDepth 20000 in
theorem gX11_earns_X11_inLowestTerms : GoodIn wsX11_earns (va_wsS RX11 300 yX11_inLowestTerms wsX11_inLowestTerms) := goodIn_app (goodIn_r _ [149, 150, 9] rfl (by decide +kernel)) ggX11_earns_X11_inLowestTerms
set_option maxRecDepth 20000 in
theorem ggX11_bestPrice_X11_isKind : GoodIn wsX11_bestPrice wsX11_isKind := goodIn_r _ [17, 1, 18, 173, 174, 175, 176, 177, 178, 179, 180, 181, 182, 183, 184, 185, 186, 187, 188, 189, 190, 191, 192, 193, 194, 195, 196, 197] rfl (by decide +kernel)
set_option maxRecDepth 20000 in
theorem gX11_bestPrice_X11_isKind : GoodIn wsX11_bestPrice (wsV RX11 140 RX11 yX11_isKind wsX11_isKind) := goodIn_app (goodIn_r _ [13, 14, 15, 16] rfl (by decide +kernel)) ggX11_bestPrice_X11_isKind
set_option maxRecDepth 20000 in
theorem ggX11_bestPrice_X9_isShut : GoodIn wsX11_bestPrice wsX9_isShut := goodIn_r _ [23, 24, 25, 26, 27, 28, 22, 29, 30, 189, 190, 191, 192, 193, 194, 195, 196, 197] rfl (by decide +kernel)
set_option maxRecDepth 20000 in
theorem gX11_bestPrice_X9_isShut : GoodIn wsX11_bestPrice (wsV RX11 320 RX9 yX9_isShut wsX9_isShut) := goodIn_app (goodIn_r _ [19, 20, 21, 22] rfl (by decide +kernel)) ggX11_bestPrice_X9_isShut
set_option maxRecDepth 20000 in
theorem ggX11_bestPrice_X9_copyFrom : GoodIn wsX11_bestPrice wsX9_copyFrom := goodIn_r _ [34, 30, 35, 36, 25, 24, 37, 38, 39, 40, 189, 190, 191, 192, 193, 194, 195, 196, 197] rfl (by decide +kernel)
set_option maxRecDepth 20000 in
theorem gX11_bestPrice_X9_copyFrom : GoodIn wsX11_bestPrice (wsV RX11 124 RX9 yX9_copyFrom wsX9_copyFrom) := goodIn_app (goodIn_r _ [31, 32, 33, 22] rfl (by decide +kernel)) ggX11_bestPrice_X9_copyFrom
set_option maxRecDepth 20000 in
theorem ggX11_bestPrice_X5_look : GoodIn wsX11_bestPrice wsX5_look := goodIn_r _ [45, 46, 47, 48, 49, 50, 51, 44, 52, 53, 54, 55, 56, 57, 58, 27, 28, 22, 29, 30, 59, 60, 61, 62, 63, 64, 65, 66, 67, 68, 69, 70, 71, 72, 73, 74, 75, 76, 77, 78, 79, 80, 81, 82, 83, 84, 85, 86, 87, 11, 88, 89, 90, 91, 92, 93, 94, 95, 96, 97, 98, 99, 100, 101, 102, 103, 104, 105, 106, 107, 108, 109, 110, 111, 112, 113, 114, 115, 116, 117, 118, 119, 120, 121, 122, 123, 124, 125, 126, 127, 198, 199, 200, 201, 202, 203, 204, 205, 206, 207, 208, 209, 210, 211, 189, 190, 191, 192, 193, 194, 195, 196, 197, 212, 213, 214, 215, 216, 217, 218, 219, 220, 221, 222, 223, 224, 225, 226, 227, 228, 229] rfl (by decide +kernel)
set_option maxRecDepth 20000 in
theorem gX11_bestPrice_X5_look : GoodIn wsX11_bestPrice (wsV RX11 262 RX5 yX5_look wsX5_look) := goodIn_app (goodIn_r _ [41, 42, 43, 44] rfl (by decide +kernel)) ggX11_bestPrice_X5_look
set_option maxRecDepth 20000 in
theorem ggX11_bestPrice_X5_passDays : GoodIn wsX11_bestPrice wsX5_passDays := goodIn_r _ [131, 132, 133, 134, 53, 135, 136, 137, 44, 138, 139, 47, 140, 141, 74, 142, 143, 144, 145, 146, 147, 148, 149, 150, 151, 152, 153, 154, 80, 48, 155, 156, 157, 158, 159, 54, 160, 161, 162, 163, 164, 81, 165, 166, 167, 168, 55, 169, 170, 171, 172, 198, 199, 200, 201, 202, 203, 204, 205, 206, 207, 208, 209, 210, 211, 219, 220, 221, 222, 223, 224, 225, 226, 227, 228, 229, 189, 190, 191, 192, 193, 194, 195, 196, 197] rfl (by decide +kernel)
set_option maxRecDepth 20000 in
theorem gX11_bestPrice_X5_passDays : GoodIn wsX11_bestPrice (wsV RX11 289 RX5 yX5_passDays wsX5_passDays) := goodIn_app (goodIn_r _ [128, 129, 130, 44] rfl (by decide +kernel)) ggX11_bestPrice_X5_passDays
set_option maxRecDepth 20000 in
theorem ggX11_seen_X11_seenRefusal : GoodIn wsX11_seen wsX11_seenRefusal := goodIn_r _ [11, 5, 12, 13, 14, 10, 15, 16, 17, 18, 19, 20, 21, 22, 23, 24, 25, 26, 27, 28, 29, 30, 31, 32, 33, 34, 35, 36, 37, 38, 39, 40, 41, 42, 43, 44, 45, 46, 2, 47, 48, 3, 49, 160, 161, 162, 163, 164, 165, 166, 167, 168, 169, 170, 171, 172, 173, 174, 175, 181, 182, 183, 184, 185, 186, 187, 188, 189, 190, 191, 192, 193, 194, 195, 196, 197, 198, 199, 200, 201, 202, 203] rfl (by decide +kernel)
set_option maxRecDepth 20000 in
theorem gX11_seen_X11_seenRefusal : GoodIn wsX11_seen (wsV RX11 344 RX11 yX11_seenRefusal wsX11_seenRefusal) := goodIn_app (goodIn_r _ [7, 8, 9, 10] rfl (by decide +kernel)) ggX11_seen_X11_seenRefusal
set_option maxRecDepth 20000 in
theorem ggX11_seen_X5_lookEverywhere : GoodIn wsX11_seen wsX5_lookEverywhere := goodIn_r _ [54, 55, 56, 57, 58, 59, 53, 60, 61, 62, 63, 64, 65, 66, 67, 68, 69, 70, 71, 72, 73, 74, 75, 76, 77, 78, 79, 80, 81, 82, 83, 84, 85, 86, 87, 88, 89, 90, 91, 92, 93, 94, 95, 96, 97, 30, 31, 32, 98, 99, 100, 101, 102, 103, 104, 105, 106, 107, 108, 109, 110, 111, 112, 113, 114, 115, 116, 117, 118, 119, 120, 121, 122, 123, 124, 125, 126, 127, 128, 129, 130, 131, 132, 133, 134, 135, 136, 195, 196, 197, 198, 199, 200, 201, 202, 203, 204, 205, 206, 207, 208, 209, 210, 211, 212, 213, 214, 215, 216, 217, 218, 219, 220, 221, 222, 223, 224, 184, 185, 186, 187, 188, 189, 190, 191, 192, 193, 194] rfl (by decide +kernel)
set_option maxRecDepth 20000 in
theorem gX11_seen_X5_lookEverywhere : GoodIn wsX11_seen (wsV RX11 347 RX5 yX5_lookEverywhere wsX5_lookEverywhere) := goodIn_app (goodIn_r _ [50, 51, 52, 53] rfl (by decide +kernel)) ggX11_seen_X5_lookEverywhere
set_option maxRecDepth 20000 in
theorem ggX11_seen_X0_gather : GoodIn wsX11_seen wsX0_gather := goodIn_r _ [141, 142, 143, 144, 145, 146, 147, 148, 53, 149, 56, 150, 151, 152, 140, 153, 154, 26, 27, 22, 28, 24, 29, 30, 31, 32, 155, 34, 35, 36, 37, 38, 39, 40, 41, 156, 157, 158, 159, 92, 176, 177, 178, 179, 180, 204, 205, 206, 207, 208, 209, 210, 211, 212, 213, 214, 215, 216, 217, 181, 182, 183] rfl (by decide +kernel)
set_option maxRecDepth 20000 in
theorem gX11_seen_X0_gather : GoodIn wsX11_seen (wsV RX11 350 RX0 yX0_gather wsX0_gather) := goodIn_app (goodIn_r _ [137, 138, 139, 140] rfl (by decide +kernel)) ggX11_seen_X0_gather
set_option maxRecDepth 20000 in
theorem ggX11_sureGone_X11_seenRefusal : GoodIn wsX11_sureGone wsX11_seenRefusal := goodIn_r _ [12, 5, 13, 14, 15, 11, 16, 17, 18, 19, 20, 21, 22, 23, 24, 25, 26, 27, 28, 29, 30, 31, 32, 33, 34, 35, 36, 37, 38, 39, 40, 41, 42, 43, 44, 45, 46, 47, 2, 48, 49, 3, 50, 161, 162, 163, 164, 165, 166, 167, 168, 169, 170, 171, 172, 173, 174, 175, 176, 182, 183, 184, 185, 186, 187, 188, 189, 190, 191, 192, 193, 194, 195, 196, 197, 198, 199, 200, 201, 202, 203, 204] rfl (by decide +kernel)
set_option maxRecDepth 20000 in
theorem gX11_sureGone_X11_seenRefusal : GoodIn wsX11_sureGone (wsV RX11 344 RX11 yX11_seenRefusal wsX11_seenRefusal) := goodIn_app (goodIn_r _ [8, 9, 10, 11] rfl (by decide +kernel)) ggX11_sureGone_X11_seenRefusal
set_option maxRecDepth 20000 in
theorem ggX11_sureGone_X5_lookEverywhere : GoodIn wsX11_sureGone wsX5_lookEverywhere := goodIn_r _ [55, 56, 57, 58, 59, 60, 54, 61, 62, 63, 64, 65, 66, 67, 68, 69, 70, 71, 72, 73, 74, 75, 76, 77, 78, 79, 80, 81, 82, 83, 84, 85, 86, 87, 88, 89, 90, 91, 92, 93, 94, 95, 96, 97, 98, 31, 32, 33, 99, 100, 101, 102, 103, 104, 105, 106, 107, 108, 109, 110, 111, 112, 113, 114, 115, 116, 117, 118, 119, 120, 121, 122, 123, 124, 125, 126, 127, 128, 129, 130, 131, 132, 133, 134, 135, 136, 137, 196, 197, 198, 199, 200, 201, 202, 203, 204, 205, 206, 207, 208, 209, 210, 211, 212, 213, 214, 215, 216, 217, 218, 219, 220, 221, 222, 223, 224, 225, 185, 186, 187, 188, 189, 190, 191, 192, 193, 194, 195] rfl (by decide +kernel)
set_option maxRecDepth 20000 in
theorem gX11_sureGone_X5_lookEverywhere : GoodIn wsX11_sureGone (wsV RX11 347 RX5 yX5_lookEverywhere wsX5_lookEverywhere) := goodIn_app (goodIn_r _ [51, 52, 53, 54] rfl (by decide +kernel)) ggX11_sureGone_X5_lookEverywhere
set_option maxRecDepth 20000 in
theorem ggX11_sureGone_X0_gather : GoodIn wsX11_sureGone wsX0_gather := goodIn_r _ [142, 143, 144, 145, 146, 147, 148, 149, 54, 150, 57, 151, 152, 153, 141, 154, 155, 27, 28, 23, 29, 25, 30, 31, 32, 33, 156, 35, 36, 37, 38, 39, 40, 41, 42, 157, 158, 159, 160, 93, 177, 178, 179, 180, 181, 205, 206, 207, 208, 209, 210, 211, 212, 213, 214, 215, 216, 217, 218, 182, 183, 184] rfl (by decide +kernel)
set_option maxRecDepth 20000 in
theorem gX11_sureGone_X0_gather : GoodIn wsX11_sureGone (wsV RX11 350 RX0 yX0_gather wsX0_gather) := goodIn_app (goodIn_r _ [138, 139, 140, 141] rfl (by decide +kernel)) ggX11_sureGone_X0_gather
set_option maxRecDepth 20000 in
theorem ggX11_ask_X11_seenRefusal : GoodIn wsX11_ask wsX11_seenRefusal := goodIn_r _ [11, 5, 12, 13, 14, 10, 15, 16, 17, 18, 19, 20, 21, 22, 23, 24, 25, 26, 27, 28, 29, 30, 31, 32, 33, 34, 35, 36, 37, 38, 39, 40, 41, 42, 43, 44, 45, 46, 2, 47, 48, 3, 49, 178, 179, 180, 181, 182, 183, 184, 185, 186, 187, 188, 189, 190, 191, 192, 193, 199, 200, 201, 202, 203, 204, 205, 206, 207, 208, 209, 210, 211, 212, 213, 214, 215, 216, 217, 218, 219, 220, 221] rfl (by decide +kernel)
set_option maxRecDepth 20000 in
theorem gX11_ask_X11_seenRefusal : GoodIn wsX11_ask (wsV RX11 344 RX11 yX11_seenRefusal wsX11_seenRefusal) := goodIn_app (goodIn_r _ [7, 8, 9, 10] rfl (by decide +kernel)) ggX11_ask_X11_seenRefusal
set_option maxRecDepth 20000 in
theorem ggX11_ask_X5_lookEverywhere : GoodIn wsX11_ask wsX5_lookEverywhere := goodIn_r _ [54, 55, 56, 57, 58, 59, 53, 60, 61, 62, 63, 64, 65, 66, 67, 68, 69, 70, 71, 72, 73, 74, 75, 76, 77, 78, 79, 80, 81, 82, 83, 84, 85, 86, 87, 88, 89, 90, 91, 92, 93, 94, 95, 96, 97, 30, 31, 32, 98, 99, 100, 101, 102, 103, 104, 105, 106, 107, 108, 109, 110, 111, 112, 113, 114, 115, 116, 117, 118, 119, 120, 121, 122, 123, 124, 125, 126, 127, 128, 129, 130, 131, 132, 133, 134, 135, 136, 213, 214, 215, 216, 217, 218, 219, 220, 221, 222, 223, 224, 225, 226, 227, 228, 229, 230, 231, 232, 233, 234, 235, 236, 237, 238, 239, 240, 241, 242, 202, 203, 204, 205, 206, 207, 208, 209, 210, 211, 212] rfl (by decide +kernel)
set_option maxRecDepth 20000 in
theorem gX11_ask_X5_lookEverywhere : GoodIn wsX11_ask (wsV RX11 347 RX5 yX5_lookEverywhere wsX5_lookEverywhere) := goodIn_app (goodIn_r _ [50, 51, 52, 53] rfl (by decide +kernel)) ggX11_ask_X5_lookEverywhere
set_option maxRecDepth 20000 in
theorem ggX11_ask_X0_gather : GoodIn wsX11_ask wsX0_gather := goodIn_r _ [141, 142, 143, 144, 145, 146, 147, 148, 53, 149, 56, 150, 151, 152, 140, 153, 154, 26, 27, 22, 28, 24, 29, 30, 31, 32, 155, 34, 35, 36, 37, 38, 39, 40, 41, 156, 157, 158, 159, 92, 194, 195, 196, 197, 198, 222, 223, 224, 225, 226, 227, 228, 229, 230, 231, 232, 233, 234, 235, 199, 200, 201] rfl (by decide +kernel)
set_option maxRecDepth 20000 in
theorem gX11_ask_X0_gather : GoodIn wsX11_ask (wsV RX11 350 RX0 yX0_gather wsX0_gather) := goodIn_app (goodIn_r _ [137, 138, 139, 140] rfl (by decide +kernel)) ggX11_ask_X0_gather
set_option maxRecDepth 20000 in
theorem ggX11_ask_X0_mostTelling : GoodIn wsX11_ask wsX0_mostTelling := goodIn_r _ [163, 143, 164, 165, 166, 53, 167, 61, 91, 168, 169, 170, 140, 171, 172, 145, 173, 30, 31, 32, 174, 175, 176, 177, 146, 147, 148, 149, 56, 156, 157, 158, 159, 92, 194, 195, 196, 197, 198, 222, 223, 224, 225, 226, 227, 228, 229, 230, 231, 232, 233, 234, 235, 202, 203, 204, 205, 206, 207, 208, 209, 210, 211, 212] rfl (by decide +kernel)
set_option maxRecDepth 20000 in
theorem gX11_ask_X0_mostTelling : GoodIn wsX11_ask (wsV RX11 360 RX0 yX0_mostTelling wsX0_mostTelling) := goodIn_app (goodIn_r _ [160, 161, 162, 140] rfl (by decide +kernel)) ggX11_ask_X0_mostTelling
set_option maxRecDepth 20000 in
theorem ggX11_seenRefusal_X11_trayRefusal : GoodIn wsX11_seenRefusal wsX11_trayRefusal := goodIn_r _ [6, 1, 7, 8, 5, 9, 10, 11, 12, 13, 14, 15, 43, 44, 45, 46, 47, 48, 49, 50, 51, 52, 53, 54, 55, 56, 57, 58, 59, 60, 61] rfl (by decide +kernel)
set_option maxRecDepth 20000 in
theorem gX11_seenRefusal_X11_trayRefusal : GoodIn wsX11_seenRefusal (wsV RX11 255 RX11 yX11_trayRefusal wsX11_trayRefusal) := goodIn_app (goodIn_r _ [2, 3, 4, 5] rfl (by decide +kernel)) ggX11_seenRefusal_X11_trayRefusal
set_option maxRecDepth 20000 in
theorem ggX11_seenRefusal_X10_size : GoodIn wsX11_seenRefusal wsX10_size := goodIn_r _ [19, 15, 20, 21, 22, 23, 59, 60, 61] rfl (by decide +kernel)
set_option maxRecDepth 20000 in
theorem gX11_seenRefusal_X10_size : GoodIn wsX11_seenRefusal (wsV RX11 239 RX10 yX10_size wsX10_size) := goodIn_app (goodIn_r _ [16, 17, 18, 13] rfl (by decide +kernel)) ggX11_seenRefusal_X10_size
set_option maxRecDepth 20000 in
theorem ggX11_seenRefusal_X10_numberAt : GoodIn wsX11_seenRefusal wsX10_numberAt := goodIn_r _ [27, 28, 29, 30, 31, 13, 32, 15, 59, 60, 61] rfl (by decide +kernel)
set_option maxRecDepth 20000 in
theorem gX11_seenRefusal_X10_numberAt : GoodIn wsX11_seenRefusal (wsV RX11 242 RX10 yX10_numberAt wsX10_numberAt) := goodIn_app (goodIn_r _ [24, 25, 26, 13] rfl (by decide +kernel)) ggX11_seenRefusal_X10_numberAt
set_option maxRecDepth 20000 in
theorem ggX11_seenRefusal_X11_isSight : GoodIn wsX11_seenRefusal wsX11_isSight := goodIn_r _ [36, 37, 38, 39, 40, 41, 42, 43, 44, 45, 46, 47, 48, 49, 50, 51, 52, 53, 54, 55, 56, 57, 58, 62, 63, 64, 65, 66, 67, 68, 69, 70, 71, 72, 73, 74, 75, 76, 77, 78, 79, 80, 81] rfl (by decide +kernel)
set_option maxRecDepth 20000 in
theorem gX11_seenRefusal_X11_isSight : GoodIn wsX11_seenRefusal (wsV RX11 363 RX11 yX11_isSight wsX11_isSight) := goodIn_app (goodIn_r _ [33, 34, 35, 5] rfl (by decide +kernel)) ggX11_seenRefusal_X11_isSight
set_option maxRecDepth 20000 in
theorem ggX11_came_X11_cameRefusal : GoodIn wsX11_came wsX11_cameRefusal := goodIn_r _ [11, 6, 12, 3, 13, 14, 15, 16, 10, 17, 18, 19, 20, 21, 22, 23, 24, 25, 26, 27, 28, 29, 30, 31, 32, 33, 34, 35, 36, 37, 38, 39, 40, 41, 42, 43, 167, 168, 169, 170, 171, 172, 173, 174, 175, 176, 177, 178, 179, 180, 181, 182, 183, 184, 185, 186, 187, 188, 189, 190, 191, 192, 193, 194] rfl (by decide +kernel)
set_option maxRecDepth 20000 in
theorem gX11_came_X11_cameRefusal : GoodIn wsX11_came (wsV RX11 369 RX11 yX11_cameRefusal wsX11_cameRefusal) := goodIn_app (goodIn_r _ [7, 8, 9, 10] rfl (by decide +kernel)) ggX11_came_X11_cameRefusal
set_option maxRecDepth 20000 in
theorem ggX11_came_X5_look : GoodIn wsX11_came wsX5_look := goodIn_r _ [48, 49, 50, 51, 52, 53, 54, 47, 55, 56, 57, 58, 59, 60, 61, 62, 63, 64, 65, 66, 67, 68, 69, 70, 71, 72, 73, 74, 75, 76, 77, 78, 79, 80, 81, 82, 83, 84, 85, 86, 87, 88, 89, 90, 91, 92, 93, 94, 32, 33, 34, 95, 96, 97, 98, 99, 100, 101, 102, 103, 104, 105, 106, 107, 108, 109, 110, 111, 112, 113, 114, 115, 116, 117, 118, 119, 120, 121, 122, 123, 124, 125, 126, 127, 128, 129, 130, 131, 132, 133, 195, 196, 197, 198, 199, 200, 201, 202, 203, 204, 205, 206, 207, 208, 183, 184, 185, 186, 187, 188, 189, 190, 191, 209, 210, 211, 212, 213, 214, 215, 216, 217, 218, 219, 220, 221, 222, 223, 224, 225, 226] rfl (by decide +kernel)
set_option maxRecDepth 20000 in
theorem gX11_came_X5_look : GoodIn wsX11_came (wsV RX11 262 RX5 yX5_look wsX5_look) := goodIn_app (goodIn_r _ [44, 45, 46, 47] rfl (by decide +kernel)) ggX11_came_X5_look
set_option maxRecDepth 20000 in
theorem ggX11_came_X0_rows : GoodIn wsX11_came wsX0_rows := goodIn_r _ [138, 139, 140, 141, 142, 47, 143, 144, 50, 145, 146, 82, 147, 148, 28, 29, 24, 30, 26, 31, 32, 33, 34, 149, 36, 37, 38, 39, 40, 41, 42, 43, 150, 151, 152, 153, 154, 51, 56, 88, 155, 156, 157, 158, 89, 159, 160, 161, 162, 163, 164, 165, 166, 227, 228, 229, 230, 231, 195, 196, 197, 198, 199, 200, 201, 202, 203, 204, 205, 206, 207, 208, 192, 193, 194, 216, 217, 218, 219, 220, 221, 222, 223, 224, 225, 226] rfl (by decide +kernel)
set_option maxRecDepth 20000 in
theorem gX11_came_X0_rows : GoodIn wsX11_came (wsV RX11 372 RX0 yX0_rows wsX0_rows) := goodIn_app (goodIn_r _ [134, 135, 136, 137] rfl (by decide +kernel)) ggX11_came_X0_rows
set_option maxRecDepth 20000 in
theorem ggX11_who_X11_cameRefusal : GoodIn wsX11_who wsX11_cameRefusal := goodIn_r _ [11, 1, 12, 4, 13, 14, 15, 16, 10, 17, 18, 19, 20, 21, 22, 23, 24, 25, 26, 27, 28, 29, 30, 31, 32, 33, 34, 35, 36, 37, 38, 39, 40, 41, 42, 43, 191, 192, 193, 194, 195, 196, 197, 198, 199, 200, 201, 202, 203, 204, 205, 206, 207, 208, 209, 210, 211, 212, 213, 214, 215, 216, 217, 218] rfl (by decide +kernel)
set_option maxRecDepth 20000 in
theorem gX11_who_X11_cameRefusal : GoodIn wsX11_who (wsV RX11 369 RX11 yX11_cameRefusal wsX11_cameRefusal) := goodIn_app (goodIn_r _ [7, 8, 9, 10] rfl (by decide +kernel)) ggX11_who_X11_cameRefusal
set_option maxRecDepth 20000 in
theorem ggX11_who_X10_has : GoodIn wsX11_who wsX10_has := goodIn_r _ [43, 26, 216, 217, 218] rfl (by decide +kernel)
set_option maxRecDepth 20000 in
theorem gX11_who_X10_has : GoodIn wsX11_who (wsV RX11 376 RX10 yX10_has wsX10_has) := goodIn_app (goodIn_r _ [44, 41, 42, 24] rfl (by decide +kernel)) ggX11_who_X10_has
set_option maxRecDepth 20000 in
theorem ggX11_who_X5_look : GoodIn wsX11_who wsX5_look := goodIn_r _ [49, 50, 51, 52, 53, 54, 55, 48, 56, 57, 58, 59, 60, 61, 62, 63, 64, 65, 66, 67, 68, 69, 70, 71, 72, 73, 74, 75, 76, 77, 78, 79, 80, 81, 82, 83, 84, 85, 86, 87, 88, 89, 90, 91, 92, 93, 94, 95, 32, 33, 34, 96, 97, 98, 99, 100, 101, 102, 103, 104, 105, 106, 107, 108, 109, 110, 111, 112, 113, 114, 115, 116, 117, 118, 119, 120, 121, 122, 123, 124, 125, 126, 127, 128, 129, 130, 131, 132, 133, 134, 219, 220, 221, 222, 223, 224, 225, 226, 227, 228, 229, 230, 231, 232, 207, 208, 209, 210, 211, 212, 213, 214, 215, 233, 234, 235, 236, 237, 238, 239, 240, 241, 242, 243, 244, 245, 246, 247, 248, 249, 250] rfl (by decide +kernel)
set_option maxRecDepth 20000 in
theorem gX11_who_X5_look : GoodIn wsX11_who (wsV RX11 262 RX5 yX5_look wsX5_look) := goodIn_app (goodIn_r _ [45, 46, 47, 48] rfl (by decide +kernel)) ggX11_who_X5_look
set_option maxRecDepth 20000 in
theorem ggX11_who_X0_comers : GoodIn wsX11_who wsX0_comers := goodIn_r _ [139, 140, 141, 142, 82, 83, 84, 143, 28, 29, 24, 30, 26, 31, 32, 33, 34, 144, 36, 37, 38, 39, 40, 41, 42, 43, 145, 146, 147, 138, 148, 149, 150, 151, 48, 152, 52, 153, 154, 155, 156, 50, 157, 158, 159, 160, 161, 162, 163, 164, 57, 89, 165, 166, 167, 168, 90, 169, 170, 171, 172, 173, 51, 174, 175, 176, 177, 178, 179, 180, 181, 182, 183, 184, 185, 186, 187, 188, 189, 190, 251, 252, 253, 254, 255, 216, 217, 218, 219, 220, 221, 222, 223, 224, 225, 226, 227, 228, 229, 230, 231, 232, 240, 241, 242, 243, 244, 245, 246, 247, 248, 249, 250] rfl (by decide +kernel)
set_option maxRecDepth 20000 in
theorem gX11_who_X0_comers : GoodIn wsX11_who (wsV RX11 379 RX0 yX0_comers wsX0_comers) := goodIn_app (goodIn_r _ [135, 136, 137, 138] rfl (by decide +kernel)) ggX11_who_X0_comers
set_option maxRecDepth 20000 in
theorem ggX11_cameRefusal_X11_trayRefusal : GoodIn wsX11_cameRefusal wsX11_trayRefusal := goodIn_r _ [9, 1, 10, 11, 8, 12, 13, 14, 15, 16, 17, 18, 36, 37, 38, 39, 40, 41, 42, 43, 44, 45, 46, 47, 48, 49, 50, 51, 61, 62, 63] rfl (by decide +kernel)
set_option maxRecDepth 20000 in
theorem gX11_cameRefusal_X11_trayRefusal : GoodIn wsX11_cameRefusal (wsV RX11 255 RX11 yX11_trayRefusal wsX11_trayRefusal) := goodIn_app (goodIn_r _ [5, 6, 7, 8] rfl (by decide +kernel)) ggX11_cameRefusal_X11_trayRefusal
set_option maxRecDepth 20000 in
theorem ggX11_cameRefusal_X10_size : GoodIn wsX11_cameRefusal wsX10_size := goodIn_r _ [22, 18, 23, 24, 25, 26, 61, 62, 63] rfl (by decide +kernel)
set_option maxRecDepth 20000 in
theorem gX11_cameRefusal_X10_size : GoodIn wsX11_cameRefusal (wsV RX11 239 RX10 yX10_size wsX10_size) := goodIn_app (goodIn_r _ [19, 20, 21, 16] rfl (by decide +kernel)) ggX11_cameRefusal_X10_size
set_option maxRecDepth 20000 in
theorem ggX11_cameRefusal_X10_numberAt : GoodIn wsX11_cameRefusal wsX10_numberAt := goodIn_r _ [30, 31, 32, 33, 34, 16, 35, 18, 61, 62, 63] rfl (by decide +kernel)
set_option maxRecDepth 20000 in
theorem gX11_cameRefusal_X10_numberAt : GoodIn wsX11_cameRefusal (wsV RX11 242 RX10 yX10_numberAt wsX10_numberAt) := goodIn_app (goodIn_r _ [27, 28, 29, 16] rfl (by decide +kernel)) ggX11_cameRefusal_X10_numberAt
set_option maxRecDepth 20000 in
theorem ggX11_trayRefusal_X11_isTray : GoodIn wsX11_trayRefusal wsX11_isTray := goodIn_r _ [5] rfl (by decide +kernel)
set_option maxRecDepth 20000 in
theorem gX11_trayRefusal_X11_isTray : GoodIn wsX11_trayRefusal (va_wsS RX11 232 yX11_isTray wsX11_isTray) := goodIn_app (goodIn_r _ [2, 3, 4] rfl (by decide +kernel)) ggX11_trayRefusal_X11_isTray
set_option maxRecDepth 20000 in
theorem ggX11_trayRefusal_X10_isMissing : GoodIn wsX11_trayRefusal wsX10_isMissing := goodIn_r _ [10, 11, 28, 29, 30] rfl (by decide +kernel)
set_option maxRecDepth 20000 in
theorem gX11_trayRefusal_X10_isMissing : GoodIn wsX11_trayRefusal (wsV RX11 235 RX10 yX10_isMissing wsX10_isMissing) := goodIn_app (goodIn_r _ [6, 7, 8, 9] rfl (by decide +kernel)) ggX11_trayRefusal_X10_isMissing
set_option maxRecDepth 20000 in
theorem ggX11_numbers_X11_isTray : GoodIn wsX11_numbers wsX11_isTray := goodIn_r _ [5] rfl (by decide +kernel)
set_option maxRecDepth 20000 in
theorem gX11_numbers_X11_isTray : GoodIn wsX11_numbers (va_wsS RX11 232 yX11_isTray wsX11_isTray) := goodIn_app (goodIn_r _ [2, 3, 4] rfl (by decide +kernel)) ggX11_numbers_X11_isTray
set_option maxRecDepth 20000 in
theorem ggX11_numbers_X10_layOut : GoodIn wsX11_numbers wsX10_layOut := goodIn_r _ [10, 11, 12, 13, 14, 15, 16, 17, 34, 35, 36] rfl (by decide +kernel)
set_option maxRecDepth 20000 in
theorem gX11_numbers_X10_layOut : GoodIn wsX11_numbers (wsV RX11 383 RX10 yX10_layOut wsX10_layOut) := goodIn_app (goodIn_r _ [6, 7, 8, 9] rfl (by decide +kernel)) ggX11_numbers_X10_layOut
set_option maxRecDepth 20000 in
theorem ggX11_write_X11_trayRefusal : GoodIn wsX11_write wsX11_trayRefusal := goodIn_r _ [7, 1, 8, 9, 6, 10, 11, 12, 13, 14, 15, 16, 36, 37, 38, 39, 40, 41, 42, 43, 44, 45, 46, 47, 48, 49, 50, 51, 52, 53, 54] rfl (by decide +kernel)
set_option maxRecDepth 20000 in
theorem gX11_write_X11_trayRefusal : GoodIn wsX11_write (wsV RX11 255 RX11 yX11_trayRefusal wsX11_trayRefusal) := goodIn_app (goodIn_r _ [3, 4, 5, 6] rfl (by decide +kernel)) ggX11_write_X11_trayRefusal
set_option maxRecDepth 20000 in
theorem ggX11_write_X10_has : GoodIn wsX11_write wsX10_has := goodIn_r _ [20, 16, 52, 53, 54] rfl (by decide +kernel)
set_option maxRecDepth 20000 in
theorem gX11_write_X10_has : GoodIn wsX11_write (wsV RX11 376 RX10 yX10_has wsX10_has) := goodIn_app (goodIn_r _ [17, 18, 19, 14] rfl (by decide +kernel)) ggX11_write_X10_has
set_option maxRecDepth 20000 in
theorem ggX11_write_X10_put : GoodIn wsX11_write wsX10_put := goodIn_r _ [24, 25, 26, 18, 19, 14, 20, 16, 27, 28, 29, 30, 31, 52, 53, 54] rfl (by decide +kernel)
set_option maxRecDepth 20000 in
theorem gX11_write_X10_put : GoodIn wsX11_write (wsV RX11 389 RX10 yX10_put wsX10_put) := goodIn_app (goodIn_r _ [21, 22, 23, 14] rfl (by decide +kernel)) ggX11_write_X10_put
set_option maxRecDepth 20000 in
theorem ggX11_write_X10_numberAt : GoodIn wsX11_write wsX10_numberAt := goodIn_r _ [35, 25, 26, 18, 19, 14, 20, 16, 52, 53, 54] rfl (by decide +kernel)
set_option maxRecDepth 20000 in
theorem gX11_write_X10_numberAt : GoodIn wsX11_write (wsV RX11 242 RX10 yX10_numberAt wsX10_numberAt) := goodIn_app (goodIn_r _ [32, 33, 34, 14] rfl (by decide +kernel)) ggX11_write_X10_numberAt
set_option maxRecDepth 20000 in
theorem ggX11_lists_X11_trayRefusal : GoodIn wsX11_lists wsX11_trayRefusal := goodIn_r _ [14, 5, 15, 16, 13, 17, 18, 19, 20, 21, 22, 23, 164, 165, 166, 167, 168, 169, 170, 171, 172, 173, 174, 175, 176, 177, 178, 179, 189, 190, 191] rfl (by decide +kernel)
set_option maxRecDepth 20000 in
theorem gX11_lists_X11_trayRefusal : GoodIn wsX11_lists (wsV RX11 255 RX11 yX11_trayRefusal wsX11_trayRefusal) := goodIn_app (goodIn_r _ [10, 11, 12, 13] rfl (by decide +kernel)) ggX11_lists_X11_trayRefusal
set_option maxRecDepth 20000 in
theorem ggX11_lists_X5_look : GoodIn wsX11_lists wsX5_look := goodIn_r _ [28, 29, 30, 31, 32, 33, 34, 27, 35, 36, 37, 38, 39, 40, 41, 42, 43, 44, 45, 46, 47, 48, 49, 50, 51, 52, 53, 54, 55, 56, 57, 58, 59, 60, 61, 62, 63, 64, 65, 66, 67, 68, 69, 70, 71, 72, 73, 74, 75, 8, 76, 77, 78, 79, 80, 81, 82, 83, 84, 85, 86, 87, 88, 89, 90, 91, 92, 93, 94, 95, 96, 97, 98, 99, 100, 101, 102, 103, 104, 105, 106, 107, 108, 109, 110, 111, 112, 113, 114, 115, 192, 193, 194, 195, 196, 197, 198, 199, 200, 201, 202, 203, 204, 205, 180, 181, 182, 183, 184, 185, 186, 187, 188, 206, 207, 208, 209, 210, 211, 212, 213, 214, 215, 216, 217, 218, 219, 220, 221, 222, 223] rfl (by decide +kernel)
set_option maxRecDepth 20000 in
theorem gX11_lists_X5_look : GoodIn wsX11_lists (wsV RX11 262 RX5 yX5_look wsX5_look) := goodIn_app (goodIn_r _ [24, 25, 26, 27] rfl (by decide +kernel)) ggX11_lists_X5_look
set_option maxRecDepth 20000 in
theorem ggX11_lists_X5_shortest : GoodIn wsX11_lists wsX5_shortest := goodIn_r _ [119, 36, 68, 120, 121, 122, 27, 123, 31, 30, 29, 124, 125, 126, 127, 128, 38, 129, 130, 131, 132, 133, 134, 135, 136, 69, 192, 193, 194, 195, 196, 197, 198, 199, 200, 201, 202, 203, 204, 205, 213, 214, 215, 216, 217, 218, 219, 220, 221, 222, 223] rfl (by decide +kernel)
set_option maxRecDepth 20000 in
theorem gX11_lists_X5_shortest : GoodIn wsX11_lists (wsV RX11 266 RX5 yX5_shortest wsX5_shortest) := goodIn_app (goodIn_r _ [116, 117, 118, 27] rfl (by decide +kernel)) ggX11_lists_X5_shortest
set_option maxRecDepth 20000 in
theorem ggX11_lists_X10_size : GoodIn wsX11_lists wsX10_size := goodIn_r _ [140, 23, 141, 75, 8, 76, 189, 190, 191] rfl (by decide +kernel)
set_option maxRecDepth 20000 in
theorem gX11_lists_X10_size : GoodIn wsX11_lists (wsV RX11 239 RX10 yX10_size wsX10_size) := goodIn_app (goodIn_r _ [137, 138, 139, 21] rfl (by decide +kernel)) ggX11_lists_X10_size
set_option maxRecDepth 20000 in
theorem ggX11_lists_X5_comerAt : GoodIn wsX11_lists wsX5_comerAt := goodIn_r _ [145, 30, 146, 147, 148, 27, 149, 36, 68, 124, 133, 134, 135, 136, 69, 192, 193, 194, 195, 196, 197, 198, 199, 200, 201, 202, 203, 204, 205, 213, 214, 215, 216, 217, 218, 219, 220, 221, 222, 223] rfl (by decide +kernel)
set_option maxRecDepth 20000 in
theorem gX11_lists_X5_comerAt : GoodIn wsX11_lists (wsV RX11 269 RX5 yX5_comerAt wsX5_comerAt) := goodIn_app (goodIn_r _ [142, 143, 144, 27] rfl (by decide +kernel)) ggX11_lists_X5_comerAt
set_option maxRecDepth 20000 in
theorem ggX11_lists_X10_put : GoodIn wsX11_lists wsX10_put := goodIn_r _ [153, 154, 155, 156, 157, 21, 158, 23, 159, 160, 161, 162, 163, 189, 190, 191] rfl (by decide +kernel)
set_option maxRecDepth 20000 in
theorem gX11_lists_X10_put : GoodIn wsX11_lists (wsV RX11 389 RX10 yX10_put wsX10_put) := goodIn_app (goodIn_r _ [150, 151, 152, 21] rfl (by decide +kernel)) ggX11_lists_X10_put
set_option maxRecDepth 20000 in
theorem ggX11_image_X7_copyFrom : GoodIn wsX11_image wsX7_copyFrom := goodIn_r _ [11, 12, 13, 14, 15, 16, 17, 18, 19, 20, 21, 22, 56, 57, 58, 59, 60, 61, 62, 63, 64, 65, 66] rfl (by decide +kernel)
set_option maxRecDepth 20000 in
theorem gX11_image_X7_copyFrom : GoodIn wsX11_image (wsV RX11 398 RX7 yX7_copyFrom wsX7_copyFrom) := goodIn_app (goodIn_r _ [7, 8, 9, 10] rfl (by decide +kernel)) ggX11_image_X7_copyFrom
set_option maxRecDepth 20000 in
theorem ggX11_image_X9_copyFrom : GoodIn wsX11_image wsX9_copyFrom := goodIn_r _ [27, 28, 29, 30, 31, 32, 33, 34, 35, 36, 67, 68, 69, 70, 71, 72, 73, 74, 75] rfl (by decide +kernel)
set_option maxRecDepth 20000 in
theorem gX11_image_X9_copyFrom : GoodIn wsX11_image (wsV RX11 124 RX9 yX9_copyFrom wsX9_copyFrom) := goodIn_app (goodIn_r _ [23, 24, 25, 26] rfl (by decide +kernel)) ggX11_image_X9_copyFrom
set_option maxRecDepth 20000 in
theorem ggX11_restore_X7_copyFrom : GoodIn wsX11_restore wsX7_copyFrom := goodIn_r _ [11, 12, 13, 14, 15, 16, 17, 18, 19, 20, 21, 22, 79, 80, 81, 82, 83, 84, 85, 86, 87, 88, 89] rfl (by decide +kernel)
set_option maxRecDepth 20000 in
theorem gX11_restore_X7_copyFrom : GoodIn wsX11_restore (wsV RX11 398 RX7 yX7_copyFrom wsX7_copyFrom) := goodIn_app (goodIn_r _ [7, 8, 9, 10] rfl (by decide +kernel)) ggX11_restore_X7_copyFrom
set_option maxRecDepth 20000 in
theorem ggX11_restore_X9_copyFrom : GoodIn wsX11_restore wsX9_copyFrom := goodIn_r _ [27, 28, 29, 30, 31, 32, 33, 34, 35, 36, 90, 91, 92, 93, 94, 95, 96, 97, 98] rfl (by decide +kernel)
set_option maxRecDepth 20000 in
theorem gX11_restore_X9_copyFrom : GoodIn wsX11_restore (wsV RX11 124 RX9 yX9_copyFrom wsX9_copyFrom) := goodIn_app (goodIn_r _ [23, 24, 25, 26] rfl (by decide +kernel)) ggX11_restore_X9_copyFrom
set_option maxRecDepth 20000 in
theorem ggX11_restore_X11_beginAnew : GoodIn wsX11_restore wsX11_beginAnew := goodIn_r _ [41, 42, 43, 44, 45, 46, 47, 48, 49, 50, 51, 52, 53, 54, 55, 56, 57, 58, 59, 60, 61, 62, 63, 64, 65, 66, 67, 68, 69, 70, 71, 72, 73, 74, 75, 99, 100, 101, 102, 103, 104, 105, 106, 107, 108] rfl (by decide +kernel)
set_option maxRecDepth 20000 in
theorem gX11_restore_X11_beginAnew : GoodIn wsX11_restore (wsV RX11 128 RX11 yX11_beginAnew wsX11_beginAnew) := goodIn_app (goodIn_r _ [37, 38, 39, 40] rfl (by decide +kernel)) ggX11_restore_X11_beginAnew
set_option maxRecDepth 20000 in
theorem ggX11_count_X9_isShut : GoodIn wsX11_count wsX9_isShut := goodIn_r _ [18, 19, 20, 21, 22, 23, 17, 24, 25, 49, 50, 51, 52, 53, 54, 55, 56, 57] rfl (by decide +kernel)
set_option maxRecDepth 20000 in
theorem gX11_count_X9_isShut : GoodIn wsX11_count (wsV RX11 320 RX9 yX9_isShut wsX9_isShut) := goodIn_app (goodIn_r _ [14, 15, 16, 17] rfl (by decide +kernel)) ggX11_count_X9_isShut
set_option maxRecDepth 20000 in
theorem ggX11_count_X7_together : GoodIn wsX11_count wsX7_together := goodIn_r _ [30, 31, 32, 58, 59, 60, 61, 62, 63, 64, 65, 66, 67, 68] rfl (by decide +kernel)
set_option maxRecDepth 20000 in
theorem gX11_count_X7_together : GoodIn wsX11_count (wsV RX11 404 RX7 yX7_together wsX7_together) := goodIn_app (goodIn_r _ [26, 27, 28, 29] rfl (by decide +kernel)) ggX11_count_X7_together
set_option maxRecDepth 20000 in
theorem ggX12_init_X12_plain : GoodIn wsX12_init wsX12_plain := goodIn_r _ [30] rfl (by decide +kernel)
set_option maxRecDepth 20000 in
theorem gX12_init_X12_plain : GoodIn wsX12_init (va_wsS RX12 76 yX12_plain wsX12_plain) := goodIn_app (goodIn_r _ [27, 28, 29] rfl (by decide +kernel)) ggX12_init_X12_plain
set_option maxRecDepth 20000 in
theorem ggX12_keyAt_J0_length_8abf5 : GoodIn wsX12_keyAt wsJ0_length_8abf5 := goodIn_r _ [8, 9, 10, 11, 12, 7, 13, 14, 15] rfl (by decide +kernel)
set_option maxRecDepth 20000 in
theorem gX12_keyAt_J0_length_8abf5 : GoodIn wsX12_keyAt (wsV RX12 88 RJ0 yJ0_length_8abf5 wsJ0_length_8abf5) := goodIn_app (goodIn_r _ [4, 5, 6, 7] rfl (by decide +kernel)) ggX12_keyAt_J0_length_8abf5
set_option maxRecDepth 20000 in
theorem ggX12_keyAt_J0_charAt_5068e : GoodIn wsX12_keyAt wsJ0_charAt_5068e := goodIn_r _ [19, 9, 20, 21, 22, 7, 23, 14, 15, 24, 25, 26, 27, 28, 29, 30, 31, 32, 33, 34, 35, 36, 37, 38, 39, 40, 41, 42, 43, 44, 45, 46, 47, 48, 49, 50, 51, 52] rfl (by decide +kernel)
set_option maxRecDepth 20000 in
theorem gX12_keyAt_J0_charAt_5068e : GoodIn wsX12_keyAt (wsV RX12 94 RJ0 yJ0_charAt_5068e wsJ0_charAt_5068e) := goodIn_app (goodIn_r _ [16, 17, 18, 7] rfl (by decide +kernel)) ggX12_keyAt_J0_charAt_5068e
set_option maxRecDepth 20000 in
theorem ggX12_next_X12_see : GoodIn wsX12_next wsX12_see := goodIn_r _ [10, 3, 11, 71, 72, 73, 74, 75, 76, 77, 78, 79, 80, 81, 82, 83, 84, 85, 86, 87, 88, 89, 90, 91, 92, 93, 94, 95, 96, 97, 98, 99, 100, 101, 102] rfl (by decide +kernel)
